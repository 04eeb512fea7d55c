/-! CONTRACTS of the fit (printed by wip/gen/fam35.py). -/
/- MixStage.at ([II)I -/
noncomputable def s_199vk788 : vM := ([(2, 788, -1, 0), (0, -2147483648, 2147483647, 0)], (0, -2147483648, 2147483647, 0), 0, 0, [])
def postb_199vk788 (r a0 a1 : Int) (h0 h : gH) : Prop := r = atR h0 a0 a1
def post_199vk788 : List Int → gH → gH → Prop := fun xs h0 h => match xs with
  | [r, a0, a1] => postb_199vk788 r a0 a1 h0 h
  | _ => True
noncomputable def e_199vk788 : vE := (199, s_199vk788, pre0, post_199vk788)
noncomputable def L_199vk788 : List vE := []
def cs_199vk788 : List vC := []
def A_199vk788 : Int → List Int → gH → gH → Prop := fun c xs h0 h => True
def mu_199vk788 : Int → List Int → gH → gH → Nat := fun c xs h0 h => 0
theorem q_199vk788_0 {n0 n1 n2 : Int} {H0 : gH} (f0 : n0 ≤ 2147483647) (f1 : (-2147483648) ≤ n0) (f2 : hWt T0 H0 ∧ True) (f3 : n1 = -1) (f4 : n2 = 0) : postb_199vk788 n2 n1 n0 H0 H0 := by
  unfold postb_199vk788

  unfold atR
  first
  | (rw [if_neg (by omega)] <;> omega)
  | (rw [if_pos (by omega)] <;> omega)
theorem c_199vk788_s_0 : vOkm T0 (eP e_199vk788 L_199vk788 A_199vk788 mu_199vk788 none) 2 ([(0, [2], [], 0), (50, [0], [], 0), (6000, [0, 1], [0], 0), (90, [1], [], -2147483648), (91, [1], [], 2147483647)], (3000, [2], [0], 21)) := vOk_inI fun ρ η f0 f1 f2 f3 f4 => q_199vk788_0 (n0 := ρ 1) (n1 := ρ 0) (n2 := ρ 2) (H0 := η 0) f4 f3 f2 f1 f0
theorem q_199vk788_1 {n0 n1 n2 : Int} {H0 : gH} (f0 : n0 ≤ 2147483647) (f1 : (-2147483648) ≤ n0) (f2 : hWt T0 H0 ∧ True) (f3 : 0 ≤ n1) (f4 : n0 < 0) (f5 : n2 = 0) : postb_199vk788 n2 n1 n0 H0 H0 := by
  unfold postb_199vk788

  unfold atR
  first
  | (rw [if_neg (by omega)] <;> omega)
  | (rw [if_pos (by omega)] <;> omega)
theorem c_199vk788_s_1 : vOkm T0 (eP e_199vk788 L_199vk788 A_199vk788 mu_199vk788 none) 2 ([(0, [2], [], 0), (32, [1], [], 0), (51, [0], [], 0), (6000, [0, 1], [0], 0), (90, [1], [], -2147483648), (91, [1], [], 2147483647)], (3000, [2], [0], 21)) := vOk_inI fun ρ η f0 f1 f2 f3 f4 f5 => q_199vk788_1 (n0 := ρ 1) (n1 := ρ 0) (n2 := ρ 2) (H0 := η 0) f5 f4 f3 f2 f1 f0
theorem q_199vk788_2 {n0 n1 n2 n3 : Int} {H0 : gH} (f0 : n0 ≤ 2147483647) (f1 : (-2147483648) ≤ n0) (f2 : hWt T0 H0 ∧ True) (f3 : 0 ≤ n1) (f4 : 0 ≤ n0) (f5 : n2 = (hN H0 (n1).toNat : Int)) (f6 : n0 < n2) (f7 : n3 ≤ 2147483647) (f8 : (-2147483648) ≤ n3) (f9 : n3 = hV H0 (n1).toNat (n0).toNat) : postb_199vk788 n3 n1 n0 H0 H0 := by
  unfold postb_199vk788

  unfold atR
  first
  | (rw [if_neg (by omega)] <;> omega)
  | (rw [if_pos (by omega)] <;> omega)
theorem c_199vk788_s_2 : vOkm T0 (eP e_199vk788 L_199vk788 A_199vk788 mu_199vk788 none) 2 ([(22, [3, 0, 1], [0], 0), (90, [3], [], -2147483648), (91, [3], [], 2147483647), (42, [1, 2], [], 0), (21, [2, 0], [0], 0), (33, [1], [], 0), (51, [0], [], 0), (6000, [0, 1], [0], 0), (90, [1], [], -2147483648), (91, [1], [], 2147483647)], (3000, [3], [0], 21)) := vOk_inI fun ρ η f0 f1 f2 f3 f4 f5 f6 f7 f8 f9 => q_199vk788_2 (n0 := ρ 1) (n1 := ρ 0) (n2 := ρ 2) (n3 := ρ 3) (H0 := η 0) f9 f8 f7 f6 f5 f4 f3 f2 f1 f0
theorem q_199vk788_3 {n0 n1 n2 n3 : Int} {H0 : gH} (f0 : n0 ≤ 2147483647) (f1 : (-2147483648) ≤ n0) (f2 : hWt T0 H0 ∧ True) (f3 : 0 ≤ n1) (f4 : 0 ≤ n0) (f5 : n2 = (hN H0 (n1).toNat : Int)) (f6 : n2 ≤ n0) (f7 : n3 = 0) : postb_199vk788 n3 n1 n0 H0 H0 := by
  unfold postb_199vk788

  unfold atR
  first
  | (rw [if_neg (by omega)] <;> omega)
  | (rw [if_pos (by omega)] <;> omega)
theorem c_199vk788_s_3 : vOkm T0 (eP e_199vk788 L_199vk788 A_199vk788 mu_199vk788 none) 2 ([(0, [3], [], 0), (43, [1, 2], [], 0), (21, [2, 0], [0], 0), (33, [1], [], 0), (51, [0], [], 0), (6000, [0, 1], [0], 0), (90, [1], [], -2147483648), (91, [1], [], 2147483647)], (3000, [3], [0], 21)) := vOk_inI fun ρ η f0 f1 f2 f3 f4 f5 f6 f7 => q_199vk788_3 (n0 := ρ 1) (n1 := ρ 0) (n2 := ρ 2) (n3 := ρ 3) (H0 := η 0) f7 f6 f5 f4 f3 f2 f1 f0
def p_199vk788_s : List vG := [([(0, [2], [], 0), (50, [0], [], 0), (6000, [0, 1], [0], 0), (90, [1], [], -2147483648), (91, [1], [], 2147483647)], (3000, [2], [0], 21)),
  ([(0, [2], [], 0), (32, [1], [], 0), (51, [0], [], 0), (6000, [0, 1], [0], 0), (90, [1], [], -2147483648), (91, [1], [], 2147483647)], (3000, [2], [0], 21)),
  ([(22, [3, 0, 1], [0], 0), (90, [3], [], -2147483648), (91, [3], [], 2147483647), (42, [1, 2], [], 0), (21, [2, 0], [0], 0), (33, [1], [], 0), (51, [0], [], 0), (6000, [0, 1], [0], 0), (90, [1], [], -2147483648), (91, [1], [], 2147483647)], (3000, [3], [0], 21)),
  ([(0, [3], [], 0), (43, [1, 2], [], 0), (21, [2, 0], [0], 0), (33, [1], [], 0), (51, [0], [], 0), (6000, [0, 1], [0], 0), (90, [1], [], -2147483648), (91, [1], [], 2147483647)], (3000, [3], [0], 21))]
theorem r_199vk788_s : vCovO false (eR0 e_199vk788 L_199vk788 cs_199vk788 2000) p_199vk788_s = true := by decide +kernel
theorem m_199vk788 (d : Nat) : eC e_199vk788 (d + 1) := eC_ok (e := e_199vk788) (L := L_199vk788) (cs := cs_199vk788) (n := 2000) (d := d + 0) (A := A_199vk788) (μ := mu_199vk788) (tp := false) (p0 := p_199vk788_s) rfl trivial rfl (.inr pre0_ok) (by decide +kernel) (fun z => nomatch z) r_199vk788_s (allC c_199vk788_s_0 (allC c_199vk788_s_1 (allC c_199vk788_s_2 (allC c_199vk788_s_3 allN)))) allN
/- java/lang/Math.abs (I)I -/
noncomputable def s_316v : vM := ([(0, -2147483648, 2147483647, 0)], (0, -2147483648, 2147483647, 0), 0, 0, [])
def postb_316v (r a0 : Int) (h0 h : gH) : Prop := (0 ≤ a0 ∧ r = a0) ∨ (a0 < 0 ∧ (a0 = -2147483648 ∨ r = -a0))
def post_316v : List Int → gH → gH → Prop := fun xs h0 h => match xs with
  | [r, a0] => postb_316v r a0 h0 h
  | _ => True
noncomputable def e_316v : vE := (316, s_316v, pre0, post_316v)
noncomputable def L_316v : List vE := []
def cs_316v : List vC := []
def A_316v : Int → List Int → gH → gH → Prop := fun c xs h0 h => True
def mu_316v : Int → List Int → gH → gH → Nat := fun c xs h0 h => 0
theorem q_316v_0 {n0 : Int} {H0 : gH} (f0 : n0 ≤ 2147483647) (f1 : (-2147483648) ≤ n0) (f2 : hWt T0 H0 ∧ True) (f3 : 0 ≤ n0) : postb_316v n0 n0 H0 H0 := by
  unfold postb_316v
  omega
theorem c_316v_s_0 : vOkm T0 (eP e_316v L_316v A_316v mu_316v none) 1 ([(33, [0], [], 0), (6000, [0], [0], 0), (90, [0], [], -2147483648), (91, [0], [], 2147483647)], (3000, [0], [0], 10)) := vOk_inI fun ρ η f0 f1 f2 f3 => q_316v_0 (n0 := ρ 0) (H0 := η 0) f3 f2 f1 f0
theorem q_316v_1 {n0 n1 : Int} {H0 : gH} (f0 : n0 ≤ 2147483647) (f1 : (-2147483648) ≤ n0) (f2 : hWt T0 H0 ∧ True) (f3 : n0 < 0) (f4 : n1 = w32 (-n0)) : postb_316v n1 n0 H0 H0 := by
  unfold postb_316v
  unfold w32 at f4
  omega
theorem c_316v_s_1 : vOkm T0 (eP e_316v L_316v A_316v mu_316v none) 1 ([(14, [1, 0], [], 0), (32, [0], [], 0), (6000, [0], [0], 0), (90, [0], [], -2147483648), (91, [0], [], 2147483647)], (3000, [1], [0], 10)) := vOk_inI fun ρ η f0 f1 f2 f3 f4 => q_316v_1 (n0 := ρ 0) (n1 := ρ 1) (H0 := η 0) f4 f3 f2 f1 f0
def p_316v_s : List vG := [([(33, [0], [], 0), (6000, [0], [0], 0), (90, [0], [], -2147483648), (91, [0], [], 2147483647)], (3000, [0], [0], 10)),
  ([(14, [1, 0], [], 0), (32, [0], [], 0), (6000, [0], [0], 0), (90, [0], [], -2147483648), (91, [0], [], 2147483647)], (3000, [1], [0], 10))]
theorem r_316v_s : vCovO false (eR0 e_316v L_316v cs_316v 2000) p_316v_s = true := by decide +kernel
theorem m_316v (d : Nat) : eC e_316v (d + 1) := eC_ok (e := e_316v) (L := L_316v) (cs := cs_316v) (n := 2000) (d := d + 0) (A := A_316v) (μ := mu_316v) (tp := false) (p0 := p_316v_s) rfl trivial rfl (.inr pre0_ok) (by decide +kernel) (fun z => nomatch z) r_316v_s (allC c_316v_s_0 (allC c_316v_s_1 allN)) allN
/- Tracer.isMet (LMixStage$Sound;II)Z -/
noncomputable def s_150v : vM := ([(3, 7, -1, 0), (0, -2147483648, 2147483647, 0), (0, -2147483648, 2147483647, 0)], (0, 0, 1, 0), 1, 0, [])
def preb_150v (a0 a1 a2 : Int) (h : gH) : Prop := 0 ≤ a2 ∧ a2 ≤ 9 ∧ -1000 ≤ a1 ∧ a1 ≤ 1000 ∧ MBo h a0
def pre_150v : List Int → gH → Prop := fun xs h => match xs with
  | [a0, a1, a2] => preb_150v a0 a1 a2 h
  | _ => False
def postb_150v (r a0 a1 a2 : Int) (h0 h : gH) : Prop := r = mtB (mo h0 a0) a1 a2 (hV h0 (a0).toNat 7).toNat
def post_150v : List Int → gH → gH → Prop := fun xs h0 h => match xs with
  | [r, a0, a1, a2] => postb_150v r a0 a1 a2 h0 h
  | _ => True
noncomputable def e_150v : vE := (150, s_150v, pre_150v, post_150v)
noncomputable def L_150v : List vE := [e_199vk788, e_316v]
def cs_150v : List vC := [(2, [(0, (3, 7, -1, 0)), (1, (0, -2147483648, 2147483647, 0)), (2, (0, -2147483648, 2147483647, 0)), (3, (0, -2147483648, 2147483647, 0))])]
def Ab_150v_2 (a0 a1 a2 x0 x1 x2 x3 : Int) (h0 h : gH) : Prop := x0 = a0 ∧ x1 = a1 ∧ x2 = a2 ∧ 0 ≤ x3 ∧ x3 ≤ (hV h0 (a0).toNat 7) ∧ mtB (mo h0 a0) a1 a2 (x3).toNat = 0
def mub_150v_2 (a0 a1 a2 x0 x1 x2 x3 : Int) (h0 h : gH) : Nat := (2147483648 - x3).toNat
def A_150v : Int → List Int → gH → gH → Prop := fun c xs h0 h => match c.toNat with
  | 2 => (match xs with
    | [a0, a1, a2, x0, x1, x2, x3] => Ab_150v_2 a0 a1 a2 x0 x1 x2 x3 h0 h
    | _ => False)
  | _ => True
def mu_150v : Int → List Int → gH → gH → Nat := fun c xs h0 h => match c.toNat with
  | 2 => (match xs with
    | [a0, a1, a2, x0, x1, x2, x3] => mub_150v_2 a0 a1 a2 x0 x1 x2 x3 h0 h
    | _ => 0)
  | _ => 0
theorem q_150v_0 {n0 n1 n2 n3 : Int} {H0 : gH} (f0 : n0 ≤ 2147483647) (f1 : (-2147483648) ≤ n0) (f2 : n1 ≤ 2147483647) (f3 : (-2147483648) ≤ n1) (f4 : 0 ≤ n2) (f5 : hWt T0 H0 ∧ preb_150v n2 n1 n0 H0) (f6 : n3 = 0) : Ab_150v_2 n2 n1 n0 n2 n1 n0 n3 H0 H0 ∧ ∀ q, none = some q → mub_150v_2 n2 n1 n0 n2 n1 n0 n3 H0 H0 < q := by
  unfold preb_150v at f5
  unfold Ab_150v_2

  have pz := f5.2
  unfold MBo at pz
  refine ⟨⟨rfl, rfl, rfl, by omega, by omega, ?_⟩, fun q hq => nomatch hq⟩
  rw [show (n3).toNat = 0 by omega]
  rfl
theorem c_150v_s_0 : vOkm T0 (eP e_150v L_150v A_150v mu_150v none) 3 ([(0, [3], [], 0), (6000, [0, 1, 2], [0], 0), (51, [0], [], 0), (90, [1], [], -2147483648), (91, [1], [], 2147483647), (90, [2], [], -2147483648), (91, [2], [], 2147483647)], (4000, [0, 1, 2, 3], [0], 2)) := vOk_inI fun ρ η f0 f1 f2 f3 f4 f5 f6 => q_150v_0 (n0 := ρ 2) (n1 := ρ 1) (n2 := ρ 0) (n3 := ρ 3) (H0 := η 0) f6 f5 f4 f3 f2 f1 f0
def p_150v_s : List vG := [([(0, [3], [], 0), (6000, [0, 1, 2], [0], 0), (51, [0], [], 0), (90, [1], [], -2147483648), (91, [1], [], 2147483647), (90, [2], [], -2147483648), (91, [2], [], 2147483647)], (4000, [0, 1, 2, 3], [0], 2))]
theorem r_150v_s : vCovO false (eR0 e_150v L_150v cs_150v 2000) p_150v_s = true := by decide +kernel
theorem q_150v_1 {q0 : Nat} {n0 n1 n2 n3 n4 n5 n6 n7 n8 : Int} {H0 H1 : gH} (f0 : n0 ≤ 2147483647) (f1 : (-2147483648) ≤ n0) (f2 : n1 ≤ 2147483647) (f3 : (-2147483648) ≤ n1) (f4 : n2 ≤ 2147483647) (f5 : (-2147483648) ≤ n2) (f6 : 0 ≤ n3) (f7 : n4 ≤ 2147483647) (f8 : (-2147483648) ≤ n4) (f9 : n5 ≤ 2147483647) (f10 : (-2147483648) ≤ n5) (f11 : 0 ≤ n6) (f12 : (hLe T0 H0 H1 ∧ hFr s_150v.2.2.2.2 H0 H1 ∧ hWt T0 H1) ∧ (Ab_150v_2 n6 n5 n4 n3 n2 n1 n0 H0 H1 ∧ preb_150v n6 n5 n4 H0) ∧ some q0 = some (mub_150v_2 n6 n5 n4 n3 n2 n1 n0 H0 H1)) (f13 : n7 ≤ 2147483647) (f14 : (-2147483648) ≤ n7) (f15 : hK H1 (n3).toNat = 7) (f16 : n7 = hV H1 (n3).toNat 7) (f17 : n7 ≤ n0) (f18 : n8 = 0) : postb_150v n8 n6 n5 n4 H0 H1 := by
  have pz := f12.2.1.2
  unfold preb_150v at pz
  have pb := pz.2.2.2.2
  unfold MBo at pb
  have ga := f12.2.1.1
  unfold Ab_150v_2 at ga
  obtain ⟨k0, k1, k2, k3, k4, y⟩ := ga
  have en : hV H1 (n6).toNat 7 = hV H0 (n6).toNat 7 := f12.1.2.1.2.2 _ 7 pb.1 rfl 7 (by decide +kernel)
  have er : hV H1 (n6).toNat 5 = hV H0 (n6).toNat 5 := f12.1.2.1.2.2 _ 7 pb.1 rfl 5 (by decide +kernel)
  have rn := f16
  rw [show n3 = n6 from k0, en] at rn
  rw [show (n0).toNat = (hV H0 (n6).toNat 7).toNat by omega] at y
  unfold postb_150v
  rw [y]
  omega
theorem c_150v_2_0 {q0 : Nat} : vOkm T0 (eP e_150v L_150v A_150v mu_150v (some q0)) 3 ([(0, [8], [], 0), (43, [6, 7], [], 0), (20, [7, 3], [1], 7), (23, [3], [1], 7), (90, [7], [], -2147483648), (91, [7], [], 2147483647), (5000, [0, 1, 2, 3, 4, 5, 6], [0, 1], 2), (51, [0], [], 0), (90, [1], [], -2147483648), (91, [1], [], 2147483647), (90, [2], [], -2147483648), (91, [2], [], 2147483647), (51, [3], [], 0), (90, [4], [], -2147483648), (91, [4], [], 2147483647), (90, [5], [], -2147483648), (91, [5], [], 2147483647), (90, [6], [], -2147483648), (91, [6], [], 2147483647)], (3000, [8], [1], 36)) := vOk_inI fun ρ η f0 f1 f2 f3 f4 f5 f6 f7 f8 f9 f10 f11 f12 f13 f14 f15 f16 f17 f18 => q_150v_1 (q0 := q0) (n0 := ρ 6) (n1 := ρ 5) (n2 := ρ 4) (n3 := ρ 3) (n4 := ρ 2) (n5 := ρ 1) (n6 := ρ 0) (n7 := ρ 7) (n8 := ρ 8) (H0 := η 0) (H1 := η 1) f18 f17 f16 f15 f14 f13 f12 f11 f10 f9 f8 f7 f6 f5 f4 f3 f2 f1 f0
theorem q_150v_2 {q0 : Nat} {n0 n1 n2 n3 n4 n5 n6 n7 n8 n9 n10 n11 n12 : Int} {H0 H1 H2 H3 : gH} (f0 : n0 ≤ 2147483647) (f1 : (-2147483648) ≤ n0) (f2 : n1 ≤ 2147483647) (f3 : (-2147483648) ≤ n1) (f4 : n2 ≤ 2147483647) (f5 : (-2147483648) ≤ n2) (f6 : 0 ≤ n3) (f7 : n4 ≤ 2147483647) (f8 : (-2147483648) ≤ n4) (f9 : n5 ≤ 2147483647) (f10 : (-2147483648) ≤ n5) (f11 : 0 ≤ n6) (f12 : (hLe T0 H0 H1 ∧ hFr s_150v.2.2.2.2 H0 H1 ∧ hWt T0 H1) ∧ (Ab_150v_2 n6 n5 n4 n3 n2 n1 n0 H0 H1 ∧ preb_150v n6 n5 n4 H0) ∧ some q0 = some (mub_150v_2 n6 n5 n4 n3 n2 n1 n0 H0 H1)) (f13 : n7 ≤ 2147483647) (f14 : (-2147483648) ≤ n7) (f15 : hK H1 (n3).toNat = 7) (f16 : n7 = hV H1 (n3).toNat 7) (f17 : n0 < n7) (f18 : 0 ≤ n8) (f19 : hK H1 (n3).toNat = 7) (f20 : n8 = hV H1 (n3).toNat 5) (f21 : n9 ≤ 2147483647) (f22 : (-2147483648) ≤ n9) (f23 : (hLe T0 H1 H2 ∧ hFr s_199vk788.2.2.2.2 H1 H2 ∧ ((0 : Int) = 0 → H2.length = H1.length) ∧ hWt T0 H2) ∧ postb_199vk788 n9 n8 n0 H1 H2) (f24 : n10 = w32 (n9 - n2)) (f25 : n11 ≤ 2147483647) (f26 : (-2147483648) ≤ n11) (f27 : (hLe T0 H2 H3 ∧ hFr s_316v.2.2.2.2 H2 H3 ∧ ((0 : Int) = 0 → H3.length = H2.length) ∧ hWt T0 H3) ∧ postb_316v n11 n10 H2 H3) (f28 : n1 < n11) (f29 : n12 = w32 (n0 + 1)) : Ab_150v_2 n6 n5 n4 n3 n2 n1 n12 H0 H3 ∧ ∀ q, some q0 = some q → mub_150v_2 n6 n5 n4 n3 n2 n1 n12 H0 H3 < q := by
  have pz := f12.2.1.2
  unfold preb_150v at pz
  have pb := pz.2.2.2.2
  unfold MBo at pb
  have ga := f12.2.1.1
  unfold Ab_150v_2 at ga
  obtain ⟨k0, k1, k2, k3, k4, y⟩ := ga
  have en : hV H1 (n6).toNat 7 = hV H0 (n6).toNat 7 := f12.1.2.1.2.2 _ 7 pb.1 rfl 7 (by decide +kernel)
  have er : hV H1 (n6).toNat 5 = hV H0 (n6).toNat 5 := f12.1.2.1.2.2 _ 7 pb.1 rfl 5 (by decide +kernel)
  have rn := f16
  rw [show n3 = n6 from k0, en] at rn
  have rr := f20
  rw [show n3 = n6 from k0, er] at rr
  have pa := f23.2
  unfold postb_199vk788 at pa
  have hg : n9 = mo H0 n6 (n0).toNat := by
    rw [pa, rr]
    unfold mo
    rw [Int.toNat_of_nonneg k3]
    exact atR_fr f12.1.1 f12.1.2.1 pb.2.2.1 (by decide +kernel) _
  have gb := pb.2.2.2.2.2 (n0).toNat (by omega)
  rw [← hg] at gb
  unfold w32 at *
  have pq := f27.2
  unfold postb_316v at pq
  have g5 := Option.some.inj f12.2.2
  unfold mub_150v_2 at g5
  unfold Ab_150v_2 mub_150v_2
  refine ⟨⟨k0, k1, k2, by omega, by omega, ?_⟩, fun q hq => ?_⟩
  · rw [show (n12).toNat = (n0).toNat + 1 by omega, mtB_no (by rw [← hg]; omega)]
    exact y
  · have g6 := Option.some.inj hq
    subst g6
    omega
theorem c_150v_2_1 {q0 : Nat} : vOkm T0 (eP e_150v L_150v A_150v mu_150v (some q0)) 3 ([(10, [12, 6], [], 1), (44, [11, 5], [], 0), (1316, [11, 10], [2, 3], 0), (90, [11], [], -2147483648), (91, [11], [], 2147483647), (2, [10, 9, 4], [], 0), (1199, [9, 8, 6], [1, 2], 0), (90, [9], [], -2147483648), (91, [9], [], 2147483647), (20, [8, 3], [1], 5), (23, [3], [1], 7), (51, [8], [], 0), (42, [6, 7], [], 0), (20, [7, 3], [1], 7), (23, [3], [1], 7), (90, [7], [], -2147483648), (91, [7], [], 2147483647), (5000, [0, 1, 2, 3, 4, 5, 6], [0, 1], 2), (51, [0], [], 0), (90, [1], [], -2147483648), (91, [1], [], 2147483647), (90, [2], [], -2147483648), (91, [2], [], 2147483647), (51, [3], [], 0), (90, [4], [], -2147483648), (91, [4], [], 2147483647), (90, [5], [], -2147483648), (91, [5], [], 2147483647), (90, [6], [], -2147483648), (91, [6], [], 2147483647)], (4000, [3, 4, 5, 12], [3], 2)) := vOk_inI fun ρ η f0 f1 f2 f3 f4 f5 f6 f7 f8 f9 f10 f11 f12 f13 f14 f15 f16 f17 f18 f19 f20 f21 f22 f23 f24 f25 f26 f27 f28 f29 => q_150v_2 (q0 := q0) (n0 := ρ 6) (n1 := ρ 5) (n2 := ρ 4) (n3 := ρ 3) (n4 := ρ 2) (n5 := ρ 1) (n6 := ρ 0) (n7 := ρ 7) (n8 := ρ 8) (n9 := ρ 9) (n10 := ρ 10) (n11 := ρ 11) (n12 := ρ 12) (H0 := η 0) (H1 := η 1) (H2 := η 2) (H3 := η 3) f29 f28 f27 f26 f25 f24 f23 f22 f21 f20 f19 f18 f17 f16 f15 f14 f13 f12 f11 f10 f9 f8 f7 f6 f5 f4 f3 f2 f1 f0
theorem q_150v_3 {q0 : Nat} {n0 n1 n2 n3 n4 n5 n6 n7 n8 n9 n10 n11 n12 : Int} {H0 H1 H2 H3 : gH} (f0 : n0 ≤ 2147483647) (f1 : (-2147483648) ≤ n0) (f2 : n1 ≤ 2147483647) (f3 : (-2147483648) ≤ n1) (f4 : n2 ≤ 2147483647) (f5 : (-2147483648) ≤ n2) (f6 : 0 ≤ n3) (f7 : n4 ≤ 2147483647) (f8 : (-2147483648) ≤ n4) (f9 : n5 ≤ 2147483647) (f10 : (-2147483648) ≤ n5) (f11 : 0 ≤ n6) (f12 : (hLe T0 H0 H1 ∧ hFr s_150v.2.2.2.2 H0 H1 ∧ hWt T0 H1) ∧ (Ab_150v_2 n6 n5 n4 n3 n2 n1 n0 H0 H1 ∧ preb_150v n6 n5 n4 H0) ∧ some q0 = some (mub_150v_2 n6 n5 n4 n3 n2 n1 n0 H0 H1)) (f13 : n7 ≤ 2147483647) (f14 : (-2147483648) ≤ n7) (f15 : hK H1 (n3).toNat = 7) (f16 : n7 = hV H1 (n3).toNat 7) (f17 : n0 < n7) (f18 : 0 ≤ n8) (f19 : hK H1 (n3).toNat = 7) (f20 : n8 = hV H1 (n3).toNat 5) (f21 : n9 ≤ 2147483647) (f22 : (-2147483648) ≤ n9) (f23 : (hLe T0 H1 H2 ∧ hFr s_199vk788.2.2.2.2 H1 H2 ∧ ((0 : Int) = 0 → H2.length = H1.length) ∧ hWt T0 H2) ∧ postb_199vk788 n9 n8 n0 H1 H2) (f24 : n10 = w32 (n9 - n2)) (f25 : n11 ≤ 2147483647) (f26 : (-2147483648) ≤ n11) (f27 : (hLe T0 H2 H3 ∧ hFr s_316v.2.2.2.2 H2 H3 ∧ ((0 : Int) = 0 → H3.length = H2.length) ∧ hWt T0 H3) ∧ postb_316v n11 n10 H2 H3) (f28 : n11 ≤ n1) (f29 : n12 = 1) : postb_150v n12 n6 n5 n4 H0 H3 := by
  have pz := f12.2.1.2
  unfold preb_150v at pz
  have pb := pz.2.2.2.2
  unfold MBo at pb
  have ga := f12.2.1.1
  unfold Ab_150v_2 at ga
  obtain ⟨k0, k1, k2, k3, k4, y⟩ := ga
  have en : hV H1 (n6).toNat 7 = hV H0 (n6).toNat 7 := f12.1.2.1.2.2 _ 7 pb.1 rfl 7 (by decide +kernel)
  have er : hV H1 (n6).toNat 5 = hV H0 (n6).toNat 5 := f12.1.2.1.2.2 _ 7 pb.1 rfl 5 (by decide +kernel)
  have rn := f16
  rw [show n3 = n6 from k0, en] at rn
  have rr := f20
  rw [show n3 = n6 from k0, er] at rr
  have pa := f23.2
  unfold postb_199vk788 at pa
  have hg : n9 = mo H0 n6 (n0).toNat := by
    rw [pa, rr]
    unfold mo
    rw [Int.toNat_of_nonneg k3]
    exact atR_fr f12.1.1 f12.1.2.1 pb.2.2.1 (by decide +kernel) _
  have gb := pb.2.2.2.2.2 (n0).toNat (by omega)
  rw [← hg] at gb
  unfold w32 at *
  have pq := f27.2
  unfold postb_316v at pq
  unfold postb_150v
  rw [mtB_hit (i := (n0).toNat) (n := (hV H0 (n6).toNat 7).toNat) (by rw [← hg]; omega) (by omega)]
  omega
theorem c_150v_2_2 {q0 : Nat} : vOkm T0 (eP e_150v L_150v A_150v mu_150v (some q0)) 3 ([(0, [12], [], 1), (45, [11, 5], [], 0), (1316, [11, 10], [2, 3], 0), (90, [11], [], -2147483648), (91, [11], [], 2147483647), (2, [10, 9, 4], [], 0), (1199, [9, 8, 6], [1, 2], 0), (90, [9], [], -2147483648), (91, [9], [], 2147483647), (20, [8, 3], [1], 5), (23, [3], [1], 7), (51, [8], [], 0), (42, [6, 7], [], 0), (20, [7, 3], [1], 7), (23, [3], [1], 7), (90, [7], [], -2147483648), (91, [7], [], 2147483647), (5000, [0, 1, 2, 3, 4, 5, 6], [0, 1], 2), (51, [0], [], 0), (90, [1], [], -2147483648), (91, [1], [], 2147483647), (90, [2], [], -2147483648), (91, [2], [], 2147483647), (51, [3], [], 0), (90, [4], [], -2147483648), (91, [4], [], 2147483647), (90, [5], [], -2147483648), (91, [5], [], 2147483647), (90, [6], [], -2147483648), (91, [6], [], 2147483647)], (3000, [12], [3], 28)) := vOk_inI fun ρ η f0 f1 f2 f3 f4 f5 f6 f7 f8 f9 f10 f11 f12 f13 f14 f15 f16 f17 f18 f19 f20 f21 f22 f23 f24 f25 f26 f27 f28 f29 => q_150v_3 (q0 := q0) (n0 := ρ 6) (n1 := ρ 5) (n2 := ρ 4) (n3 := ρ 3) (n4 := ρ 2) (n5 := ρ 1) (n6 := ρ 0) (n7 := ρ 7) (n8 := ρ 8) (n9 := ρ 9) (n10 := ρ 10) (n11 := ρ 11) (n12 := ρ 12) (H0 := η 0) (H1 := η 1) (H2 := η 2) (H3 := η 3) f29 f28 f27 f26 f25 f24 f23 f22 f21 f20 f19 f18 f17 f16 f15 f14 f13 f12 f11 f10 f9 f8 f7 f6 f5 f4 f3 f2 f1 f0
def p_150v_2 : List vG := [([(0, [8], [], 0), (43, [6, 7], [], 0), (20, [7, 3], [1], 7), (23, [3], [1], 7), (90, [7], [], -2147483648), (91, [7], [], 2147483647), (5000, [0, 1, 2, 3, 4, 5, 6], [0, 1], 2), (51, [0], [], 0), (90, [1], [], -2147483648), (91, [1], [], 2147483647), (90, [2], [], -2147483648), (91, [2], [], 2147483647), (51, [3], [], 0), (90, [4], [], -2147483648), (91, [4], [], 2147483647), (90, [5], [], -2147483648), (91, [5], [], 2147483647), (90, [6], [], -2147483648), (91, [6], [], 2147483647)], (3000, [8], [1], 36)),
  ([(10, [12, 6], [], 1), (44, [11, 5], [], 0), (1316, [11, 10], [2, 3], 0), (90, [11], [], -2147483648), (91, [11], [], 2147483647), (2, [10, 9, 4], [], 0), (1199, [9, 8, 6], [1, 2], 0), (90, [9], [], -2147483648), (91, [9], [], 2147483647), (20, [8, 3], [1], 5), (23, [3], [1], 7), (51, [8], [], 0), (42, [6, 7], [], 0), (20, [7, 3], [1], 7), (23, [3], [1], 7), (90, [7], [], -2147483648), (91, [7], [], 2147483647), (5000, [0, 1, 2, 3, 4, 5, 6], [0, 1], 2), (51, [0], [], 0), (90, [1], [], -2147483648), (91, [1], [], 2147483647), (90, [2], [], -2147483648), (91, [2], [], 2147483647), (51, [3], [], 0), (90, [4], [], -2147483648), (91, [4], [], 2147483647), (90, [5], [], -2147483648), (91, [5], [], 2147483647), (90, [6], [], -2147483648), (91, [6], [], 2147483647)], (4000, [3, 4, 5, 12], [3], 2)),
  ([(0, [12], [], 1), (45, [11, 5], [], 0), (1316, [11, 10], [2, 3], 0), (90, [11], [], -2147483648), (91, [11], [], 2147483647), (2, [10, 9, 4], [], 0), (1199, [9, 8, 6], [1, 2], 0), (90, [9], [], -2147483648), (91, [9], [], 2147483647), (20, [8, 3], [1], 5), (23, [3], [1], 7), (51, [8], [], 0), (42, [6, 7], [], 0), (20, [7, 3], [1], 7), (23, [3], [1], 7), (90, [7], [], -2147483648), (91, [7], [], 2147483647), (5000, [0, 1, 2, 3, 4, 5, 6], [0, 1], 2), (51, [0], [], 0), (90, [1], [], -2147483648), (91, [1], [], 2147483647), (90, [2], [], -2147483648), (91, [2], [], 2147483647), (51, [3], [], 0), (90, [4], [], -2147483648), (91, [4], [], 2147483647), (90, [5], [], -2147483648), (91, [5], [], 2147483647), (90, [6], [], -2147483648), (91, [6], [], 2147483647)], (3000, [12], [3], 28))]
theorem r_150v_2 : vCovO false (eRc e_150v L_150v cs_150v 2000 (2, [(0, (3, 7, -1, 0)), (1, (0, -2147483648, 2147483647, 0)), (2, (0, -2147483648, 2147483647, 0)), (3, (0, -2147483648, 2147483647, 0))])) p_150v_2 = true := by decide +kernel
theorem m_150v (d : Nat) : eC e_150v (d + 2) := eC_ok (e := e_150v) (L := L_150v) (cs := cs_150v) (n := 2000) (d := d + 1) (A := A_150v) (μ := mu_150v) (tp := false) (p0 := p_150v_s) rfl ⟨m_199vk788 d, ⟨m_316v d, trivial⟩⟩ rfl (.inl rfl) (by decide +kernel) (fun z => nomatch z) r_150v_s (allC c_150v_s_0 allN) (allC (.inl ⟨p_150v_2, r_150v_2, fun q0 => (allC c_150v_2_0 (allC c_150v_2_1 (allC c_150v_2_2 allN)))⟩) allN)
/- Tracer.tryStretch (LMixStage$Sound;LMixStage$Sound;III)V -/
noncomputable def s_149v : vM := ([(3, 9, 281, 0), (3, 7, -1, 0), (3, 7, -1, 0), (0, -2147483648, 2147483647, 0), (0, -2147483648, 2147483647, 0), (0, -2147483648, 2147483647, 0)], (9, 0, 0, 0), 1, 0, [(9, 5), (9, 6), (9, 7)])
def preb_149v (a0 a1 a2 a3 a4 a5 : Int) (h : gH) : Prop := 0 ≤ a3 ∧ a3 ≤ 9 ∧ -24 ≤ a4 ∧ a4 ≤ 24 ∧ 9 ≤ a5 ∧ a5 ≤ 11 ∧ MBo h a1 ∧ MBo h a2
def pre_149v : List Int → gH → Prop := fun xs h => match xs with
  | [a0, a1, a2, a3, a4, a5] => preb_149v a0 a1 a2 a3 a4 a5 h
  | _ => False
def postb_149v (a0 a1 a2 a3 a4 a5 : Int) (h0 h : gH) : Prop := (hV h 281 7, hV h 281 5, hV h 281 6) = fs (lkO h0 a1 a2 a3) a4 a5 (hV h0 281 7, hV h0 281 5, hV h0 281 6)
def post_149v : List Int → gH → gH → Prop := fun xs h0 h => match xs with
  | [a0, a1, a2, a3, a4, a5] => postb_149v a0 a1 a2 a3 a4 a5 h0 h
  | _ => True
noncomputable def e_149v : vE := (149, s_149v, pre_149v, post_149v)
noncomputable def L_149v : List vE := [e_150v, e_199vk788]
def cs_149v : List vC := [(6, [(0, (3, 9, 281, 0)), (1, (3, 7, -1, 0)), (2, (3, 7, -1, 0)), (3, (0, -2147483648, 2147483647, 0)), (4, (0, -2147483648, 2147483647, 0)), (5, (0, -2147483648, 2147483647, 0)), (6, (0, -2147483648, 2147483647, 0)), (7, (0, -2147483648, 2147483647, 0))])]
def Ab_149v_6 (a0 a1 a2 a3 a4 a5 x0 x1 x2 x3 x4 x5 x6 x7 : Int) (h0 h : gH) : Prop := x0 = a0 ∧ x1 = a1 ∧ x2 = a2 ∧ x3 = a3 ∧ x4 = a4 ∧ x5 = a5 ∧ 0 ≤ x7 ∧ x7 ≤ hV h0 (a1).toNat 7 ∧ x6 = lkB (mo h0 a1) (mo h0 a2) (hV h0 (a2).toNat 7).toNat a4 a5 a3 (x7).toNat ∧ 0 ≤ x6 ∧ x6 ≤ x7 ∧ hV h 281 7 = hV h0 281 7 ∧ hV h 281 5 = hV h0 281 5 ∧ hV h 281 6 = hV h0 281 6
def mub_149v_6 (a0 a1 a2 a3 a4 a5 x0 x1 x2 x3 x4 x5 x6 x7 : Int) (h0 h : gH) : Nat := (2147483648 - x7).toNat
def A_149v : Int → List Int → gH → gH → Prop := fun c xs h0 h => match c.toNat with
  | 6 => (match xs with
    | [a0, a1, a2, a3, a4, a5, x0, x1, x2, x3, x4, x5, x6, x7] => Ab_149v_6 a0 a1 a2 a3 a4 a5 x0 x1 x2 x3 x4 x5 x6 x7 h0 h
    | _ => False)
  | _ => True
def mu_149v : Int → List Int → gH → gH → Nat := fun c xs h0 h => match c.toNat with
  | 6 => (match xs with
    | [a0, a1, a2, a3, a4, a5, x0, x1, x2, x3, x4, x5, x6, x7] => mub_149v_6 a0 a1 a2 a3 a4 a5 x0 x1 x2 x3 x4 x5 x6 x7 h0 h
    | _ => 0)
  | _ => 0
theorem q_149v_0 {n0 n1 n2 n3 n4 n5 n6 n7 : Int} {H0 : gH} (f0 : n0 ≤ 2147483647) (f1 : (-2147483648) ≤ n0) (f2 : n1 ≤ 2147483647) (f3 : (-2147483648) ≤ n1) (f4 : n2 ≤ 2147483647) (f5 : (-2147483648) ≤ n2) (f6 : 0 ≤ n3) (f7 : 0 ≤ n4) (f8 : n5 = 281) (f9 : hWt T0 H0 ∧ preb_149v n5 n4 n3 n2 n1 n0 H0) (f10 : n6 = 0) (f11 : n7 = 0) : Ab_149v_6 n5 n4 n3 n2 n1 n0 n5 n4 n3 n2 n1 n0 n6 n7 H0 H0 ∧ ∀ q, none = some q → mub_149v_6 n5 n4 n3 n2 n1 n0 n5 n4 n3 n2 n1 n0 n6 n7 H0 H0 < q := by
  have pz := f9.2
  unfold preb_149v at pz
  have pb := pz.2.2.2.2.2.2.1
  unfold MBo at pb
  unfold Ab_149v_6
  refine ⟨⟨rfl, rfl, rfl, rfl, rfl, rfl, by omega, by omega, ?_, by omega, by omega, rfl, rfl, rfl⟩, fun q hq => nomatch hq⟩
  rw [show (n7).toNat = 0 by omega, lkB_zero]
  omega
theorem c_149v_s_0 : vOkm T0 (eP e_149v L_149v A_149v mu_149v none) 6 ([(0, [7], [], 0), (0, [6], [], 0), (6000, [0, 1, 2, 3, 4, 5], [0], 0), (0, [0], [], 281), (51, [1], [], 0), (51, [2], [], 0), (90, [3], [], -2147483648), (91, [3], [], 2147483647), (90, [4], [], -2147483648), (91, [4], [], 2147483647), (90, [5], [], -2147483648), (91, [5], [], 2147483647)], (4000, [0, 1, 2, 3, 4, 5, 6, 7], [0], 6)) := vOk_inI fun ρ η f0 f1 f2 f3 f4 f5 f6 f7 f8 f9 f10 f11 => q_149v_0 (n0 := ρ 5) (n1 := ρ 4) (n2 := ρ 3) (n3 := ρ 2) (n4 := ρ 1) (n5 := ρ 0) (n6 := ρ 6) (n7 := ρ 7) (H0 := η 0) f11 f10 f9 f8 f7 f6 f5 f4 f3 f2 f1 f0
def p_149v_s : List vG := [([(0, [7], [], 0), (0, [6], [], 0), (6000, [0, 1, 2, 3, 4, 5], [0], 0), (0, [0], [], 281), (51, [1], [], 0), (51, [2], [], 0), (90, [3], [], -2147483648), (91, [3], [], 2147483647), (90, [4], [], -2147483648), (91, [4], [], 2147483647), (90, [5], [], -2147483648), (91, [5], [], 2147483647)], (4000, [0, 1, 2, 3, 4, 5, 6, 7], [0], 6))]
theorem r_149v_s : vCovO false (eR0 e_149v L_149v cs_149v 2000) p_149v_s = true := by decide +kernel
theorem q_149v_1 {q0 : Nat} {n0 n1 n2 n3 n4 n5 n6 n7 n8 n9 n10 n11 n12 n13 n14 n15 : Int} {H0 H1 : gH} (f0 : n0 ≤ 2147483647) (f1 : (-2147483648) ≤ n0) (f2 : n1 ≤ 2147483647) (f3 : (-2147483648) ≤ n1) (f4 : n2 ≤ 2147483647) (f5 : (-2147483648) ≤ n2) (f6 : n3 ≤ 2147483647) (f7 : (-2147483648) ≤ n3) (f8 : n4 ≤ 2147483647) (f9 : (-2147483648) ≤ n4) (f10 : 0 ≤ n5) (f11 : 0 ≤ n6) (f12 : n7 = 281) (f13 : n8 ≤ 2147483647) (f14 : (-2147483648) ≤ n8) (f15 : n9 ≤ 2147483647) (f16 : (-2147483648) ≤ n9) (f17 : n10 ≤ 2147483647) (f18 : (-2147483648) ≤ n10) (f19 : 0 ≤ n11) (f20 : 0 ≤ n12) (f21 : n13 = 281) (f22 : (hLe T0 H0 H1 ∧ hFr s_149v.2.2.2.2 H0 H1 ∧ hWt T0 H1) ∧ (Ab_149v_6 n13 n12 n11 n10 n9 n8 n7 n6 n5 n4 n3 n2 n1 n0 H0 H1 ∧ preb_149v n13 n12 n11 n10 n9 n8 H0) ∧ some q0 = some (mub_149v_6 n13 n12 n11 n10 n9 n8 n7 n6 n5 n4 n3 n2 n1 n0 H0 H1)) (f23 : n14 ≤ 2147483647) (f24 : (-2147483648) ≤ n14) (f25 : hK H1 (n6).toNat = 7) (f26 : n14 = hV H1 (n6).toNat 7) (f27 : n14 ≤ n0) (f28 : n15 ≤ 2147483647) (f29 : (-2147483648) ≤ n15) (f30 : n15 = hV H1 (n7).toNat 7) (f31 : n15 ≤ n1) : postb_149v n13 n12 n11 n10 n9 n8 H0 H1 := by
  have pz := f22.2.1.2
  unfold preb_149v at pz
  obtain ⟨p1, p2, p3, p4, p5, p6, pb, pc⟩ := pz
  have pb2 := pb
  unfold MBo at pb2
  have ga := f22.2.1.1
  unfold Ab_149v_6 at ga
  obtain ⟨k0, k1, k2, k3, k4, k5, k7, k8, y, k9, k10, s1, s2, s3⟩ := ga
  have en := MBo_n f22.1.2.1 (by decide +kernel) pb
  have m1 := MBo_fr f22.1.1 f22.1.2.1 (by decide +kernel) pb
  have er : hV H1 (n12).toNat 5 = hV H0 (n12).toNat 5 := f22.1.2.1.2.2 _ 7 pb2.1 rfl 5 (by decide +kernel)
  have rn := f26
  rw [show n6 = n12 from k1, en] at rn
  rw [show (n0).toNat = (hV H0 (n12).toNat 7).toNat by omega] at y
  have hl : n1 = lkO H0 n12 n11 n10 n9 n8 := y
  have un := f30
  rw [f12] at un
  rw [show ((281 : Int)).toNat = 281 from rfl, s1] at un
  unfold postb_149v
  rw [s1, s2, s3]
  unfold fs
  rw [if_neg (by rw [← hl]; omega)]
theorem c_149v_6_0 {q0 : Nat} : vOkm T0 (eP e_149v L_149v A_149v mu_149v (some q0)) 6 ([(43, [12, 15], [], 0), (20, [15, 6], [1], 7), (90, [15], [], -2147483648), (91, [15], [], 2147483647), (43, [13, 14], [], 0), (20, [14, 7], [1], 7), (23, [7], [1], 7), (90, [14], [], -2147483648), (91, [14], [], 2147483647), (5000, [0, 1, 2, 3, 4, 5, 6, 7, 8, 9, 10, 11, 12, 13], [0, 1], 6), (0, [0], [], 281), (51, [1], [], 0), (51, [2], [], 0), (90, [3], [], -2147483648), (91, [3], [], 2147483647), (90, [4], [], -2147483648), (91, [4], [], 2147483647), (90, [5], [], -2147483648), (91, [5], [], 2147483647), (0, [6], [], 281), (51, [7], [], 0), (51, [8], [], 0), (90, [9], [], -2147483648), (91, [9], [], 2147483647), (90, [10], [], -2147483648), (91, [10], [], 2147483647), (90, [11], [], -2147483648), (91, [11], [], 2147483647), (90, [12], [], -2147483648), (91, [12], [], 2147483647), (90, [13], [], -2147483648), (91, [13], [], 2147483647)], (3000, [], [1], 88)) := vOk_inI fun ρ η f0 f1 f2 f3 f4 f5 f6 f7 f8 f9 f10 f11 f12 f13 f14 f15 f16 f17 f18 f19 f20 f21 f22 f23 f24 f25 f26 f27 f28 f29 f30 f31 => q_149v_1 (q0 := q0) (n0 := ρ 13) (n1 := ρ 12) (n2 := ρ 11) (n3 := ρ 10) (n4 := ρ 9) (n5 := ρ 8) (n6 := ρ 7) (n7 := ρ 6) (n8 := ρ 5) (n9 := ρ 4) (n10 := ρ 3) (n11 := ρ 2) (n12 := ρ 1) (n13 := ρ 0) (n14 := ρ 14) (n15 := ρ 15) (H0 := η 0) (H1 := η 1) f31 f30 f29 f28 f27 f26 f25 f24 f23 f22 f21 f20 f19 f18 f17 f16 f15 f14 f13 f12 f11 f10 f9 f8 f7 f6 f5 f4 f3 f2 f1 f0
theorem q_149v_2 {q0 : Nat} {n0 n1 n2 n3 n4 n5 n6 n7 n8 n9 n10 n11 n12 n13 n14 n15 n16 n17 n18 : Int} {H0 H1 H2 H3 H4 : gH} (f0 : n0 ≤ 2147483647) (f1 : (-2147483648) ≤ n0) (f2 : n1 ≤ 2147483647) (f3 : (-2147483648) ≤ n1) (f4 : n2 ≤ 2147483647) (f5 : (-2147483648) ≤ n2) (f6 : n3 ≤ 2147483647) (f7 : (-2147483648) ≤ n3) (f8 : n4 ≤ 2147483647) (f9 : (-2147483648) ≤ n4) (f10 : 0 ≤ n5) (f11 : 0 ≤ n6) (f12 : n7 = 281) (f13 : n8 ≤ 2147483647) (f14 : (-2147483648) ≤ n8) (f15 : n9 ≤ 2147483647) (f16 : (-2147483648) ≤ n9) (f17 : n10 ≤ 2147483647) (f18 : (-2147483648) ≤ n10) (f19 : 0 ≤ n11) (f20 : 0 ≤ n12) (f21 : n13 = 281) (f22 : (hLe T0 H0 H1 ∧ hFr s_149v.2.2.2.2 H0 H1 ∧ hWt T0 H1) ∧ (Ab_149v_6 n13 n12 n11 n10 n9 n8 n7 n6 n5 n4 n3 n2 n1 n0 H0 H1 ∧ preb_149v n13 n12 n11 n10 n9 n8 H0) ∧ some q0 = some (mub_149v_6 n13 n12 n11 n10 n9 n8 n7 n6 n5 n4 n3 n2 n1 n0 H0 H1)) (f23 : n14 ≤ 2147483647) (f24 : (-2147483648) ≤ n14) (f25 : hK H1 (n6).toNat = 7) (f26 : n14 = hV H1 (n6).toNat 7) (f27 : n14 ≤ n0) (f28 : n15 ≤ 2147483647) (f29 : (-2147483648) ≤ n15) (f30 : n15 = hV H1 (n7).toNat 7) (f31 : n1 < n15) (f32 : n16 = 7) (f33 : hUpd H2 H1 n7 n16 n1) (f34 : n17 = 5) (f35 : hUpd H3 H2 n7 n17 n3) (f36 : n18 = 6) (f37 : hUpd H4 H3 n7 n18 n2) : postb_149v n13 n12 n11 n10 n9 n8 H0 H4 := by
  have pz := f22.2.1.2
  unfold preb_149v at pz
  obtain ⟨p1, p2, p3, p4, p5, p6, pb, pc⟩ := pz
  have pb2 := pb
  unfold MBo at pb2
  have ga := f22.2.1.1
  unfold Ab_149v_6 at ga
  obtain ⟨k0, k1, k2, k3, k4, k5, k7, k8, y, k9, k10, s1, s2, s3⟩ := ga
  have en := MBo_n f22.1.2.1 (by decide +kernel) pb
  have m1 := MBo_fr f22.1.1 f22.1.2.1 (by decide +kernel) pb
  have er : hV H1 (n12).toNat 5 = hV H0 (n12).toNat 5 := f22.1.2.1.2.2 _ 7 pb2.1 rfl 5 (by decide +kernel)
  have rn := f26
  rw [show n6 = n12 from k1, en] at rn
  rw [show (n0).toNat = (hV H0 (n12).toNat 7).toNat by omega] at y
  have hl : n1 = lkO H0 n12 n11 n10 n9 n8 := y
  have un := f30
  rw [f12] at un
  rw [show ((281 : Int)).toNat = 281 from rfl, s1] at un
  have w7 : hV H4 281 7 = n1 := (uSlot f37 281 7 (by rw [f36]; decide)).trans ((uSlot f35 281 7 (by rw [f34]; decide)).trans (uSame f33 281 7 (by rw [f12]; rfl) (by rw [f32]; rfl)))
  have w5 : hV H4 281 5 = n3 := (uSlot f37 281 5 (by rw [f36]; decide)).trans (uSame f35 281 5 (by rw [f12]; rfl) (by rw [f34]; rfl))
  have w6 : hV H4 281 6 = n2 := uSame f37 281 6 (by rw [f12]; rfl) (by rw [f36]; rfl)
  unfold postb_149v
  rw [w7, w5, w6]
  unfold fs
  rw [if_pos (by rw [← hl]; omega), ← hl, k4, k5]
theorem c_149v_6_1 {q0 : Nat} : vOkm T0 (eP e_149v L_149v A_149v mu_149v (some q0)) 6 ([(80, [6, 18, 11], [4, 3], 0), (0, [18], [], 6), (80, [6, 17, 10], [3, 2], 0), (0, [17], [], 5), (80, [6, 16, 12], [2, 1], 0), (0, [16], [], 7), (42, [12, 15], [], 0), (20, [15, 6], [1], 7), (90, [15], [], -2147483648), (91, [15], [], 2147483647), (43, [13, 14], [], 0), (20, [14, 7], [1], 7), (23, [7], [1], 7), (90, [14], [], -2147483648), (91, [14], [], 2147483647), (5000, [0, 1, 2, 3, 4, 5, 6, 7, 8, 9, 10, 11, 12, 13], [0, 1], 6), (0, [0], [], 281), (51, [1], [], 0), (51, [2], [], 0), (90, [3], [], -2147483648), (91, [3], [], 2147483647), (90, [4], [], -2147483648), (91, [4], [], 2147483647), (90, [5], [], -2147483648), (91, [5], [], 2147483647), (0, [6], [], 281), (51, [7], [], 0), (51, [8], [], 0), (90, [9], [], -2147483648), (91, [9], [], 2147483647), (90, [10], [], -2147483648), (91, [10], [], 2147483647), (90, [11], [], -2147483648), (91, [11], [], 2147483647), (90, [12], [], -2147483648), (91, [12], [], 2147483647), (90, [13], [], -2147483648), (91, [13], [], 2147483647)], (3000, [], [4], 88)) := vOk_inI fun ρ η f0 f1 f2 f3 f4 f5 f6 f7 f8 f9 f10 f11 f12 f13 f14 f15 f16 f17 f18 f19 f20 f21 f22 f23 f24 f25 f26 f27 f28 f29 f30 f31 f32 f33 f34 f35 f36 f37 => q_149v_2 (q0 := q0) (n0 := ρ 13) (n1 := ρ 12) (n2 := ρ 11) (n3 := ρ 10) (n4 := ρ 9) (n5 := ρ 8) (n6 := ρ 7) (n7 := ρ 6) (n8 := ρ 5) (n9 := ρ 4) (n10 := ρ 3) (n11 := ρ 2) (n12 := ρ 1) (n13 := ρ 0) (n14 := ρ 14) (n15 := ρ 15) (n16 := ρ 16) (n17 := ρ 17) (n18 := ρ 18) (H0 := η 0) (H1 := η 1) (H2 := η 2) (H3 := η 3) (H4 := η 4) f37 f36 f35 f34 f33 f32 f31 f30 f29 f28 f27 f26 f25 f24 f23 f22 f21 f20 f19 f18 f17 f16 f15 f14 f13 f12 f11 f10 f9 f8 f7 f6 f5 f4 f3 f2 f1 f0
theorem q_149v_3 {q0 : Nat} {n0 n1 n2 n3 n4 n5 n6 n7 n8 n9 n10 n11 n12 n13 n14 n15 n16 n17 n18 n19 n20 : Int} {H0 H1 H2 : gH} (f0 : n0 ≤ 2147483647) (f1 : (-2147483648) ≤ n0) (f2 : n1 ≤ 2147483647) (f3 : (-2147483648) ≤ n1) (f4 : n2 ≤ 2147483647) (f5 : (-2147483648) ≤ n2) (f6 : n3 ≤ 2147483647) (f7 : (-2147483648) ≤ n3) (f8 : n4 ≤ 2147483647) (f9 : (-2147483648) ≤ n4) (f10 : 0 ≤ n5) (f11 : 0 ≤ n6) (f12 : n7 = 281) (f13 : n8 ≤ 2147483647) (f14 : (-2147483648) ≤ n8) (f15 : n9 ≤ 2147483647) (f16 : (-2147483648) ≤ n9) (f17 : n10 ≤ 2147483647) (f18 : (-2147483648) ≤ n10) (f19 : 0 ≤ n11) (f20 : 0 ≤ n12) (f21 : n13 = 281) (f22 : (hLe T0 H0 H1 ∧ hFr s_149v.2.2.2.2 H0 H1 ∧ hWt T0 H1) ∧ (Ab_149v_6 n13 n12 n11 n10 n9 n8 n7 n6 n5 n4 n3 n2 n1 n0 H0 H1 ∧ preb_149v n13 n12 n11 n10 n9 n8 H0) ∧ some q0 = some (mub_149v_6 n13 n12 n11 n10 n9 n8 n7 n6 n5 n4 n3 n2 n1 n0 H0 H1)) (f23 : n14 ≤ 2147483647) (f24 : (-2147483648) ≤ n14) (f25 : hK H1 (n6).toNat = 7) (f26 : n14 = hV H1 (n6).toNat 7) (f27 : n0 < n14) (f28 : 0 ≤ n15) (f29 : hK H1 (n6).toNat = 7) (f30 : n15 = hV H1 (n6).toNat 5) (f31 : n16 ≤ 2147483647) (f32 : (-2147483648) ≤ n16) (f33 : (hLe T0 H1 H2 ∧ hFr s_199vk788.2.2.2.2 H1 H2 ∧ ((0 : Int) = 0 → H2.length = H1.length) ∧ hWt T0 H2) ∧ postb_199vk788 n16 n15 n0 H1 H2) (f34 : n17 = w32 (n16 * n2)) (f35 : n18 = 10) (f36 : n19 = o32 (fun x y => x / y) n17 n18) (f37 : n20 = w32 (n3 + n19)) : preb_150v n5 n20 n4 H2 := by
  have pz := f22.2.1.2
  unfold preb_149v at pz
  obtain ⟨p1, p2, p3, p4, p5, p6, pb, pc⟩ := pz
  have pb2 := pb
  unfold MBo at pb2
  have ga := f22.2.1.1
  unfold Ab_149v_6 at ga
  obtain ⟨k0, k1, k2, k3, k4, k5, k7, k8, y, k9, k10, s1, s2, s3⟩ := ga
  have en := MBo_n f22.1.2.1 (by decide +kernel) pb
  have m1 := MBo_fr f22.1.1 f22.1.2.1 (by decide +kernel) pb
  have er : hV H1 (n12).toNat 5 = hV H0 (n12).toNat 5 := f22.1.2.1.2.2 _ 7 pb2.1 rfl 5 (by decide +kernel)
  have rn := f26
  rw [show n6 = n12 from k1, en] at rn
  have rr := f30
  rw [show n6 = n12 from k1, er] at rr
  have pa := f33.2
  unfold postb_199vk788 at pa
  have hg : n16 = mo H0 n12 (n0).toNat := by
    rw [pa, rr]
    unfold mo
    rw [Int.toNat_of_nonneg k7]
    exact atR_fr f22.1.1 f22.1.2.1 pb2.2.2.1 (by decide +kernel) _
  have gb := pb2.2.2.2.2.2 (n0).toNat (by omega)
  rw [← hg] at gb
  have hm : n17 = n16 * n8 ∧ 0 ≤ n17 ∧ n17 ≤ 649 := by
    have z := f34
    rw [show n2 = n8 from k5] at z
    rcases (show n8 = 9 ∨ n8 = 10 ∨ n8 = 11 by omega) with t | t | t <;> rw [t] at z ⊢ <;> rw [w32_id (by omega) (by omega)] at z <;> omega
  have hd : n19 = n16 * n8 / 10 := by
    have z := f36
    rw [f35] at z
    have z2 := o32_div_pos z (by omega) (by omega) (by omega) (by omega)
    rw [z2, hm.1]
  have hs : n20 = n9 + mo H0 n12 (n0).toNat * n8 / 10 ∧ -24 ≤ n20 ∧ n20 ≤ 100 := by
    rw [← hg, ← hd]
    have z := f37
    unfold w32 at z
    omega
  have n1 := MBo_fr f22.1.1 f22.1.2.1 (by decide +kernel) pc
  have n2 := MBo_fr f33.1.1 f33.1.2.1 (by decide +kernel) n1
  unfold preb_150v
  refine ⟨by omega, by omega, by omega, by omega, ?_⟩
  rw [show n5 = n11 from k2]
  exact n2
theorem c_149v_6_2 {q0 : Nat} : vOkm T0 (eP e_149v L_149v A_149v mu_149v (some q0)) 6 ([(1, [20, 10, 19], [], 0), (11, [19, 17, 18], [], 0), (0, [18], [], 10), (3, [17, 16, 11], [], 0), (1199, [16, 15, 13], [1, 2], 0), (90, [16], [], -2147483648), (91, [16], [], 2147483647), (20, [15, 7], [1], 5), (23, [7], [1], 7), (51, [15], [], 0), (42, [13, 14], [], 0), (20, [14, 7], [1], 7), (23, [7], [1], 7), (90, [14], [], -2147483648), (91, [14], [], 2147483647), (5000, [0, 1, 2, 3, 4, 5, 6, 7, 8, 9, 10, 11, 12, 13], [0, 1], 6), (0, [0], [], 281), (51, [1], [], 0), (51, [2], [], 0), (90, [3], [], -2147483648), (91, [3], [], 2147483647), (90, [4], [], -2147483648), (91, [4], [], 2147483647), (90, [5], [], -2147483648), (91, [5], [], 2147483647), (0, [6], [], 281), (51, [7], [], 0), (51, [8], [], 0), (90, [9], [], -2147483648), (91, [9], [], 2147483647), (90, [10], [], -2147483648), (91, [10], [], 2147483647), (90, [11], [], -2147483648), (91, [11], [], 2147483647), (90, [12], [], -2147483648), (91, [12], [], 2147483647), (90, [13], [], -2147483648), (91, [13], [], 2147483647)], (2150, [8, 20, 9], [2], 0)) := vOk_inI fun ρ η f0 f1 f2 f3 f4 f5 f6 f7 f8 f9 f10 f11 f12 f13 f14 f15 f16 f17 f18 f19 f20 f21 f22 f23 f24 f25 f26 f27 f28 f29 f30 f31 f32 f33 f34 f35 f36 f37 => q_149v_3 (q0 := q0) (n0 := ρ 13) (n1 := ρ 12) (n2 := ρ 11) (n3 := ρ 10) (n4 := ρ 9) (n5 := ρ 8) (n6 := ρ 7) (n7 := ρ 6) (n8 := ρ 5) (n9 := ρ 4) (n10 := ρ 3) (n11 := ρ 2) (n12 := ρ 1) (n13 := ρ 0) (n14 := ρ 14) (n15 := ρ 15) (n16 := ρ 16) (n17 := ρ 17) (n18 := ρ 18) (n19 := ρ 19) (n20 := ρ 20) (H0 := η 0) (H1 := η 1) (H2 := η 2) f37 f36 f35 f34 f33 f32 f31 f30 f29 f28 f27 f26 f25 f24 f23 f22 f21 f20 f19 f18 f17 f16 f15 f14 f13 f12 f11 f10 f9 f8 f7 f6 f5 f4 f3 f2 f1 f0
theorem kF_150v_281_7 : vFree s_150v.2.2.2.2 281 7 = true := by decide +kernel
theorem kF_199vk788_281_7 : vFree s_199vk788.2.2.2.2 281 7 = true := by decide +kernel
theorem kF_150v_281_5 : vFree s_150v.2.2.2.2 281 5 = true := by decide +kernel
theorem kF_199vk788_281_5 : vFree s_199vk788.2.2.2.2 281 5 = true := by decide +kernel
theorem kF_150v_281_6 : vFree s_150v.2.2.2.2 281 6 = true := by decide +kernel
theorem kF_199vk788_281_6 : vFree s_199vk788.2.2.2.2 281 6 = true := by decide +kernel
theorem q_149v_4 {q0 : Nat} {n0 n1 n2 n3 n4 n5 n6 n7 n8 n9 n10 n11 n12 n13 n14 n15 n16 n17 n18 n19 n20 n21 n22 n23 n24 : Int} {H0 H1 H2 H3 : gH} (f0 : n0 ≤ 2147483647) (f1 : (-2147483648) ≤ n0) (f2 : n1 ≤ 2147483647) (f3 : (-2147483648) ≤ n1) (f4 : n2 ≤ 2147483647) (f5 : (-2147483648) ≤ n2) (f6 : n3 ≤ 2147483647) (f7 : (-2147483648) ≤ n3) (f8 : n4 ≤ 2147483647) (f9 : (-2147483648) ≤ n4) (f10 : 0 ≤ n5) (f11 : 0 ≤ n6) (f12 : n7 = 281) (f13 : n8 ≤ 2147483647) (f14 : (-2147483648) ≤ n8) (f15 : n9 ≤ 2147483647) (f16 : (-2147483648) ≤ n9) (f17 : n10 ≤ 2147483647) (f18 : (-2147483648) ≤ n10) (f19 : 0 ≤ n11) (f20 : 0 ≤ n12) (f21 : n13 = 281) (f22 : (hLe T0 H0 H1 ∧ hFr s_149v.2.2.2.2 H0 H1 ∧ hWt T0 H1) ∧ (Ab_149v_6 n13 n12 n11 n10 n9 n8 n7 n6 n5 n4 n3 n2 n1 n0 H0 H1 ∧ preb_149v n13 n12 n11 n10 n9 n8 H0) ∧ some q0 = some (mub_149v_6 n13 n12 n11 n10 n9 n8 n7 n6 n5 n4 n3 n2 n1 n0 H0 H1)) (f23 : n14 ≤ 2147483647) (f24 : (-2147483648) ≤ n14) (f25 : hK H1 (n6).toNat = 7) (f26 : n14 = hV H1 (n6).toNat 7) (f27 : n0 < n14) (f28 : 0 ≤ n15) (f29 : hK H1 (n6).toNat = 7) (f30 : n15 = hV H1 (n6).toNat 5) (f31 : n16 ≤ 2147483647) (f32 : (-2147483648) ≤ n16) (f33 : (hLe T0 H1 H2 ∧ hFr s_199vk788.2.2.2.2 H1 H2 ∧ ((0 : Int) = 0 → H2.length = H1.length) ∧ hWt T0 H2) ∧ postb_199vk788 n16 n15 n0 H1 H2) (f34 : n17 = w32 (n16 * n2)) (f35 : n18 = 10) (f36 : n19 = o32 (fun x y => x / y) n17 n18) (f37 : n20 = w32 (n3 + n19)) (f38 : n21 ≤ 1) (f39 : 0 ≤ n21) (f40 : (hLe T0 H2 H3 ∧ hFr s_150v.2.2.2.2 H2 H3 ∧ ((0 : Int) = 0 → H3.length = H2.length) ∧ hWt T0 H3) ∧ postb_150v n21 n5 n20 n4 H2 H3) (f41 : n21 = 0) (f42 : n22 = 1) (f43 : n23 = w32 (n1 + n22)) (f44 : n24 = w32 (n0 + 1)) : Ab_149v_6 n13 n12 n11 n10 n9 n8 n7 n6 n5 n4 n3 n2 n23 n24 H0 H3 ∧ ∀ q, some q0 = some q → mub_149v_6 n13 n12 n11 n10 n9 n8 n7 n6 n5 n4 n3 n2 n23 n24 H0 H3 < q := by
  have pz := f22.2.1.2
  unfold preb_149v at pz
  obtain ⟨p1, p2, p3, p4, p5, p6, pb, pc⟩ := pz
  have pb2 := pb
  unfold MBo at pb2
  have ga := f22.2.1.1
  unfold Ab_149v_6 at ga
  obtain ⟨k0, k1, k2, k3, k4, k5, k7, k8, y, k9, k10, s1, s2, s3⟩ := ga
  have en := MBo_n f22.1.2.1 (by decide +kernel) pb
  have m1 := MBo_fr f22.1.1 f22.1.2.1 (by decide +kernel) pb
  have er : hV H1 (n12).toNat 5 = hV H0 (n12).toNat 5 := f22.1.2.1.2.2 _ 7 pb2.1 rfl 5 (by decide +kernel)
  have rn := f26
  rw [show n6 = n12 from k1, en] at rn
  have rr := f30
  rw [show n6 = n12 from k1, er] at rr
  have pa := f33.2
  unfold postb_199vk788 at pa
  have hg : n16 = mo H0 n12 (n0).toNat := by
    rw [pa, rr]
    unfold mo
    rw [Int.toNat_of_nonneg k7]
    exact atR_fr f22.1.1 f22.1.2.1 pb2.2.2.1 (by decide +kernel) _
  have gb := pb2.2.2.2.2.2 (n0).toNat (by omega)
  rw [← hg] at gb
  have hm : n17 = n16 * n8 ∧ 0 ≤ n17 ∧ n17 ≤ 649 := by
    have z := f34
    rw [show n2 = n8 from k5] at z
    rcases (show n8 = 9 ∨ n8 = 10 ∨ n8 = 11 by omega) with t | t | t <;> rw [t] at z ⊢ <;> rw [w32_id (by omega) (by omega)] at z <;> omega
  have hd : n19 = n16 * n8 / 10 := by
    have z := f36
    rw [f35] at z
    have z2 := o32_div_pos z (by omega) (by omega) (by omega) (by omega)
    rw [z2, hm.1]
  have hs : n20 = n9 + mo H0 n12 (n0).toNat * n8 / 10 ∧ -24 ≤ n20 ∧ n20 ≤ 100 := by
    rw [← hg, ← hd]
    have z := f37
    unfold w32 at z
    omega
  have n1 := MBo_fr f22.1.1 f22.1.2.1 (by decide +kernel) pc
  have n2 := MBo_fr f33.1.1 f33.1.2.1 (by decide +kernel) n1
  have q1 := mo_fr f22.1.1 f22.1.2.1 (by decide +kernel) pc
  have q2 := mo_fr f33.1.1 f33.1.2.1 (by decide +kernel) n1
  have q3 := MBo_n f22.1.2.1 (by decide +kernel) pc
  have q4 := MBo_n f33.1.2.1 (by decide +kernel) n1
  have pm := f40.2
  unfold postb_150v at pm
  rw [show n5 = n11 from k2, q2, q1, q4, q3, hs.1, show n4 = n10 from k3] at pm
  have g5 := Option.some.inj f22.2.2
  unfold mub_149v_6 at g5
  unfold Ab_149v_6 mub_149v_6
  have z6 := f43
  unfold w32 at z6
  have z7 := f44
  unfold w32 at z7
  refine ⟨⟨k0, k1, k2, k3, k4, k5, by omega, by omega, ?_, by omega, by omega, (f40.1.2.1.1 281 7 kF_150v_281_7).trans ((f33.1.2.1.1 281 7 kF_199vk788_281_7).trans s1), (f40.1.2.1.1 281 5 kF_150v_281_5).trans ((f33.1.2.1.1 281 5 kF_199vk788_281_5).trans s2), (f40.1.2.1.1 281 6 kF_150v_281_6).trans ((f33.1.2.1.1 281 6 kF_199vk788_281_6).trans s3)⟩, fun q hq => ?_⟩
  · rw [show (n24).toNat = (n0).toNat + 1 by omega, lkB_step, ← y, ← pm, if_pos (by omega)]
    omega
  · have g6 := Option.some.inj hq
    subst g6
    omega
theorem c_149v_6_3 {q0 : Nat} : vOkm T0 (eP e_149v L_149v A_149v mu_149v (some q0)) 6 ([(10, [24, 13], [], 1), (1, [23, 12, 22], [], 0), (0, [22], [], 1), (30, [21], [], 0), (1150, [21, 8, 20, 9], [2, 3], 0), (90, [21], [], 0), (91, [21], [], 1), (1, [20, 10, 19], [], 0), (11, [19, 17, 18], [], 0), (0, [18], [], 10), (3, [17, 16, 11], [], 0), (1199, [16, 15, 13], [1, 2], 0), (90, [16], [], -2147483648), (91, [16], [], 2147483647), (20, [15, 7], [1], 5), (23, [7], [1], 7), (51, [15], [], 0), (42, [13, 14], [], 0), (20, [14, 7], [1], 7), (23, [7], [1], 7), (90, [14], [], -2147483648), (91, [14], [], 2147483647), (5000, [0, 1, 2, 3, 4, 5, 6, 7, 8, 9, 10, 11, 12, 13], [0, 1], 6), (0, [0], [], 281), (51, [1], [], 0), (51, [2], [], 0), (90, [3], [], -2147483648), (91, [3], [], 2147483647), (90, [4], [], -2147483648), (91, [4], [], 2147483647), (90, [5], [], -2147483648), (91, [5], [], 2147483647), (0, [6], [], 281), (51, [7], [], 0), (51, [8], [], 0), (90, [9], [], -2147483648), (91, [9], [], 2147483647), (90, [10], [], -2147483648), (91, [10], [], 2147483647), (90, [11], [], -2147483648), (91, [11], [], 2147483647), (90, [12], [], -2147483648), (91, [12], [], 2147483647), (90, [13], [], -2147483648), (91, [13], [], 2147483647)], (4000, [6, 7, 8, 9, 10, 11, 23, 24], [3], 6)) := vOk_inI fun ρ η f0 f1 f2 f3 f4 f5 f6 f7 f8 f9 f10 f11 f12 f13 f14 f15 f16 f17 f18 f19 f20 f21 f22 f23 f24 f25 f26 f27 f28 f29 f30 f31 f32 f33 f34 f35 f36 f37 f38 f39 f40 f41 f42 f43 f44 => q_149v_4 (q0 := q0) (n0 := ρ 13) (n1 := ρ 12) (n2 := ρ 11) (n3 := ρ 10) (n4 := ρ 9) (n5 := ρ 8) (n6 := ρ 7) (n7 := ρ 6) (n8 := ρ 5) (n9 := ρ 4) (n10 := ρ 3) (n11 := ρ 2) (n12 := ρ 1) (n13 := ρ 0) (n14 := ρ 14) (n15 := ρ 15) (n16 := ρ 16) (n17 := ρ 17) (n18 := ρ 18) (n19 := ρ 19) (n20 := ρ 20) (n21 := ρ 21) (n22 := ρ 22) (n23 := ρ 23) (n24 := ρ 24) (H0 := η 0) (H1 := η 1) (H2 := η 2) (H3 := η 3) f44 f43 f42 f41 f40 f39 f38 f37 f36 f35 f34 f33 f32 f31 f30 f29 f28 f27 f26 f25 f24 f23 f22 f21 f20 f19 f18 f17 f16 f15 f14 f13 f12 f11 f10 f9 f8 f7 f6 f5 f4 f3 f2 f1 f0
theorem q_149v_5 {q0 : Nat} {n0 n1 n2 n3 n4 n5 n6 n7 n8 n9 n10 n11 n12 n13 n14 n15 n16 n17 n18 n19 n20 n21 n22 n23 n24 : Int} {H0 H1 H2 H3 : gH} (f0 : n0 ≤ 2147483647) (f1 : (-2147483648) ≤ n0) (f2 : n1 ≤ 2147483647) (f3 : (-2147483648) ≤ n1) (f4 : n2 ≤ 2147483647) (f5 : (-2147483648) ≤ n2) (f6 : n3 ≤ 2147483647) (f7 : (-2147483648) ≤ n3) (f8 : n4 ≤ 2147483647) (f9 : (-2147483648) ≤ n4) (f10 : 0 ≤ n5) (f11 : 0 ≤ n6) (f12 : n7 = 281) (f13 : n8 ≤ 2147483647) (f14 : (-2147483648) ≤ n8) (f15 : n9 ≤ 2147483647) (f16 : (-2147483648) ≤ n9) (f17 : n10 ≤ 2147483647) (f18 : (-2147483648) ≤ n10) (f19 : 0 ≤ n11) (f20 : 0 ≤ n12) (f21 : n13 = 281) (f22 : (hLe T0 H0 H1 ∧ hFr s_149v.2.2.2.2 H0 H1 ∧ hWt T0 H1) ∧ (Ab_149v_6 n13 n12 n11 n10 n9 n8 n7 n6 n5 n4 n3 n2 n1 n0 H0 H1 ∧ preb_149v n13 n12 n11 n10 n9 n8 H0) ∧ some q0 = some (mub_149v_6 n13 n12 n11 n10 n9 n8 n7 n6 n5 n4 n3 n2 n1 n0 H0 H1)) (f23 : n14 ≤ 2147483647) (f24 : (-2147483648) ≤ n14) (f25 : hK H1 (n6).toNat = 7) (f26 : n14 = hV H1 (n6).toNat 7) (f27 : n0 < n14) (f28 : 0 ≤ n15) (f29 : hK H1 (n6).toNat = 7) (f30 : n15 = hV H1 (n6).toNat 5) (f31 : n16 ≤ 2147483647) (f32 : (-2147483648) ≤ n16) (f33 : (hLe T0 H1 H2 ∧ hFr s_199vk788.2.2.2.2 H1 H2 ∧ ((0 : Int) = 0 → H2.length = H1.length) ∧ hWt T0 H2) ∧ postb_199vk788 n16 n15 n0 H1 H2) (f34 : n17 = w32 (n16 * n2)) (f35 : n18 = 10) (f36 : n19 = o32 (fun x y => x / y) n17 n18) (f37 : n20 = w32 (n3 + n19)) (f38 : n21 ≤ 1) (f39 : 0 ≤ n21) (f40 : (hLe T0 H2 H3 ∧ hFr s_150v.2.2.2.2 H2 H3 ∧ ((0 : Int) = 0 → H3.length = H2.length) ∧ hWt T0 H3) ∧ postb_150v n21 n5 n20 n4 H2 H3) (f41 : n21 ≠ 0) (f42 : n22 = 0) (f43 : n23 = w32 (n1 + n22)) (f44 : n24 = w32 (n0 + 1)) : Ab_149v_6 n13 n12 n11 n10 n9 n8 n7 n6 n5 n4 n3 n2 n23 n24 H0 H3 ∧ ∀ q, some q0 = some q → mub_149v_6 n13 n12 n11 n10 n9 n8 n7 n6 n5 n4 n3 n2 n23 n24 H0 H3 < q := by
  have pz := f22.2.1.2
  unfold preb_149v at pz
  obtain ⟨p1, p2, p3, p4, p5, p6, pb, pc⟩ := pz
  have pb2 := pb
  unfold MBo at pb2
  have ga := f22.2.1.1
  unfold Ab_149v_6 at ga
  obtain ⟨k0, k1, k2, k3, k4, k5, k7, k8, y, k9, k10, s1, s2, s3⟩ := ga
  have en := MBo_n f22.1.2.1 (by decide +kernel) pb
  have m1 := MBo_fr f22.1.1 f22.1.2.1 (by decide +kernel) pb
  have er : hV H1 (n12).toNat 5 = hV H0 (n12).toNat 5 := f22.1.2.1.2.2 _ 7 pb2.1 rfl 5 (by decide +kernel)
  have rn := f26
  rw [show n6 = n12 from k1, en] at rn
  have rr := f30
  rw [show n6 = n12 from k1, er] at rr
  have pa := f33.2
  unfold postb_199vk788 at pa
  have hg : n16 = mo H0 n12 (n0).toNat := by
    rw [pa, rr]
    unfold mo
    rw [Int.toNat_of_nonneg k7]
    exact atR_fr f22.1.1 f22.1.2.1 pb2.2.2.1 (by decide +kernel) _
  have gb := pb2.2.2.2.2.2 (n0).toNat (by omega)
  rw [← hg] at gb
  have hm : n17 = n16 * n8 ∧ 0 ≤ n17 ∧ n17 ≤ 649 := by
    have z := f34
    rw [show n2 = n8 from k5] at z
    rcases (show n8 = 9 ∨ n8 = 10 ∨ n8 = 11 by omega) with t | t | t <;> rw [t] at z ⊢ <;> rw [w32_id (by omega) (by omega)] at z <;> omega
  have hd : n19 = n16 * n8 / 10 := by
    have z := f36
    rw [f35] at z
    have z2 := o32_div_pos z (by omega) (by omega) (by omega) (by omega)
    rw [z2, hm.1]
  have hs : n20 = n9 + mo H0 n12 (n0).toNat * n8 / 10 ∧ -24 ≤ n20 ∧ n20 ≤ 100 := by
    rw [← hg, ← hd]
    have z := f37
    unfold w32 at z
    omega
  have n1 := MBo_fr f22.1.1 f22.1.2.1 (by decide +kernel) pc
  have n2 := MBo_fr f33.1.1 f33.1.2.1 (by decide +kernel) n1
  have q1 := mo_fr f22.1.1 f22.1.2.1 (by decide +kernel) pc
  have q2 := mo_fr f33.1.1 f33.1.2.1 (by decide +kernel) n1
  have q3 := MBo_n f22.1.2.1 (by decide +kernel) pc
  have q4 := MBo_n f33.1.2.1 (by decide +kernel) n1
  have pm := f40.2
  unfold postb_150v at pm
  rw [show n5 = n11 from k2, q2, q1, q4, q3, hs.1, show n4 = n10 from k3] at pm
  have g5 := Option.some.inj f22.2.2
  unfold mub_149v_6 at g5
  unfold Ab_149v_6 mub_149v_6
  have z6 := f43
  unfold w32 at z6
  have z7 := f44
  unfold w32 at z7
  refine ⟨⟨k0, k1, k2, k3, k4, k5, by omega, by omega, ?_, by omega, by omega, (f40.1.2.1.1 281 7 kF_150v_281_7).trans ((f33.1.2.1.1 281 7 kF_199vk788_281_7).trans s1), (f40.1.2.1.1 281 5 kF_150v_281_5).trans ((f33.1.2.1.1 281 5 kF_199vk788_281_5).trans s2), (f40.1.2.1.1 281 6 kF_150v_281_6).trans ((f33.1.2.1.1 281 6 kF_199vk788_281_6).trans s3)⟩, fun q hq => ?_⟩
  · rw [show (n24).toNat = (n0).toNat + 1 by omega, lkB_step, ← y, ← pm, if_neg (by omega)]
    omega
  · have g6 := Option.some.inj hq
    subst g6
    omega
theorem c_149v_6_4 {q0 : Nat} : vOkm T0 (eP e_149v L_149v A_149v mu_149v (some q0)) 6 ([(10, [24, 13], [], 1), (1, [23, 12, 22], [], 0), (0, [22], [], 0), (31, [21], [], 0), (1150, [21, 8, 20, 9], [2, 3], 0), (90, [21], [], 0), (91, [21], [], 1), (1, [20, 10, 19], [], 0), (11, [19, 17, 18], [], 0), (0, [18], [], 10), (3, [17, 16, 11], [], 0), (1199, [16, 15, 13], [1, 2], 0), (90, [16], [], -2147483648), (91, [16], [], 2147483647), (20, [15, 7], [1], 5), (23, [7], [1], 7), (51, [15], [], 0), (42, [13, 14], [], 0), (20, [14, 7], [1], 7), (23, [7], [1], 7), (90, [14], [], -2147483648), (91, [14], [], 2147483647), (5000, [0, 1, 2, 3, 4, 5, 6, 7, 8, 9, 10, 11, 12, 13], [0, 1], 6), (0, [0], [], 281), (51, [1], [], 0), (51, [2], [], 0), (90, [3], [], -2147483648), (91, [3], [], 2147483647), (90, [4], [], -2147483648), (91, [4], [], 2147483647), (90, [5], [], -2147483648), (91, [5], [], 2147483647), (0, [6], [], 281), (51, [7], [], 0), (51, [8], [], 0), (90, [9], [], -2147483648), (91, [9], [], 2147483647), (90, [10], [], -2147483648), (91, [10], [], 2147483647), (90, [11], [], -2147483648), (91, [11], [], 2147483647), (90, [12], [], -2147483648), (91, [12], [], 2147483647), (90, [13], [], -2147483648), (91, [13], [], 2147483647)], (4000, [6, 7, 8, 9, 10, 11, 23, 24], [3], 6)) := vOk_inI fun ρ η f0 f1 f2 f3 f4 f5 f6 f7 f8 f9 f10 f11 f12 f13 f14 f15 f16 f17 f18 f19 f20 f21 f22 f23 f24 f25 f26 f27 f28 f29 f30 f31 f32 f33 f34 f35 f36 f37 f38 f39 f40 f41 f42 f43 f44 => q_149v_5 (q0 := q0) (n0 := ρ 13) (n1 := ρ 12) (n2 := ρ 11) (n3 := ρ 10) (n4 := ρ 9) (n5 := ρ 8) (n6 := ρ 7) (n7 := ρ 6) (n8 := ρ 5) (n9 := ρ 4) (n10 := ρ 3) (n11 := ρ 2) (n12 := ρ 1) (n13 := ρ 0) (n14 := ρ 14) (n15 := ρ 15) (n16 := ρ 16) (n17 := ρ 17) (n18 := ρ 18) (n19 := ρ 19) (n20 := ρ 20) (n21 := ρ 21) (n22 := ρ 22) (n23 := ρ 23) (n24 := ρ 24) (H0 := η 0) (H1 := η 1) (H2 := η 2) (H3 := η 3) f44 f43 f42 f41 f40 f39 f38 f37 f36 f35 f34 f33 f32 f31 f30 f29 f28 f27 f26 f25 f24 f23 f22 f21 f20 f19 f18 f17 f16 f15 f14 f13 f12 f11 f10 f9 f8 f7 f6 f5 f4 f3 f2 f1 f0
def p_149v_6 : List vG := [([(43, [12, 15], [], 0), (20, [15, 6], [1], 7), (90, [15], [], -2147483648), (91, [15], [], 2147483647), (43, [13, 14], [], 0), (20, [14, 7], [1], 7), (23, [7], [1], 7), (90, [14], [], -2147483648), (91, [14], [], 2147483647), (5000, [0, 1, 2, 3, 4, 5, 6, 7, 8, 9, 10, 11, 12, 13], [0, 1], 6), (0, [0], [], 281), (51, [1], [], 0), (51, [2], [], 0), (90, [3], [], -2147483648), (91, [3], [], 2147483647), (90, [4], [], -2147483648), (91, [4], [], 2147483647), (90, [5], [], -2147483648), (91, [5], [], 2147483647), (0, [6], [], 281), (51, [7], [], 0), (51, [8], [], 0), (90, [9], [], -2147483648), (91, [9], [], 2147483647), (90, [10], [], -2147483648), (91, [10], [], 2147483647), (90, [11], [], -2147483648), (91, [11], [], 2147483647), (90, [12], [], -2147483648), (91, [12], [], 2147483647), (90, [13], [], -2147483648), (91, [13], [], 2147483647)], (3000, [], [1], 88)),
  ([(80, [6, 18, 11], [4, 3], 0), (0, [18], [], 6), (80, [6, 17, 10], [3, 2], 0), (0, [17], [], 5), (80, [6, 16, 12], [2, 1], 0), (0, [16], [], 7), (42, [12, 15], [], 0), (20, [15, 6], [1], 7), (90, [15], [], -2147483648), (91, [15], [], 2147483647), (43, [13, 14], [], 0), (20, [14, 7], [1], 7), (23, [7], [1], 7), (90, [14], [], -2147483648), (91, [14], [], 2147483647), (5000, [0, 1, 2, 3, 4, 5, 6, 7, 8, 9, 10, 11, 12, 13], [0, 1], 6), (0, [0], [], 281), (51, [1], [], 0), (51, [2], [], 0), (90, [3], [], -2147483648), (91, [3], [], 2147483647), (90, [4], [], -2147483648), (91, [4], [], 2147483647), (90, [5], [], -2147483648), (91, [5], [], 2147483647), (0, [6], [], 281), (51, [7], [], 0), (51, [8], [], 0), (90, [9], [], -2147483648), (91, [9], [], 2147483647), (90, [10], [], -2147483648), (91, [10], [], 2147483647), (90, [11], [], -2147483648), (91, [11], [], 2147483647), (90, [12], [], -2147483648), (91, [12], [], 2147483647), (90, [13], [], -2147483648), (91, [13], [], 2147483647)], (3000, [], [4], 88)),
  ([(1, [20, 10, 19], [], 0), (11, [19, 17, 18], [], 0), (0, [18], [], 10), (3, [17, 16, 11], [], 0), (1199, [16, 15, 13], [1, 2], 0), (90, [16], [], -2147483648), (91, [16], [], 2147483647), (20, [15, 7], [1], 5), (23, [7], [1], 7), (51, [15], [], 0), (42, [13, 14], [], 0), (20, [14, 7], [1], 7), (23, [7], [1], 7), (90, [14], [], -2147483648), (91, [14], [], 2147483647), (5000, [0, 1, 2, 3, 4, 5, 6, 7, 8, 9, 10, 11, 12, 13], [0, 1], 6), (0, [0], [], 281), (51, [1], [], 0), (51, [2], [], 0), (90, [3], [], -2147483648), (91, [3], [], 2147483647), (90, [4], [], -2147483648), (91, [4], [], 2147483647), (90, [5], [], -2147483648), (91, [5], [], 2147483647), (0, [6], [], 281), (51, [7], [], 0), (51, [8], [], 0), (90, [9], [], -2147483648), (91, [9], [], 2147483647), (90, [10], [], -2147483648), (91, [10], [], 2147483647), (90, [11], [], -2147483648), (91, [11], [], 2147483647), (90, [12], [], -2147483648), (91, [12], [], 2147483647), (90, [13], [], -2147483648), (91, [13], [], 2147483647)], (2150, [8, 20, 9], [2], 0)),
  ([(10, [24, 13], [], 1), (1, [23, 12, 22], [], 0), (0, [22], [], 1), (30, [21], [], 0), (1150, [21, 8, 20, 9], [2, 3], 0), (90, [21], [], 0), (91, [21], [], 1), (1, [20, 10, 19], [], 0), (11, [19, 17, 18], [], 0), (0, [18], [], 10), (3, [17, 16, 11], [], 0), (1199, [16, 15, 13], [1, 2], 0), (90, [16], [], -2147483648), (91, [16], [], 2147483647), (20, [15, 7], [1], 5), (23, [7], [1], 7), (51, [15], [], 0), (42, [13, 14], [], 0), (20, [14, 7], [1], 7), (23, [7], [1], 7), (90, [14], [], -2147483648), (91, [14], [], 2147483647), (5000, [0, 1, 2, 3, 4, 5, 6, 7, 8, 9, 10, 11, 12, 13], [0, 1], 6), (0, [0], [], 281), (51, [1], [], 0), (51, [2], [], 0), (90, [3], [], -2147483648), (91, [3], [], 2147483647), (90, [4], [], -2147483648), (91, [4], [], 2147483647), (90, [5], [], -2147483648), (91, [5], [], 2147483647), (0, [6], [], 281), (51, [7], [], 0), (51, [8], [], 0), (90, [9], [], -2147483648), (91, [9], [], 2147483647), (90, [10], [], -2147483648), (91, [10], [], 2147483647), (90, [11], [], -2147483648), (91, [11], [], 2147483647), (90, [12], [], -2147483648), (91, [12], [], 2147483647), (90, [13], [], -2147483648), (91, [13], [], 2147483647)], (4000, [6, 7, 8, 9, 10, 11, 23, 24], [3], 6)),
  ([(10, [24, 13], [], 1), (1, [23, 12, 22], [], 0), (0, [22], [], 0), (31, [21], [], 0), (1150, [21, 8, 20, 9], [2, 3], 0), (90, [21], [], 0), (91, [21], [], 1), (1, [20, 10, 19], [], 0), (11, [19, 17, 18], [], 0), (0, [18], [], 10), (3, [17, 16, 11], [], 0), (1199, [16, 15, 13], [1, 2], 0), (90, [16], [], -2147483648), (91, [16], [], 2147483647), (20, [15, 7], [1], 5), (23, [7], [1], 7), (51, [15], [], 0), (42, [13, 14], [], 0), (20, [14, 7], [1], 7), (23, [7], [1], 7), (90, [14], [], -2147483648), (91, [14], [], 2147483647), (5000, [0, 1, 2, 3, 4, 5, 6, 7, 8, 9, 10, 11, 12, 13], [0, 1], 6), (0, [0], [], 281), (51, [1], [], 0), (51, [2], [], 0), (90, [3], [], -2147483648), (91, [3], [], 2147483647), (90, [4], [], -2147483648), (91, [4], [], 2147483647), (90, [5], [], -2147483648), (91, [5], [], 2147483647), (0, [6], [], 281), (51, [7], [], 0), (51, [8], [], 0), (90, [9], [], -2147483648), (91, [9], [], 2147483647), (90, [10], [], -2147483648), (91, [10], [], 2147483647), (90, [11], [], -2147483648), (91, [11], [], 2147483647), (90, [12], [], -2147483648), (91, [12], [], 2147483647), (90, [13], [], -2147483648), (91, [13], [], 2147483647)], (4000, [6, 7, 8, 9, 10, 11, 23, 24], [3], 6))]
theorem r_149v_6 : vCovO false (eRc e_149v L_149v cs_149v 2000 (6, [(0, (3, 9, 281, 0)), (1, (3, 7, -1, 0)), (2, (3, 7, -1, 0)), (3, (0, -2147483648, 2147483647, 0)), (4, (0, -2147483648, 2147483647, 0)), (5, (0, -2147483648, 2147483647, 0)), (6, (0, -2147483648, 2147483647, 0)), (7, (0, -2147483648, 2147483647, 0))])) p_149v_6 = true := by decide +kernel
theorem m_149v (d : Nat) : eC e_149v (d + 3) := eC_ok (e := e_149v) (L := L_149v) (cs := cs_149v) (n := 2000) (d := d + 2) (A := A_149v) (μ := mu_149v) (tp := false) (p0 := p_149v_s) rfl ⟨m_150v d, ⟨m_199vk788 (d + 1), trivial⟩⟩ rfl (.inl rfl) (by decide +kernel) (fun z => nomatch z) r_149v_s (allC c_149v_s_0 allN) (allC (.inl ⟨p_149v_6, r_149v_6, fun q0 => (allC c_149v_6_0 (allC c_149v_6_1 (allC c_149v_6_2 (allC c_149v_6_3 (allC c_149v_6_4 allN)))))⟩) allN)
/- Tracer.tryFit (LMixStage$Sound;LMixStage$Sound;II)V -/
noncomputable def s_148v : vM := ([(3, 9, 281, 0), (3, 7, -1, 0), (3, 7, -1, 0), (0, -2147483648, 2147483647, 0), (0, -2147483648, 2147483647, 0)], (9, 0, 0, 0), 1, 0, [(9, 5), (9, 6), (9, 7)])
def preb_148v (a0 a1 a2 a3 a4 : Int) (h : gH) : Prop := 0 ≤ a3 ∧ a3 ≤ 9 ∧ -24 ≤ a4 ∧ a4 ≤ 24 ∧ MBo h a1 ∧ MBo h a2
def pre_148v : List Int → gH → Prop := fun xs h => match xs with
  | [a0, a1, a2, a3, a4] => preb_148v a0 a1 a2 a3 a4 h
  | _ => False
def postb_148v (a0 a1 a2 a3 a4 : Int) (h0 h : gH) : Prop := (hV h 281 7, hV h 281 5, hV h 281 6) = ft (lkO h0 a1 a2 a3) a4 (hV h0 281 7, hV h0 281 5, hV h0 281 6)
def post_148v : List Int → gH → gH → Prop := fun xs h0 h => match xs with
  | [a0, a1, a2, a3, a4] => postb_148v a0 a1 a2 a3 a4 h0 h
  | _ => True
noncomputable def e_148v : vE := (148, s_148v, pre_148v, post_148v)
noncomputable def L_148v : List vE := [e_149v]
def cs_148v : List vC := []
def A_148v : Int → List Int → gH → gH → Prop := fun c xs h0 h => True
def mu_148v : Int → List Int → gH → gH → Nat := fun c xs h0 h => 0
theorem q_148v_0 {n0 n1 n2 n3 n4 n5 : Int} {H0 : gH} (f0 : n0 ≤ 2147483647) (f1 : (-2147483648) ≤ n0) (f2 : n1 ≤ 2147483647) (f3 : (-2147483648) ≤ n1) (f4 : 0 ≤ n2) (f5 : 0 ≤ n3) (f6 : n4 = 281) (f7 : hWt T0 H0 ∧ preb_148v n4 n3 n2 n1 n0 H0) (f8 : n5 = 10) : preb_149v n4 n3 n2 n1 n0 n5 H0 := by
  have pz := f7.2
  unfold preb_148v at pz
  obtain ⟨p1, p2, p3, p4, b0, c0⟩ := pz
  unfold preb_149v
  exact ⟨p1, p2, p3, p4, by omega, by omega, b0, c0⟩
theorem c_148v_s_0 : vOkm T0 (eP e_148v L_148v A_148v mu_148v none) 5 ([(0, [5], [], 10), (6000, [0, 1, 2, 3, 4], [0], 0), (0, [0], [], 281), (51, [1], [], 0), (51, [2], [], 0), (90, [3], [], -2147483648), (91, [3], [], 2147483647), (90, [4], [], -2147483648), (91, [4], [], 2147483647)], (2149, [0, 1, 2, 3, 4, 5], [0], 0)) := vOk_inI fun ρ η f0 f1 f2 f3 f4 f5 f6 f7 f8 => q_148v_0 (n0 := ρ 4) (n1 := ρ 3) (n2 := ρ 2) (n3 := ρ 1) (n4 := ρ 0) (n5 := ρ 5) (H0 := η 0) f8 f7 f6 f5 f4 f3 f2 f1 f0
theorem q_148v_1 {n0 n1 n2 n3 n4 n5 n6 : Int} {H0 H1 : gH} (f0 : n0 ≤ 2147483647) (f1 : (-2147483648) ≤ n0) (f2 : n1 ≤ 2147483647) (f3 : (-2147483648) ≤ n1) (f4 : 0 ≤ n2) (f5 : 0 ≤ n3) (f6 : n4 = 281) (f7 : hWt T0 H0 ∧ preb_148v n4 n3 n2 n1 n0 H0) (f8 : n5 = 10) (f9 : (hLe T0 H0 H1 ∧ hFr s_149v.2.2.2.2 H0 H1 ∧ ((0 : Int) = 0 → H1.length = H0.length) ∧ hWt T0 H1) ∧ postb_149v n4 n3 n2 n1 n0 n5 H0 H1) (f10 : n6 = 9) : preb_149v n4 n3 n2 n1 n0 n6 H1 := by
  have pz := f7.2
  unfold preb_148v at pz
  obtain ⟨p1, p2, p3, p4, b0, c0⟩ := pz
  have b1 := MBo_fr f9.1.1 f9.1.2.1 (by decide +kernel) b0
  have c1 := MBo_fr f9.1.1 f9.1.2.1 (by decide +kernel) c0
  have l1 := lkO_fr (sl := n1) f9.1.1 f9.1.2.1 (by decide +kernel) b0 c0
  unfold preb_149v
  exact ⟨p1, p2, p3, p4, by omega, by omega, b1, c1⟩
theorem c_148v_s_1 : vOkm T0 (eP e_148v L_148v A_148v mu_148v none) 5 ([(0, [6], [], 9), (1149, [0, 1, 2, 3, 4, 5], [0, 1], 0), (0, [5], [], 10), (6000, [0, 1, 2, 3, 4], [0], 0), (0, [0], [], 281), (51, [1], [], 0), (51, [2], [], 0), (90, [3], [], -2147483648), (91, [3], [], 2147483647), (90, [4], [], -2147483648), (91, [4], [], 2147483647)], (2149, [0, 1, 2, 3, 4, 6], [1], 0)) := vOk_inI fun ρ η f0 f1 f2 f3 f4 f5 f6 f7 f8 f9 f10 => q_148v_1 (n0 := ρ 4) (n1 := ρ 3) (n2 := ρ 2) (n3 := ρ 1) (n4 := ρ 0) (n5 := ρ 5) (n6 := ρ 6) (H0 := η 0) (H1 := η 1) f10 f9 f8 f7 f6 f5 f4 f3 f2 f1 f0
theorem q_148v_2 {n0 n1 n2 n3 n4 n5 n6 n7 : Int} {H0 H1 H2 : gH} (f0 : n0 ≤ 2147483647) (f1 : (-2147483648) ≤ n0) (f2 : n1 ≤ 2147483647) (f3 : (-2147483648) ≤ n1) (f4 : 0 ≤ n2) (f5 : 0 ≤ n3) (f6 : n4 = 281) (f7 : hWt T0 H0 ∧ preb_148v n4 n3 n2 n1 n0 H0) (f8 : n5 = 10) (f9 : (hLe T0 H0 H1 ∧ hFr s_149v.2.2.2.2 H0 H1 ∧ ((0 : Int) = 0 → H1.length = H0.length) ∧ hWt T0 H1) ∧ postb_149v n4 n3 n2 n1 n0 n5 H0 H1) (f10 : n6 = 9) (f11 : (hLe T0 H1 H2 ∧ hFr s_149v.2.2.2.2 H1 H2 ∧ ((0 : Int) = 0 → H2.length = H1.length) ∧ hWt T0 H2) ∧ postb_149v n4 n3 n2 n1 n0 n6 H1 H2) (f12 : n7 = 11) : preb_149v n4 n3 n2 n1 n0 n7 H2 := by
  have pz := f7.2
  unfold preb_148v at pz
  obtain ⟨p1, p2, p3, p4, b0, c0⟩ := pz
  have b1 := MBo_fr f9.1.1 f9.1.2.1 (by decide +kernel) b0
  have c1 := MBo_fr f9.1.1 f9.1.2.1 (by decide +kernel) c0
  have l1 := lkO_fr (sl := n1) f9.1.1 f9.1.2.1 (by decide +kernel) b0 c0
  have b2 := MBo_fr f11.1.1 f11.1.2.1 (by decide +kernel) b1
  have c2 := MBo_fr f11.1.1 f11.1.2.1 (by decide +kernel) c1
  have l2 := lkO_fr (sl := n1) f11.1.1 f11.1.2.1 (by decide +kernel) b1 c1
  unfold preb_149v
  exact ⟨p1, p2, p3, p4, by omega, by omega, b2, c2⟩
theorem c_148v_s_2 : vOkm T0 (eP e_148v L_148v A_148v mu_148v none) 5 ([(0, [7], [], 11), (1149, [0, 1, 2, 3, 4, 6], [1, 2], 0), (0, [6], [], 9), (1149, [0, 1, 2, 3, 4, 5], [0, 1], 0), (0, [5], [], 10), (6000, [0, 1, 2, 3, 4], [0], 0), (0, [0], [], 281), (51, [1], [], 0), (51, [2], [], 0), (90, [3], [], -2147483648), (91, [3], [], 2147483647), (90, [4], [], -2147483648), (91, [4], [], 2147483647)], (2149, [0, 1, 2, 3, 4, 7], [2], 0)) := vOk_inI fun ρ η f0 f1 f2 f3 f4 f5 f6 f7 f8 f9 f10 f11 f12 => q_148v_2 (n0 := ρ 4) (n1 := ρ 3) (n2 := ρ 2) (n3 := ρ 1) (n4 := ρ 0) (n5 := ρ 5) (n6 := ρ 6) (n7 := ρ 7) (H0 := η 0) (H1 := η 1) (H2 := η 2) f12 f11 f10 f9 f8 f7 f6 f5 f4 f3 f2 f1 f0
theorem q_148v_3 {n0 n1 n2 n3 n4 n5 n6 n7 : Int} {H0 H1 H2 H3 : gH} (f0 : n0 ≤ 2147483647) (f1 : (-2147483648) ≤ n0) (f2 : n1 ≤ 2147483647) (f3 : (-2147483648) ≤ n1) (f4 : 0 ≤ n2) (f5 : 0 ≤ n3) (f6 : n4 = 281) (f7 : hWt T0 H0 ∧ preb_148v n4 n3 n2 n1 n0 H0) (f8 : n5 = 10) (f9 : (hLe T0 H0 H1 ∧ hFr s_149v.2.2.2.2 H0 H1 ∧ ((0 : Int) = 0 → H1.length = H0.length) ∧ hWt T0 H1) ∧ postb_149v n4 n3 n2 n1 n0 n5 H0 H1) (f10 : n6 = 9) (f11 : (hLe T0 H1 H2 ∧ hFr s_149v.2.2.2.2 H1 H2 ∧ ((0 : Int) = 0 → H2.length = H1.length) ∧ hWt T0 H2) ∧ postb_149v n4 n3 n2 n1 n0 n6 H1 H2) (f12 : n7 = 11) (f13 : (hLe T0 H2 H3 ∧ hFr s_149v.2.2.2.2 H2 H3 ∧ ((0 : Int) = 0 → H3.length = H2.length) ∧ hWt T0 H3) ∧ postb_149v n4 n3 n2 n1 n0 n7 H2 H3) : postb_148v n4 n3 n2 n1 n0 H0 H3 := by
  have pz := f7.2
  unfold preb_148v at pz
  obtain ⟨p1, p2, p3, p4, b0, c0⟩ := pz
  have b1 := MBo_fr f9.1.1 f9.1.2.1 (by decide +kernel) b0
  have c1 := MBo_fr f9.1.1 f9.1.2.1 (by decide +kernel) c0
  have l1 := lkO_fr (sl := n1) f9.1.1 f9.1.2.1 (by decide +kernel) b0 c0
  have b2 := MBo_fr f11.1.1 f11.1.2.1 (by decide +kernel) b1
  have c2 := MBo_fr f11.1.1 f11.1.2.1 (by decide +kernel) c1
  have l2 := lkO_fr (sl := n1) f11.1.1 f11.1.2.1 (by decide +kernel) b1 c1
  have b3 := MBo_fr f13.1.1 f13.1.2.1 (by decide +kernel) b2
  have c3 := MBo_fr f13.1.1 f13.1.2.1 (by decide +kernel) c2
  have l3 := lkO_fr (sl := n1) f13.1.1 f13.1.2.1 (by decide +kernel) b2 c2
  have s1 := f9.2
  unfold postb_149v at s1
  rw [f8] at s1
  have s2 := f11.2
  unfold postb_149v at s2
  rw [f10] at s2
  have s3 := f13.2
  unfold postb_149v at s3
  rw [f12] at s3
  unfold postb_148v ft
  rw [s3, s2, s1, l2, l1]
theorem c_148v_s_3 : vOkm T0 (eP e_148v L_148v A_148v mu_148v none) 5 ([(1149, [0, 1, 2, 3, 4, 7], [2, 3], 0), (0, [7], [], 11), (1149, [0, 1, 2, 3, 4, 6], [1, 2], 0), (0, [6], [], 9), (1149, [0, 1, 2, 3, 4, 5], [0, 1], 0), (0, [5], [], 10), (6000, [0, 1, 2, 3, 4], [0], 0), (0, [0], [], 281), (51, [1], [], 0), (51, [2], [], 0), (90, [3], [], -2147483648), (91, [3], [], 2147483647), (90, [4], [], -2147483648), (91, [4], [], 2147483647)], (3000, [], [3], 33)) := vOk_inI fun ρ η f0 f1 f2 f3 f4 f5 f6 f7 f8 f9 f10 f11 f12 f13 => q_148v_3 (n0 := ρ 4) (n1 := ρ 3) (n2 := ρ 2) (n3 := ρ 1) (n4 := ρ 0) (n5 := ρ 5) (n6 := ρ 6) (n7 := ρ 7) (H0 := η 0) (H1 := η 1) (H2 := η 2) (H3 := η 3) f13 f12 f11 f10 f9 f8 f7 f6 f5 f4 f3 f2 f1 f0
def p_148v_s : List vG := [([(0, [5], [], 10), (6000, [0, 1, 2, 3, 4], [0], 0), (0, [0], [], 281), (51, [1], [], 0), (51, [2], [], 0), (90, [3], [], -2147483648), (91, [3], [], 2147483647), (90, [4], [], -2147483648), (91, [4], [], 2147483647)], (2149, [0, 1, 2, 3, 4, 5], [0], 0)),
  ([(0, [6], [], 9), (1149, [0, 1, 2, 3, 4, 5], [0, 1], 0), (0, [5], [], 10), (6000, [0, 1, 2, 3, 4], [0], 0), (0, [0], [], 281), (51, [1], [], 0), (51, [2], [], 0), (90, [3], [], -2147483648), (91, [3], [], 2147483647), (90, [4], [], -2147483648), (91, [4], [], 2147483647)], (2149, [0, 1, 2, 3, 4, 6], [1], 0)),
  ([(0, [7], [], 11), (1149, [0, 1, 2, 3, 4, 6], [1, 2], 0), (0, [6], [], 9), (1149, [0, 1, 2, 3, 4, 5], [0, 1], 0), (0, [5], [], 10), (6000, [0, 1, 2, 3, 4], [0], 0), (0, [0], [], 281), (51, [1], [], 0), (51, [2], [], 0), (90, [3], [], -2147483648), (91, [3], [], 2147483647), (90, [4], [], -2147483648), (91, [4], [], 2147483647)], (2149, [0, 1, 2, 3, 4, 7], [2], 0)),
  ([(1149, [0, 1, 2, 3, 4, 7], [2, 3], 0), (0, [7], [], 11), (1149, [0, 1, 2, 3, 4, 6], [1, 2], 0), (0, [6], [], 9), (1149, [0, 1, 2, 3, 4, 5], [0, 1], 0), (0, [5], [], 10), (6000, [0, 1, 2, 3, 4], [0], 0), (0, [0], [], 281), (51, [1], [], 0), (51, [2], [], 0), (90, [3], [], -2147483648), (91, [3], [], 2147483647), (90, [4], [], -2147483648), (91, [4], [], 2147483647)], (3000, [], [3], 33))]
theorem r_148v_s : vCovO false (eR0 e_148v L_148v cs_148v 2000) p_148v_s = true := by decide +kernel
theorem m_148v (d : Nat) : eC e_148v (d + 4) := eC_ok (e := e_148v) (L := L_148v) (cs := cs_148v) (n := 2000) (d := d + 3) (A := A_148v) (μ := mu_148v) (tp := false) (p0 := p_148v_s) rfl ⟨m_149v d, trivial⟩ rfl (.inl rfl) (by decide +kernel) (fun z => nomatch z) r_148v_s (allC c_148v_s_0 (allC c_148v_s_1 (allC c_148v_s_2 (allC c_148v_s_3 allN)))) allN
/- Tracer.fitOf (LMixStage$Sound;LMixStage$Sound;II)I -/
noncomputable def s_147v : vM := ([(3, 9, 281, 0), (3, 7, -1, 0), (3, 7, -1, 0), (0, -2147483648, 2147483647, 0), (0, -2147483648, 2147483647, 0)], (0, -2147483648, 2147483647, 0), 1, 0, [(9, 5), (9, 6), (9, 7)])
def preb_147v (a0 a1 a2 a3 a4 : Int) (h : gH) : Prop := 0 ≤ a3 ∧ a3 ≤ 9 ∧ MBo h a1 ∧ MBo h a2
def pre_147v : List Int → gH → Prop := fun xs h => match xs with
  | [a0, a1, a2, a3, a4] => preb_147v a0 a1 a2 a3 a4 h
  | _ => False
def postb_147v (r a0 a1 a2 a3 a4 : Int) (h0 h : gH) : Prop := r = fitR (ff (lkO h0 a1 a2 a3) 25 (9, hV h0 281 5, hV h0 281 6)) a4
def post_147v : List Int → gH → gH → Prop := fun xs h0 h => match xs with
  | [r, a0, a1, a2, a3, a4] => postb_147v r a0 a1 a2 a3 a4 h0 h
  | _ => True
noncomputable def e_147v : vE := (147, s_147v, pre_147v, post_147v)
noncomputable def L_147v : List vE := [e_148v]
def cs_147v : List vC := [(9, [(0, (3, 9, 281, 0)), (1, (3, 7, -1, 0)), (2, (3, 7, -1, 0)), (3, (0, -2147483648, 2147483647, 0)), (4, (0, -2147483648, 2147483647, 0)), (5, (0, -2147483648, 2147483647, 0))])]
def Ab_147v_9 (a0 a1 a2 a3 a4 x0 x1 x2 x3 x4 x5 : Int) (h0 h : gH) : Prop := x0 = a0 ∧ x1 = a1 ∧ x2 = a2 ∧ x3 = a3 ∧ x4 = a4 ∧ 0 ≤ x5 ∧ x5 ≤ 25 ∧ (hV h 281 7, hV h 281 5, hV h 281 6) = ff (lkO h0 a1 a2 a3) (x5).toNat (9, hV h0 281 5, hV h0 281 6)
def mub_147v_9 (a0 a1 a2 a3 a4 x0 x1 x2 x3 x4 x5 : Int) (h0 h : gH) : Nat := (2147483648 - x5).toNat
def A_147v : Int → List Int → gH → gH → Prop := fun c xs h0 h => match c.toNat with
  | 9 => (match xs with
    | [a0, a1, a2, a3, a4, x0, x1, x2, x3, x4, x5] => Ab_147v_9 a0 a1 a2 a3 a4 x0 x1 x2 x3 x4 x5 h0 h
    | _ => False)
  | _ => True
def mu_147v : Int → List Int → gH → gH → Nat := fun c xs h0 h => match c.toNat with
  | 9 => (match xs with
    | [a0, a1, a2, a3, a4, x0, x1, x2, x3, x4, x5] => mub_147v_9 a0 a1 a2 a3 a4 x0 x1 x2 x3 x4 x5 h0 h
    | _ => 0)
  | _ => 0
theorem q_147v_0 {n0 n1 n2 n3 n4 n5 n6 n7 : Int} {H0 H1 : gH} (f0 : n0 ≤ 2147483647) (f1 : (-2147483648) ≤ n0) (f2 : n1 ≤ 2147483647) (f3 : (-2147483648) ≤ n1) (f4 : 0 ≤ n2) (f5 : 0 ≤ n3) (f6 : n4 = 281) (f7 : hWt T0 H0 ∧ preb_147v n4 n3 n2 n1 n0 H0) (f8 : n5 = 9) (f9 : n6 = 7) (f10 : hUpd H1 H0 n4 n6 n5) (f11 : n7 = 0) : Ab_147v_9 n4 n3 n2 n1 n0 n4 n3 n2 n1 n0 n7 H0 H1 ∧ ∀ q, none = some q → mub_147v_9 n4 n3 n2 n1 n0 n4 n3 n2 n1 n0 n7 H0 H1 < q := by
  unfold Ab_147v_9
  have w7 : hV H1 281 7 = 9 := (uSame f10 281 7 (by rw [f6]; rfl) (by rw [f9]; rfl)).trans f8
  have w5 : hV H1 281 5 = hV H0 281 5 := uSlot f10 281 5 (by rw [f9]; decide)
  have w6 : hV H1 281 6 = hV H0 281 6 := uSlot f10 281 6 (by rw [f9]; decide)
  refine ⟨⟨rfl, rfl, rfl, rfl, rfl, by omega, by omega, ?_⟩, fun q hq => nomatch hq⟩
  rw [w7, w5, w6, show (n7).toNat = 0 by omega]
  rfl
theorem c_147v_s_0 : vOkm T0 (eP e_147v L_147v A_147v mu_147v none) 5 ([(0, [7], [], 0), (80, [0, 6, 5], [1, 0], 0), (0, [6], [], 7), (0, [5], [], 9), (6000, [0, 1, 2, 3, 4], [0], 0), (0, [0], [], 281), (51, [1], [], 0), (51, [2], [], 0), (90, [3], [], -2147483648), (91, [3], [], 2147483647), (90, [4], [], -2147483648), (91, [4], [], 2147483647)], (4000, [0, 1, 2, 3, 4, 7], [1], 9)) := vOk_inI fun ρ η f0 f1 f2 f3 f4 f5 f6 f7 f8 f9 f10 f11 => q_147v_0 (n0 := ρ 4) (n1 := ρ 3) (n2 := ρ 2) (n3 := ρ 1) (n4 := ρ 0) (n5 := ρ 5) (n6 := ρ 6) (n7 := ρ 7) (H0 := η 0) (H1 := η 1) f11 f10 f9 f8 f7 f6 f5 f4 f3 f2 f1 f0
def p_147v_s : List vG := [([(0, [7], [], 0), (80, [0, 6, 5], [1, 0], 0), (0, [6], [], 7), (0, [5], [], 9), (6000, [0, 1, 2, 3, 4], [0], 0), (0, [0], [], 281), (51, [1], [], 0), (51, [2], [], 0), (90, [3], [], -2147483648), (91, [3], [], 2147483647), (90, [4], [], -2147483648), (91, [4], [], 2147483647)], (4000, [0, 1, 2, 3, 4, 7], [1], 9))]
theorem r_147v_s : vCovO false (eR0 e_147v L_147v cs_147v 2000) p_147v_s = true := by decide +kernel
theorem q_147v_1 {q0 : Nat} {n0 n1 n2 n3 n4 n5 n6 n7 n8 n9 n10 n11 n12 : Int} {H0 H1 : gH} (f0 : n0 ≤ 2147483647) (f1 : (-2147483648) ≤ n0) (f2 : n1 ≤ 2147483647) (f3 : (-2147483648) ≤ n1) (f4 : n2 ≤ 2147483647) (f5 : (-2147483648) ≤ n2) (f6 : 0 ≤ n3) (f7 : 0 ≤ n4) (f8 : n5 = 281) (f9 : n6 ≤ 2147483647) (f10 : (-2147483648) ≤ n6) (f11 : n7 ≤ 2147483647) (f12 : (-2147483648) ≤ n7) (f13 : 0 ≤ n8) (f14 : 0 ≤ n9) (f15 : n10 = 281) (f16 : (hLe T0 H0 H1 ∧ hFr s_147v.2.2.2.2 H0 H1 ∧ hWt T0 H1) ∧ (Ab_147v_9 n10 n9 n8 n7 n6 n5 n4 n3 n2 n1 n0 H0 H1 ∧ preb_147v n10 n9 n8 n7 n6 H0) ∧ some q0 = some (mub_147v_9 n10 n9 n8 n7 n6 n5 n4 n3 n2 n1 n0 H0 H1)) (f17 : n11 = 24) (f18 : n11 < n0) (f19 : n1 < 0) (f20 : n12 = (-1)) : postb_147v n12 n10 n9 n8 n7 n6 H0 H1 := by
  have pz := f16.2.1.2
  unfold preb_147v at pz
  obtain ⟨p1, p2, b0, c0⟩ := pz
  have ga := f16.2.1.1
  unfold Ab_147v_9 at ga
  obtain ⟨k0, k1, k2, k3, k4, k5, k6, y⟩ := ga
  have b1 := MBo_fr f16.1.1 f16.1.2.1 (by decide +kernel) b0
  have c1 := MBo_fr f16.1.1 f16.1.2.1 (by decide +kernel) c0
  have l1 := lkO_fr (sl := n7) f16.1.1 f16.1.2.1 (by decide +kernel) b0 c0
  rw [show (n0).toNat = 25 by omega] at y
  unfold postb_147v
  rw [← y]
  unfold fitR
  dsimp only
  have k4_ : n1 = n6 := k4
  first
  | (rw [if_pos (by omega)] <;> omega)
  | (rw [if_neg (by omega), if_pos (by omega)] <;> omega)
  | (rw [if_neg (by omega), if_neg (by omega), if_pos (by omega)] <;> omega)
  | (rw [if_neg (by omega), if_neg (by omega), if_neg (by omega)] <;> omega)
theorem c_147v_9_0 {q0 : Nat} : vOkm T0 (eP e_147v L_147v A_147v mu_147v (some q0)) 5 ([(0, [12], [], -1), (66, [9], [], 0), (44, [10, 11], [], 0), (0, [11], [], 24), (5000, [0, 1, 2, 3, 4, 5, 6, 7, 8, 9, 10], [0, 1], 9), (0, [0], [], 281), (51, [1], [], 0), (51, [2], [], 0), (90, [3], [], -2147483648), (91, [3], [], 2147483647), (90, [4], [], -2147483648), (91, [4], [], 2147483647), (0, [5], [], 281), (51, [6], [], 0), (51, [7], [], 0), (90, [8], [], -2147483648), (91, [8], [], 2147483647), (90, [9], [], -2147483648), (91, [9], [], 2147483647), (90, [10], [], -2147483648), (91, [10], [], 2147483647)], (3000, [12], [1], 84)) := vOk_inI fun ρ η f0 f1 f2 f3 f4 f5 f6 f7 f8 f9 f10 f11 f12 f13 f14 f15 f16 f17 f18 f19 f20 => q_147v_1 (q0 := q0) (n0 := ρ 10) (n1 := ρ 9) (n2 := ρ 8) (n3 := ρ 7) (n4 := ρ 6) (n5 := ρ 5) (n6 := ρ 4) (n7 := ρ 3) (n8 := ρ 2) (n9 := ρ 1) (n10 := ρ 0) (n11 := ρ 11) (n12 := ρ 12) (H0 := η 0) (H1 := η 1) f20 f19 f18 f17 f16 f15 f14 f13 f12 f11 f10 f9 f8 f7 f6 f5 f4 f3 f2 f1 f0
theorem q_147v_2 {q0 : Nat} {n0 n1 n2 n3 n4 n5 n6 n7 n8 n9 n10 n11 n12 : Int} {H0 H1 : gH} (f0 : n0 ≤ 2147483647) (f1 : (-2147483648) ≤ n0) (f2 : n1 ≤ 2147483647) (f3 : (-2147483648) ≤ n1) (f4 : n2 ≤ 2147483647) (f5 : (-2147483648) ≤ n2) (f6 : 0 ≤ n3) (f7 : 0 ≤ n4) (f8 : n5 = 281) (f9 : n6 ≤ 2147483647) (f10 : (-2147483648) ≤ n6) (f11 : n7 ≤ 2147483647) (f12 : (-2147483648) ≤ n7) (f13 : 0 ≤ n8) (f14 : 0 ≤ n9) (f15 : n10 = 281) (f16 : (hLe T0 H0 H1 ∧ hFr s_147v.2.2.2.2 H0 H1 ∧ hWt T0 H1) ∧ (Ab_147v_9 n10 n9 n8 n7 n6 n5 n4 n3 n2 n1 n0 H0 H1 ∧ preb_147v n10 n9 n8 n7 n6 H0) ∧ some q0 = some (mub_147v_9 n10 n9 n8 n7 n6 n5 n4 n3 n2 n1 n0 H0 H1)) (f17 : n11 = 24) (f18 : n11 < n0) (f19 : 2 < n1) (f20 : n12 = (-1)) : postb_147v n12 n10 n9 n8 n7 n6 H0 H1 := by
  have pz := f16.2.1.2
  unfold preb_147v at pz
  obtain ⟨p1, p2, b0, c0⟩ := pz
  have ga := f16.2.1.1
  unfold Ab_147v_9 at ga
  obtain ⟨k0, k1, k2, k3, k4, k5, k6, y⟩ := ga
  have b1 := MBo_fr f16.1.1 f16.1.2.1 (by decide +kernel) b0
  have c1 := MBo_fr f16.1.1 f16.1.2.1 (by decide +kernel) c0
  have l1 := lkO_fr (sl := n7) f16.1.1 f16.1.2.1 (by decide +kernel) b0 c0
  rw [show (n0).toNat = 25 by omega] at y
  unfold postb_147v
  rw [← y]
  unfold fitR
  dsimp only
  have k4_ : n1 = n6 := k4
  first
  | (rw [if_pos (by omega)] <;> omega)
  | (rw [if_neg (by omega), if_pos (by omega)] <;> omega)
  | (rw [if_neg (by omega), if_neg (by omega), if_pos (by omega)] <;> omega)
  | (rw [if_neg (by omega), if_neg (by omega), if_neg (by omega)] <;> omega)
theorem c_147v_9_1 {q0 : Nat} : vOkm T0 (eP e_147v L_147v A_147v mu_147v (some q0)) 5 ([(0, [12], [], -1), (67, [9], [], 2), (44, [10, 11], [], 0), (0, [11], [], 24), (5000, [0, 1, 2, 3, 4, 5, 6, 7, 8, 9, 10], [0, 1], 9), (0, [0], [], 281), (51, [1], [], 0), (51, [2], [], 0), (90, [3], [], -2147483648), (91, [3], [], 2147483647), (90, [4], [], -2147483648), (91, [4], [], 2147483647), (0, [5], [], 281), (51, [6], [], 0), (51, [7], [], 0), (90, [8], [], -2147483648), (91, [8], [], 2147483647), (90, [9], [], -2147483648), (91, [9], [], 2147483647), (90, [10], [], -2147483648), (91, [10], [], 2147483647)], (3000, [12], [1], 84)) := vOk_inI fun ρ η f0 f1 f2 f3 f4 f5 f6 f7 f8 f9 f10 f11 f12 f13 f14 f15 f16 f17 f18 f19 f20 => q_147v_2 (q0 := q0) (n0 := ρ 10) (n1 := ρ 9) (n2 := ρ 8) (n3 := ρ 7) (n4 := ρ 6) (n5 := ρ 5) (n6 := ρ 4) (n7 := ρ 3) (n8 := ρ 2) (n9 := ρ 1) (n10 := ρ 0) (n11 := ρ 11) (n12 := ρ 12) (H0 := η 0) (H1 := η 1) f20 f19 f18 f17 f16 f15 f14 f13 f12 f11 f10 f9 f8 f7 f6 f5 f4 f3 f2 f1 f0
theorem q_147v_3 {q0 : Nat} {n0 n1 n2 n3 n4 n5 n6 n7 n8 n9 n10 n11 n12 : Int} {H0 H1 : gH} (f0 : n0 ≤ 2147483647) (f1 : (-2147483648) ≤ n0) (f2 : n1 ≤ 2147483647) (f3 : (-2147483648) ≤ n1) (f4 : n2 ≤ 2147483647) (f5 : (-2147483648) ≤ n2) (f6 : 0 ≤ n3) (f7 : 0 ≤ n4) (f8 : n5 = 281) (f9 : n6 ≤ 2147483647) (f10 : (-2147483648) ≤ n6) (f11 : n7 ≤ 2147483647) (f12 : (-2147483648) ≤ n7) (f13 : 0 ≤ n8) (f14 : 0 ≤ n9) (f15 : n10 = 281) (f16 : (hLe T0 H0 H1 ∧ hFr s_147v.2.2.2.2 H0 H1 ∧ hWt T0 H1) ∧ (Ab_147v_9 n10 n9 n8 n7 n6 n5 n4 n3 n2 n1 n0 H0 H1 ∧ preb_147v n10 n9 n8 n7 n6 H0) ∧ some q0 = some (mub_147v_9 n10 n9 n8 n7 n6 n5 n4 n3 n2 n1 n0 H0 H1)) (f17 : n11 = 24) (f18 : n11 < n0) (f19 : n1 = 0) (f20 : n12 ≤ 2147483647) (f21 : (-2147483648) ≤ n12) (f22 : n12 = hV H1 (n5).toNat 7) : postb_147v n12 n10 n9 n8 n7 n6 H0 H1 := by
  have pz := f16.2.1.2
  unfold preb_147v at pz
  obtain ⟨p1, p2, b0, c0⟩ := pz
  have ga := f16.2.1.1
  unfold Ab_147v_9 at ga
  obtain ⟨k0, k1, k2, k3, k4, k5, k6, y⟩ := ga
  have b1 := MBo_fr f16.1.1 f16.1.2.1 (by decide +kernel) b0
  have c1 := MBo_fr f16.1.1 f16.1.2.1 (by decide +kernel) c0
  have l1 := lkO_fr (sl := n7) f16.1.1 f16.1.2.1 (by decide +kernel) b0 c0
  rw [show (n0).toNat = 25 by omega] at y
  unfold postb_147v
  rw [← y]
  unfold fitR
  have rd := f22
  rw [f8] at rd
  rw [show ((281 : Int)).toNat = 281 from rfl] at rd
  dsimp only
  have k4_ : n1 = n6 := k4
  first
  | (rw [if_pos (by omega)] <;> omega)
  | (rw [if_neg (by omega), if_pos (by omega)] <;> omega)
  | (rw [if_neg (by omega), if_neg (by omega), if_pos (by omega)] <;> omega)
  | (rw [if_neg (by omega), if_neg (by omega), if_neg (by omega)] <;> omega)
theorem c_147v_9_2 {q0 : Nat} : vOkm T0 (eP e_147v L_147v A_147v mu_147v (some q0)) 5 ([(20, [12, 5], [1], 7), (90, [12], [], -2147483648), (91, [12], [], 2147483647), (0, [9], [], 0), (44, [10, 11], [], 0), (0, [11], [], 24), (5000, [0, 1, 2, 3, 4, 5, 6, 7, 8, 9, 10], [0, 1], 9), (0, [0], [], 281), (51, [1], [], 0), (51, [2], [], 0), (90, [3], [], -2147483648), (91, [3], [], 2147483647), (90, [4], [], -2147483648), (91, [4], [], 2147483647), (0, [5], [], 281), (51, [6], [], 0), (51, [7], [], 0), (90, [8], [], -2147483648), (91, [8], [], 2147483647), (90, [9], [], -2147483648), (91, [9], [], 2147483647), (90, [10], [], -2147483648), (91, [10], [], 2147483647)], (3000, [12], [1], 72)) := vOk_inI fun ρ η f0 f1 f2 f3 f4 f5 f6 f7 f8 f9 f10 f11 f12 f13 f14 f15 f16 f17 f18 f19 f20 f21 f22 => q_147v_3 (q0 := q0) (n0 := ρ 10) (n1 := ρ 9) (n2 := ρ 8) (n3 := ρ 7) (n4 := ρ 6) (n5 := ρ 5) (n6 := ρ 4) (n7 := ρ 3) (n8 := ρ 2) (n9 := ρ 1) (n10 := ρ 0) (n11 := ρ 11) (n12 := ρ 12) (H0 := η 0) (H1 := η 1) f22 f21 f20 f19 f18 f17 f16 f15 f14 f13 f12 f11 f10 f9 f8 f7 f6 f5 f4 f3 f2 f1 f0
theorem q_147v_4 {q0 : Nat} {n0 n1 n2 n3 n4 n5 n6 n7 n8 n9 n10 n11 n12 : Int} {H0 H1 : gH} (f0 : n0 ≤ 2147483647) (f1 : (-2147483648) ≤ n0) (f2 : n1 ≤ 2147483647) (f3 : (-2147483648) ≤ n1) (f4 : n2 ≤ 2147483647) (f5 : (-2147483648) ≤ n2) (f6 : 0 ≤ n3) (f7 : 0 ≤ n4) (f8 : n5 = 281) (f9 : n6 ≤ 2147483647) (f10 : (-2147483648) ≤ n6) (f11 : n7 ≤ 2147483647) (f12 : (-2147483648) ≤ n7) (f13 : 0 ≤ n8) (f14 : 0 ≤ n9) (f15 : n10 = 281) (f16 : (hLe T0 H0 H1 ∧ hFr s_147v.2.2.2.2 H0 H1 ∧ hWt T0 H1) ∧ (Ab_147v_9 n10 n9 n8 n7 n6 n5 n4 n3 n2 n1 n0 H0 H1 ∧ preb_147v n10 n9 n8 n7 n6 H0) ∧ some q0 = some (mub_147v_9 n10 n9 n8 n7 n6 n5 n4 n3 n2 n1 n0 H0 H1)) (f17 : n11 = 24) (f18 : n11 < n0) (f19 : n1 = 1) (f20 : n12 ≤ 2147483647) (f21 : (-2147483648) ≤ n12) (f22 : n12 = hV H1 (n5).toNat 5) : postb_147v n12 n10 n9 n8 n7 n6 H0 H1 := by
  have pz := f16.2.1.2
  unfold preb_147v at pz
  obtain ⟨p1, p2, b0, c0⟩ := pz
  have ga := f16.2.1.1
  unfold Ab_147v_9 at ga
  obtain ⟨k0, k1, k2, k3, k4, k5, k6, y⟩ := ga
  have b1 := MBo_fr f16.1.1 f16.1.2.1 (by decide +kernel) b0
  have c1 := MBo_fr f16.1.1 f16.1.2.1 (by decide +kernel) c0
  have l1 := lkO_fr (sl := n7) f16.1.1 f16.1.2.1 (by decide +kernel) b0 c0
  rw [show (n0).toNat = 25 by omega] at y
  unfold postb_147v
  rw [← y]
  unfold fitR
  have rd := f22
  rw [f8] at rd
  rw [show ((281 : Int)).toNat = 281 from rfl] at rd
  dsimp only
  have k4_ : n1 = n6 := k4
  first
  | (rw [if_pos (by omega)] <;> omega)
  | (rw [if_neg (by omega), if_pos (by omega)] <;> omega)
  | (rw [if_neg (by omega), if_neg (by omega), if_pos (by omega)] <;> omega)
  | (rw [if_neg (by omega), if_neg (by omega), if_neg (by omega)] <;> omega)
theorem c_147v_9_3 {q0 : Nat} : vOkm T0 (eP e_147v L_147v A_147v mu_147v (some q0)) 5 ([(20, [12, 5], [1], 5), (90, [12], [], -2147483648), (91, [12], [], 2147483647), (0, [9], [], 1), (44, [10, 11], [], 0), (0, [11], [], 24), (5000, [0, 1, 2, 3, 4, 5, 6, 7, 8, 9, 10], [0, 1], 9), (0, [0], [], 281), (51, [1], [], 0), (51, [2], [], 0), (90, [3], [], -2147483648), (91, [3], [], 2147483647), (90, [4], [], -2147483648), (91, [4], [], 2147483647), (0, [5], [], 281), (51, [6], [], 0), (51, [7], [], 0), (90, [8], [], -2147483648), (91, [8], [], 2147483647), (90, [9], [], -2147483648), (91, [9], [], 2147483647), (90, [10], [], -2147483648), (91, [10], [], 2147483647)], (3000, [12], [1], 77)) := vOk_inI fun ρ η f0 f1 f2 f3 f4 f5 f6 f7 f8 f9 f10 f11 f12 f13 f14 f15 f16 f17 f18 f19 f20 f21 f22 => q_147v_4 (q0 := q0) (n0 := ρ 10) (n1 := ρ 9) (n2 := ρ 8) (n3 := ρ 7) (n4 := ρ 6) (n5 := ρ 5) (n6 := ρ 4) (n7 := ρ 3) (n8 := ρ 2) (n9 := ρ 1) (n10 := ρ 0) (n11 := ρ 11) (n12 := ρ 12) (H0 := η 0) (H1 := η 1) f22 f21 f20 f19 f18 f17 f16 f15 f14 f13 f12 f11 f10 f9 f8 f7 f6 f5 f4 f3 f2 f1 f0
theorem q_147v_5 {q0 : Nat} {n0 n1 n2 n3 n4 n5 n6 n7 n8 n9 n10 n11 n12 : Int} {H0 H1 : gH} (f0 : n0 ≤ 2147483647) (f1 : (-2147483648) ≤ n0) (f2 : n1 ≤ 2147483647) (f3 : (-2147483648) ≤ n1) (f4 : n2 ≤ 2147483647) (f5 : (-2147483648) ≤ n2) (f6 : 0 ≤ n3) (f7 : 0 ≤ n4) (f8 : n5 = 281) (f9 : n6 ≤ 2147483647) (f10 : (-2147483648) ≤ n6) (f11 : n7 ≤ 2147483647) (f12 : (-2147483648) ≤ n7) (f13 : 0 ≤ n8) (f14 : 0 ≤ n9) (f15 : n10 = 281) (f16 : (hLe T0 H0 H1 ∧ hFr s_147v.2.2.2.2 H0 H1 ∧ hWt T0 H1) ∧ (Ab_147v_9 n10 n9 n8 n7 n6 n5 n4 n3 n2 n1 n0 H0 H1 ∧ preb_147v n10 n9 n8 n7 n6 H0) ∧ some q0 = some (mub_147v_9 n10 n9 n8 n7 n6 n5 n4 n3 n2 n1 n0 H0 H1)) (f17 : n11 = 24) (f18 : n11 < n0) (f19 : n1 = 2) (f20 : n12 ≤ 2147483647) (f21 : (-2147483648) ≤ n12) (f22 : n12 = hV H1 (n5).toNat 6) : postb_147v n12 n10 n9 n8 n7 n6 H0 H1 := by
  have pz := f16.2.1.2
  unfold preb_147v at pz
  obtain ⟨p1, p2, b0, c0⟩ := pz
  have ga := f16.2.1.1
  unfold Ab_147v_9 at ga
  obtain ⟨k0, k1, k2, k3, k4, k5, k6, y⟩ := ga
  have b1 := MBo_fr f16.1.1 f16.1.2.1 (by decide +kernel) b0
  have c1 := MBo_fr f16.1.1 f16.1.2.1 (by decide +kernel) c0
  have l1 := lkO_fr (sl := n7) f16.1.1 f16.1.2.1 (by decide +kernel) b0 c0
  rw [show (n0).toNat = 25 by omega] at y
  unfold postb_147v
  rw [← y]
  unfold fitR
  have rd := f22
  rw [f8] at rd
  rw [show ((281 : Int)).toNat = 281 from rfl] at rd
  dsimp only
  have k4_ : n1 = n6 := k4
  first
  | (rw [if_pos (by omega)] <;> omega)
  | (rw [if_neg (by omega), if_pos (by omega)] <;> omega)
  | (rw [if_neg (by omega), if_neg (by omega), if_pos (by omega)] <;> omega)
  | (rw [if_neg (by omega), if_neg (by omega), if_neg (by omega)] <;> omega)
theorem c_147v_9_4 {q0 : Nat} : vOkm T0 (eP e_147v L_147v A_147v mu_147v (some q0)) 5 ([(20, [12, 5], [1], 6), (90, [12], [], -2147483648), (91, [12], [], 2147483647), (0, [9], [], 2), (44, [10, 11], [], 0), (0, [11], [], 24), (5000, [0, 1, 2, 3, 4, 5, 6, 7, 8, 9, 10], [0, 1], 9), (0, [0], [], 281), (51, [1], [], 0), (51, [2], [], 0), (90, [3], [], -2147483648), (91, [3], [], 2147483647), (90, [4], [], -2147483648), (91, [4], [], 2147483647), (0, [5], [], 281), (51, [6], [], 0), (51, [7], [], 0), (90, [8], [], -2147483648), (91, [8], [], 2147483647), (90, [9], [], -2147483648), (91, [9], [], 2147483647), (90, [10], [], -2147483648), (91, [10], [], 2147483647)], (3000, [12], [1], 82)) := vOk_inI fun ρ η f0 f1 f2 f3 f4 f5 f6 f7 f8 f9 f10 f11 f12 f13 f14 f15 f16 f17 f18 f19 f20 f21 f22 => q_147v_5 (q0 := q0) (n0 := ρ 10) (n1 := ρ 9) (n2 := ρ 8) (n3 := ρ 7) (n4 := ρ 6) (n5 := ρ 5) (n6 := ρ 4) (n7 := ρ 3) (n8 := ρ 2) (n9 := ρ 1) (n10 := ρ 0) (n11 := ρ 11) (n12 := ρ 12) (H0 := η 0) (H1 := η 1) f22 f21 f20 f19 f18 f17 f16 f15 f14 f13 f12 f11 f10 f9 f8 f7 f6 f5 f4 f3 f2 f1 f0
theorem q_147v_6 {q0 : Nat} {n0 n1 n2 n3 n4 n5 n6 n7 n8 n9 n10 n11 n12 : Int} {H0 H1 : gH} (f0 : n0 ≤ 2147483647) (f1 : (-2147483648) ≤ n0) (f2 : n1 ≤ 2147483647) (f3 : (-2147483648) ≤ n1) (f4 : n2 ≤ 2147483647) (f5 : (-2147483648) ≤ n2) (f6 : 0 ≤ n3) (f7 : 0 ≤ n4) (f8 : n5 = 281) (f9 : n6 ≤ 2147483647) (f10 : (-2147483648) ≤ n6) (f11 : n7 ≤ 2147483647) (f12 : (-2147483648) ≤ n7) (f13 : 0 ≤ n8) (f14 : 0 ≤ n9) (f15 : n10 = 281) (f16 : (hLe T0 H0 H1 ∧ hFr s_147v.2.2.2.2 H0 H1 ∧ hWt T0 H1) ∧ (Ab_147v_9 n10 n9 n8 n7 n6 n5 n4 n3 n2 n1 n0 H0 H1 ∧ preb_147v n10 n9 n8 n7 n6 H0) ∧ some q0 = some (mub_147v_9 n10 n9 n8 n7 n6 n5 n4 n3 n2 n1 n0 H0 H1)) (f17 : n11 = 24) (f18 : n0 ≤ n11) (f19 : n12 = w32 (-n0)) : preb_148v n5 n4 n3 n2 n12 H1 := by
  have pz := f16.2.1.2
  unfold preb_147v at pz
  obtain ⟨p1, p2, b0, c0⟩ := pz
  have ga := f16.2.1.1
  unfold Ab_147v_9 at ga
  obtain ⟨k0, k1, k2, k3, k4, k5, k6, y⟩ := ga
  have b1 := MBo_fr f16.1.1 f16.1.2.1 (by decide +kernel) b0
  have c1 := MBo_fr f16.1.1 f16.1.2.1 (by decide +kernel) c0
  have l1 := lkO_fr (sl := n7) f16.1.1 f16.1.2.1 (by decide +kernel) b0 c0
  have zn := f19
  unfold w32 at zn
  unfold preb_148v
  rw [show n4 = n9 from k1, show n3 = n8 from k2, show n2 = n7 from k3]
  exact ⟨p1, p2, by omega, by omega, b1, c1⟩
theorem c_147v_9_5 {q0 : Nat} : vOkm T0 (eP e_147v L_147v A_147v mu_147v (some q0)) 5 ([(14, [12, 10], [], 0), (45, [10, 11], [], 0), (0, [11], [], 24), (5000, [0, 1, 2, 3, 4, 5, 6, 7, 8, 9, 10], [0, 1], 9), (0, [0], [], 281), (51, [1], [], 0), (51, [2], [], 0), (90, [3], [], -2147483648), (91, [3], [], 2147483647), (90, [4], [], -2147483648), (91, [4], [], 2147483647), (0, [5], [], 281), (51, [6], [], 0), (51, [7], [], 0), (90, [8], [], -2147483648), (91, [8], [], 2147483647), (90, [9], [], -2147483648), (91, [9], [], 2147483647), (90, [10], [], -2147483648), (91, [10], [], 2147483647)], (2148, [5, 6, 7, 8, 12], [1], 0)) := vOk_inI fun ρ η f0 f1 f2 f3 f4 f5 f6 f7 f8 f9 f10 f11 f12 f13 f14 f15 f16 f17 f18 f19 => q_147v_6 (q0 := q0) (n0 := ρ 10) (n1 := ρ 9) (n2 := ρ 8) (n3 := ρ 7) (n4 := ρ 6) (n5 := ρ 5) (n6 := ρ 4) (n7 := ρ 3) (n8 := ρ 2) (n9 := ρ 1) (n10 := ρ 0) (n11 := ρ 11) (n12 := ρ 12) (H0 := η 0) (H1 := η 1) f19 f18 f17 f16 f15 f14 f13 f12 f11 f10 f9 f8 f7 f6 f5 f4 f3 f2 f1 f0
theorem q_147v_7 {q0 : Nat} {n0 n1 n2 n3 n4 n5 n6 n7 n8 n9 n10 n11 n12 : Int} {H0 H1 H2 : gH} (f0 : n0 ≤ 2147483647) (f1 : (-2147483648) ≤ n0) (f2 : n1 ≤ 2147483647) (f3 : (-2147483648) ≤ n1) (f4 : n2 ≤ 2147483647) (f5 : (-2147483648) ≤ n2) (f6 : 0 ≤ n3) (f7 : 0 ≤ n4) (f8 : n5 = 281) (f9 : n6 ≤ 2147483647) (f10 : (-2147483648) ≤ n6) (f11 : n7 ≤ 2147483647) (f12 : (-2147483648) ≤ n7) (f13 : 0 ≤ n8) (f14 : 0 ≤ n9) (f15 : n10 = 281) (f16 : (hLe T0 H0 H1 ∧ hFr s_147v.2.2.2.2 H0 H1 ∧ hWt T0 H1) ∧ (Ab_147v_9 n10 n9 n8 n7 n6 n5 n4 n3 n2 n1 n0 H0 H1 ∧ preb_147v n10 n9 n8 n7 n6 H0) ∧ some q0 = some (mub_147v_9 n10 n9 n8 n7 n6 n5 n4 n3 n2 n1 n0 H0 H1)) (f17 : n11 = 24) (f18 : n0 ≤ n11) (f19 : n12 = w32 (-n0)) (f20 : (hLe T0 H1 H2 ∧ hFr s_148v.2.2.2.2 H1 H2 ∧ ((0 : Int) = 0 → H2.length = H1.length) ∧ hWt T0 H2) ∧ postb_148v n5 n4 n3 n2 n12 H1 H2) : preb_148v n5 n4 n3 n2 n0 H2 := by
  have pz := f16.2.1.2
  unfold preb_147v at pz
  obtain ⟨p1, p2, b0, c0⟩ := pz
  have ga := f16.2.1.1
  unfold Ab_147v_9 at ga
  obtain ⟨k0, k1, k2, k3, k4, k5, k6, y⟩ := ga
  have b1 := MBo_fr f16.1.1 f16.1.2.1 (by decide +kernel) b0
  have c1 := MBo_fr f16.1.1 f16.1.2.1 (by decide +kernel) c0
  have l1 := lkO_fr (sl := n7) f16.1.1 f16.1.2.1 (by decide +kernel) b0 c0
  have b2 := MBo_fr f20.1.1 f20.1.2.1 (by decide +kernel) b1
  have c2 := MBo_fr f20.1.1 f20.1.2.1 (by decide +kernel) c1
  have l2 := lkO_fr (sl := n7) f20.1.1 f20.1.2.1 (by decide +kernel) b1 c1
  have zn := f19
  unfold w32 at zn
  unfold preb_148v
  rw [show n4 = n9 from k1, show n3 = n8 from k2, show n2 = n7 from k3]
  exact ⟨p1, p2, by omega, by omega, b2, c2⟩
theorem c_147v_9_6 {q0 : Nat} : vOkm T0 (eP e_147v L_147v A_147v mu_147v (some q0)) 5 ([(1148, [5, 6, 7, 8, 12], [1, 2], 0), (14, [12, 10], [], 0), (45, [10, 11], [], 0), (0, [11], [], 24), (5000, [0, 1, 2, 3, 4, 5, 6, 7, 8, 9, 10], [0, 1], 9), (0, [0], [], 281), (51, [1], [], 0), (51, [2], [], 0), (90, [3], [], -2147483648), (91, [3], [], 2147483647), (90, [4], [], -2147483648), (91, [4], [], 2147483647), (0, [5], [], 281), (51, [6], [], 0), (51, [7], [], 0), (90, [8], [], -2147483648), (91, [8], [], 2147483647), (90, [9], [], -2147483648), (91, [9], [], 2147483647), (90, [10], [], -2147483648), (91, [10], [], 2147483647)], (2148, [5, 6, 7, 8, 10], [2], 0)) := vOk_inI fun ρ η f0 f1 f2 f3 f4 f5 f6 f7 f8 f9 f10 f11 f12 f13 f14 f15 f16 f17 f18 f19 f20 => q_147v_7 (q0 := q0) (n0 := ρ 10) (n1 := ρ 9) (n2 := ρ 8) (n3 := ρ 7) (n4 := ρ 6) (n5 := ρ 5) (n6 := ρ 4) (n7 := ρ 3) (n8 := ρ 2) (n9 := ρ 1) (n10 := ρ 0) (n11 := ρ 11) (n12 := ρ 12) (H0 := η 0) (H1 := η 1) (H2 := η 2) f20 f19 f18 f17 f16 f15 f14 f13 f12 f11 f10 f9 f8 f7 f6 f5 f4 f3 f2 f1 f0
theorem q_147v_8 {q0 : Nat} {n0 n1 n2 n3 n4 n5 n6 n7 n8 n9 n10 n11 n12 n13 : Int} {H0 H1 H2 H3 : gH} (f0 : n0 ≤ 2147483647) (f1 : (-2147483648) ≤ n0) (f2 : n1 ≤ 2147483647) (f3 : (-2147483648) ≤ n1) (f4 : n2 ≤ 2147483647) (f5 : (-2147483648) ≤ n2) (f6 : 0 ≤ n3) (f7 : 0 ≤ n4) (f8 : n5 = 281) (f9 : n6 ≤ 2147483647) (f10 : (-2147483648) ≤ n6) (f11 : n7 ≤ 2147483647) (f12 : (-2147483648) ≤ n7) (f13 : 0 ≤ n8) (f14 : 0 ≤ n9) (f15 : n10 = 281) (f16 : (hLe T0 H0 H1 ∧ hFr s_147v.2.2.2.2 H0 H1 ∧ hWt T0 H1) ∧ (Ab_147v_9 n10 n9 n8 n7 n6 n5 n4 n3 n2 n1 n0 H0 H1 ∧ preb_147v n10 n9 n8 n7 n6 H0) ∧ some q0 = some (mub_147v_9 n10 n9 n8 n7 n6 n5 n4 n3 n2 n1 n0 H0 H1)) (f17 : n11 = 24) (f18 : n0 ≤ n11) (f19 : n12 = w32 (-n0)) (f20 : (hLe T0 H1 H2 ∧ hFr s_148v.2.2.2.2 H1 H2 ∧ ((0 : Int) = 0 → H2.length = H1.length) ∧ hWt T0 H2) ∧ postb_148v n5 n4 n3 n2 n12 H1 H2) (f21 : (hLe T0 H2 H3 ∧ hFr s_148v.2.2.2.2 H2 H3 ∧ ((0 : Int) = 0 → H3.length = H2.length) ∧ hWt T0 H3) ∧ postb_148v n5 n4 n3 n2 n0 H2 H3) (f22 : n13 = w32 (n0 + 1)) : Ab_147v_9 n10 n9 n8 n7 n6 n5 n4 n3 n2 n1 n13 H0 H3 ∧ ∀ q, some q0 = some q → mub_147v_9 n10 n9 n8 n7 n6 n5 n4 n3 n2 n1 n13 H0 H3 < q := by
  have pz := f16.2.1.2
  unfold preb_147v at pz
  obtain ⟨p1, p2, b0, c0⟩ := pz
  have ga := f16.2.1.1
  unfold Ab_147v_9 at ga
  obtain ⟨k0, k1, k2, k3, k4, k5, k6, y⟩ := ga
  have b1 := MBo_fr f16.1.1 f16.1.2.1 (by decide +kernel) b0
  have c1 := MBo_fr f16.1.1 f16.1.2.1 (by decide +kernel) c0
  have l1 := lkO_fr (sl := n7) f16.1.1 f16.1.2.1 (by decide +kernel) b0 c0
  have b2 := MBo_fr f20.1.1 f20.1.2.1 (by decide +kernel) b1
  have c2 := MBo_fr f20.1.1 f20.1.2.1 (by decide +kernel) c1
  have l2 := lkO_fr (sl := n7) f20.1.1 f20.1.2.1 (by decide +kernel) b1 c1
  have b3 := MBo_fr f21.1.1 f21.1.2.1 (by decide +kernel) b2
  have c3 := MBo_fr f21.1.1 f21.1.2.1 (by decide +kernel) c2
  have l3 := lkO_fr (sl := n7) f21.1.1 f21.1.2.1 (by decide +kernel) b2 c2
  have zn := f19
  unfold w32 at zn
  have s1 := f20.2
  unfold postb_148v at s1
  rw [show n4 = n9 from k1, show n3 = n8 from k2, show n2 = n7 from k3] at s1
  have s2 := f21.2
  unfold postb_148v at s2
  rw [show n4 = n9 from k1, show n3 = n8 from k2, show n2 = n7 from k3] at s2
  have z5 := f22
  unfold w32 at z5
  have g5 := Option.some.inj f16.2.2
  unfold mub_147v_9 at g5
  unfold Ab_147v_9 mub_147v_9
  refine ⟨⟨k0, k1, k2, k3, k4, by omega, by omega, ?_⟩, fun q hq => ?_⟩
  · rw [s2, s1, y, l2, l1, show (n13).toNat = (n0).toNat + 1 by omega]
    rw [ff_succ, Int.toNat_of_nonneg k5, show n12 = -n0 by omega]
  · have g6 := Option.some.inj hq
    subst g6
    omega
theorem c_147v_9_7 {q0 : Nat} : vOkm T0 (eP e_147v L_147v A_147v mu_147v (some q0)) 5 ([(10, [13, 10], [], 1), (1148, [5, 6, 7, 8, 10], [2, 3], 0), (1148, [5, 6, 7, 8, 12], [1, 2], 0), (14, [12, 10], [], 0), (45, [10, 11], [], 0), (0, [11], [], 24), (5000, [0, 1, 2, 3, 4, 5, 6, 7, 8, 9, 10], [0, 1], 9), (0, [0], [], 281), (51, [1], [], 0), (51, [2], [], 0), (90, [3], [], -2147483648), (91, [3], [], 2147483647), (90, [4], [], -2147483648), (91, [4], [], 2147483647), (0, [5], [], 281), (51, [6], [], 0), (51, [7], [], 0), (90, [8], [], -2147483648), (91, [8], [], 2147483647), (90, [9], [], -2147483648), (91, [9], [], 2147483647), (90, [10], [], -2147483648), (91, [10], [], 2147483647)], (4000, [5, 6, 7, 8, 9, 13], [3], 9)) := vOk_inI fun ρ η f0 f1 f2 f3 f4 f5 f6 f7 f8 f9 f10 f11 f12 f13 f14 f15 f16 f17 f18 f19 f20 f21 f22 => q_147v_8 (q0 := q0) (n0 := ρ 10) (n1 := ρ 9) (n2 := ρ 8) (n3 := ρ 7) (n4 := ρ 6) (n5 := ρ 5) (n6 := ρ 4) (n7 := ρ 3) (n8 := ρ 2) (n9 := ρ 1) (n10 := ρ 0) (n11 := ρ 11) (n12 := ρ 12) (n13 := ρ 13) (H0 := η 0) (H1 := η 1) (H2 := η 2) (H3 := η 3) f22 f21 f20 f19 f18 f17 f16 f15 f14 f13 f12 f11 f10 f9 f8 f7 f6 f5 f4 f3 f2 f1 f0
def p_147v_9 : List vG := [([(0, [12], [], -1), (66, [9], [], 0), (44, [10, 11], [], 0), (0, [11], [], 24), (5000, [0, 1, 2, 3, 4, 5, 6, 7, 8, 9, 10], [0, 1], 9), (0, [0], [], 281), (51, [1], [], 0), (51, [2], [], 0), (90, [3], [], -2147483648), (91, [3], [], 2147483647), (90, [4], [], -2147483648), (91, [4], [], 2147483647), (0, [5], [], 281), (51, [6], [], 0), (51, [7], [], 0), (90, [8], [], -2147483648), (91, [8], [], 2147483647), (90, [9], [], -2147483648), (91, [9], [], 2147483647), (90, [10], [], -2147483648), (91, [10], [], 2147483647)], (3000, [12], [1], 84)),
  ([(0, [12], [], -1), (67, [9], [], 2), (44, [10, 11], [], 0), (0, [11], [], 24), (5000, [0, 1, 2, 3, 4, 5, 6, 7, 8, 9, 10], [0, 1], 9), (0, [0], [], 281), (51, [1], [], 0), (51, [2], [], 0), (90, [3], [], -2147483648), (91, [3], [], 2147483647), (90, [4], [], -2147483648), (91, [4], [], 2147483647), (0, [5], [], 281), (51, [6], [], 0), (51, [7], [], 0), (90, [8], [], -2147483648), (91, [8], [], 2147483647), (90, [9], [], -2147483648), (91, [9], [], 2147483647), (90, [10], [], -2147483648), (91, [10], [], 2147483647)], (3000, [12], [1], 84)),
  ([(20, [12, 5], [1], 7), (90, [12], [], -2147483648), (91, [12], [], 2147483647), (0, [9], [], 0), (44, [10, 11], [], 0), (0, [11], [], 24), (5000, [0, 1, 2, 3, 4, 5, 6, 7, 8, 9, 10], [0, 1], 9), (0, [0], [], 281), (51, [1], [], 0), (51, [2], [], 0), (90, [3], [], -2147483648), (91, [3], [], 2147483647), (90, [4], [], -2147483648), (91, [4], [], 2147483647), (0, [5], [], 281), (51, [6], [], 0), (51, [7], [], 0), (90, [8], [], -2147483648), (91, [8], [], 2147483647), (90, [9], [], -2147483648), (91, [9], [], 2147483647), (90, [10], [], -2147483648), (91, [10], [], 2147483647)], (3000, [12], [1], 72)),
  ([(20, [12, 5], [1], 5), (90, [12], [], -2147483648), (91, [12], [], 2147483647), (0, [9], [], 1), (44, [10, 11], [], 0), (0, [11], [], 24), (5000, [0, 1, 2, 3, 4, 5, 6, 7, 8, 9, 10], [0, 1], 9), (0, [0], [], 281), (51, [1], [], 0), (51, [2], [], 0), (90, [3], [], -2147483648), (91, [3], [], 2147483647), (90, [4], [], -2147483648), (91, [4], [], 2147483647), (0, [5], [], 281), (51, [6], [], 0), (51, [7], [], 0), (90, [8], [], -2147483648), (91, [8], [], 2147483647), (90, [9], [], -2147483648), (91, [9], [], 2147483647), (90, [10], [], -2147483648), (91, [10], [], 2147483647)], (3000, [12], [1], 77)),
  ([(20, [12, 5], [1], 6), (90, [12], [], -2147483648), (91, [12], [], 2147483647), (0, [9], [], 2), (44, [10, 11], [], 0), (0, [11], [], 24), (5000, [0, 1, 2, 3, 4, 5, 6, 7, 8, 9, 10], [0, 1], 9), (0, [0], [], 281), (51, [1], [], 0), (51, [2], [], 0), (90, [3], [], -2147483648), (91, [3], [], 2147483647), (90, [4], [], -2147483648), (91, [4], [], 2147483647), (0, [5], [], 281), (51, [6], [], 0), (51, [7], [], 0), (90, [8], [], -2147483648), (91, [8], [], 2147483647), (90, [9], [], -2147483648), (91, [9], [], 2147483647), (90, [10], [], -2147483648), (91, [10], [], 2147483647)], (3000, [12], [1], 82)),
  ([(14, [12, 10], [], 0), (45, [10, 11], [], 0), (0, [11], [], 24), (5000, [0, 1, 2, 3, 4, 5, 6, 7, 8, 9, 10], [0, 1], 9), (0, [0], [], 281), (51, [1], [], 0), (51, [2], [], 0), (90, [3], [], -2147483648), (91, [3], [], 2147483647), (90, [4], [], -2147483648), (91, [4], [], 2147483647), (0, [5], [], 281), (51, [6], [], 0), (51, [7], [], 0), (90, [8], [], -2147483648), (91, [8], [], 2147483647), (90, [9], [], -2147483648), (91, [9], [], 2147483647), (90, [10], [], -2147483648), (91, [10], [], 2147483647)], (2148, [5, 6, 7, 8, 12], [1], 0)),
  ([(1148, [5, 6, 7, 8, 12], [1, 2], 0), (14, [12, 10], [], 0), (45, [10, 11], [], 0), (0, [11], [], 24), (5000, [0, 1, 2, 3, 4, 5, 6, 7, 8, 9, 10], [0, 1], 9), (0, [0], [], 281), (51, [1], [], 0), (51, [2], [], 0), (90, [3], [], -2147483648), (91, [3], [], 2147483647), (90, [4], [], -2147483648), (91, [4], [], 2147483647), (0, [5], [], 281), (51, [6], [], 0), (51, [7], [], 0), (90, [8], [], -2147483648), (91, [8], [], 2147483647), (90, [9], [], -2147483648), (91, [9], [], 2147483647), (90, [10], [], -2147483648), (91, [10], [], 2147483647)], (2148, [5, 6, 7, 8, 10], [2], 0)),
  ([(10, [13, 10], [], 1), (1148, [5, 6, 7, 8, 10], [2, 3], 0), (1148, [5, 6, 7, 8, 12], [1, 2], 0), (14, [12, 10], [], 0), (45, [10, 11], [], 0), (0, [11], [], 24), (5000, [0, 1, 2, 3, 4, 5, 6, 7, 8, 9, 10], [0, 1], 9), (0, [0], [], 281), (51, [1], [], 0), (51, [2], [], 0), (90, [3], [], -2147483648), (91, [3], [], 2147483647), (90, [4], [], -2147483648), (91, [4], [], 2147483647), (0, [5], [], 281), (51, [6], [], 0), (51, [7], [], 0), (90, [8], [], -2147483648), (91, [8], [], 2147483647), (90, [9], [], -2147483648), (91, [9], [], 2147483647), (90, [10], [], -2147483648), (91, [10], [], 2147483647)], (4000, [5, 6, 7, 8, 9, 13], [3], 9))]
theorem r_147v_9 : vCovO false (eRc e_147v L_147v cs_147v 2000 (9, [(0, (3, 9, 281, 0)), (1, (3, 7, -1, 0)), (2, (3, 7, -1, 0)), (3, (0, -2147483648, 2147483647, 0)), (4, (0, -2147483648, 2147483647, 0)), (5, (0, -2147483648, 2147483647, 0))])) p_147v_9 = true := by decide +kernel
theorem m_147v (d : Nat) : eC e_147v (d + 5) := eC_ok (e := e_147v) (L := L_147v) (cs := cs_147v) (n := 2000) (d := d + 4) (A := A_147v) (μ := mu_147v) (tp := false) (p0 := p_147v_s) rfl ⟨m_148v d, trivial⟩ rfl (.inl rfl) (by decide +kernel) (fun z => nomatch z) r_147v_s (allC c_147v_s_0 allN) (allC (.inl ⟨p_147v_9, r_147v_9, fun q0 => (allC c_147v_9_0 (allC c_147v_9_1 (allC c_147v_9_2 (allC c_147v_9_3 (allC c_147v_9_4 (allC c_147v_9_5 (allC c_147v_9_6 (allC c_147v_9_7 allN))))))))⟩) allN)
/- MixStage.fit (IIII)I -/
noncomputable def s_188v : vM := ([(3, 11, 7, 0), (0, -2147483648, 2147483647, 0), (0, -2147483648, 2147483647, 0), (0, -2147483648, 2147483647, 0), (0, -2147483648, 2147483647, 0)], (0, -2147483648, 2147483647, 0), 1, 0, [(9, 5), (9, 6), (9, 7)])
def preb_188v (a0 a1 a2 a3 a4 : Int) (h : gH) : Prop := FB h
def pre_188v : List Int → gH → Prop := fun xs h => match xs with
  | [a0, a1, a2, a3, a4] => preb_188v a0 a1 a2 a3 a4 h
  | _ => False
def postb_188v (r a0 a1 a2 a3 a4 : Int) (h0 h : gH) : Prop := (FTc h0 a1 a2 a3 ∧ r = fitR (ff (lkO h0 (hV h0 24 (a1).toNat) (hV h0 24 (a2).toNat) a3) 25 (9, hV h0 281 5, hV h0 281 6)) a4) ∨ (¬ FTc h0 a1 a2 a3 ∧ r = (if a4 = 1 then -100 else -1))
def post_188v : List Int → gH → gH → Prop := fun xs h0 h => match xs with
  | [r, a0, a1, a2, a3, a4] => postb_188v r a0 a1 a2 a3 a4 h0 h
  | _ => True
noncomputable def e_188v : vE := (188, s_188v, pre_188v, post_188v)
noncomputable def L_188v : List vE := [e_3v, e_147v]
def cs_188v : List vC := []
def A_188v : Int → List Int → gH → gH → Prop := fun c xs h0 h => True
def mu_188v : Int → List Int → gH → gH → Nat := fun c xs h0 h => 0
theorem q_188v_0 {n0 n1 n2 n3 n4 n5 n6 n7 n8 n9 n10 n11 n12 : Int} {H0 H1 H2 : gH} (f0 : n0 ≤ 2147483647) (f1 : (-2147483648) ≤ n0) (f2 : n1 ≤ 2147483647) (f3 : (-2147483648) ≤ n1) (f4 : n2 ≤ 2147483647) (f5 : (-2147483648) ≤ n2) (f6 : n3 ≤ 2147483647) (f7 : (-2147483648) ≤ n3) (f8 : n4 = 7) (f9 : hWt T0 H0 ∧ preb_188v n4 n3 n2 n1 n0 H0) (f10 : n5 = 23) (f11 : n5 = hV H0 (n4).toNat 7) (f12 : n6 = 2) (f13 : (hLe T0 H0 H1 ∧ hFr s_3v.2.2.2.2 H0 H1 ∧ ((0 : Int) = 0 → H1.length = H0.length) ∧ hWt T0 H1) ∧ postb_3v n7 n5 n3 n6 H0 H1) (f14 : n8 = 23) (f15 : n8 = hV H1 (n4).toNat 7) (f16 : n9 = 2) (f17 : (hLe T0 H1 H2 ∧ hFr s_3v.2.2.2.2 H1 H2 ∧ ((0 : Int) = 0 → H2.length = H1.length) ∧ hWt T0 H2) ∧ postb_3v n10 n8 n2 n9 H1 H2) (f18 : n7 = -1) (f19 : n11 = 1) (f20 : n0 ≠ n11) (f21 : n12 = (-1)) : postb_188v n12 n4 n3 n2 n1 n0 H0 H2 := by
  have pz := f9.2
  unfold preb_188v at pz
  have g0 := f13.2
  unfold postb_3v at g0
  rw [f12] at g0
  have g1 := f17.2
  unfold postb_3v at g1
  rw [f16] at g1
  have e23 : hV H1 23 1 = hV H0 23 1 := f13.1.2.1.1 23 1 kF_3v_23_1
  have e24 : hV H1 24 = hV H0 24 := fRow f13.1.2.1 24 kR_3v_24
  rw [e23, e24] at g1
  have kv1 : 0 ≤ hV H0 24 (n2).toNat → hK H1 (hV H0 24 (n2).toNat).toNat = 7 → KV H1 n2 = KV H0 n2 := fun z1 z2 => by
    unfold KV
    rw [e24]
    exact f13.1.2.1.2.2 _ 7 (kBack f13.1.1 (f13.1.2.2.1 rfl) z2 (by decide)) rfl 0 (by decide +kernel)
  unfold postb_188v
  refine .inr ⟨fun z => ?_, ?_⟩
  · unfold FTc at z
    rcases g1 with g1 | g1
    · have kk := kv1 (by omega) (by rw [← g1.2.2.2.1]; exact g1.2.2.2.2.2)
      omega
    · by_cases kz : hK H1 (hV H0 24 (n2).toNat).toNat = 7
      · have kk := kv1 (by omega) kz
        omega
      · exact kz (kLe f13.1.1 (pz (n2).toNat (by omega) (by omega)).1 rfl)
  · first
    | (rw [if_pos (by omega)] <;> omega)
    | (rw [if_neg (by omega)] <;> omega)
theorem c_188v_s_0 : vOkm T0 (eP e_188v L_188v A_188v mu_188v none) 5 ([(0, [12], [], -1), (41, [4, 11], [], 0), (0, [11], [], 1), (50, [7], [], 0), (1003, [10, 8, 2, 9], [1, 2], 0), (0, [9], [], 2), (20, [8, 0], [1], 7), (0, [8], [], 23), (1003, [7, 5, 1, 6], [0, 1], 0), (0, [6], [], 2), (20, [5, 0], [0], 7), (0, [5], [], 23), (6000, [0, 1, 2, 3, 4], [0], 0), (0, [0], [], 7), (90, [1], [], -2147483648), (91, [1], [], 2147483647), (90, [2], [], -2147483648), (91, [2], [], 2147483647), (90, [3], [], -2147483648), (91, [3], [], 2147483647), (90, [4], [], -2147483648), (91, [4], [], 2147483647)], (3000, [12], [2], 59)) := vOk_inI fun ρ η f0 f1 f2 f3 f4 f5 f6 f7 f8 f9 f10 f11 f12 f13 f14 f15 f16 f17 f18 f19 f20 f21 => q_188v_0 (n0 := ρ 4) (n1 := ρ 3) (n2 := ρ 2) (n3 := ρ 1) (n4 := ρ 0) (n5 := ρ 5) (n6 := ρ 6) (n7 := ρ 7) (n8 := ρ 8) (n9 := ρ 9) (n10 := ρ 10) (n11 := ρ 11) (n12 := ρ 12) (H0 := η 0) (H1 := η 1) (H2 := η 2) f21 f20 f19 f18 f17 f16 f15 f14 f13 f12 f11 f10 f9 f8 f7 f6 f5 f4 f3 f2 f1 f0
theorem q_188v_1 {n0 n1 n2 n3 n4 n5 n6 n7 n8 n9 n10 n11 n12 : Int} {H0 H1 H2 : gH} (f0 : n0 ≤ 2147483647) (f1 : (-2147483648) ≤ n0) (f2 : n1 ≤ 2147483647) (f3 : (-2147483648) ≤ n1) (f4 : n2 ≤ 2147483647) (f5 : (-2147483648) ≤ n2) (f6 : n3 ≤ 2147483647) (f7 : (-2147483648) ≤ n3) (f8 : n4 = 7) (f9 : hWt T0 H0 ∧ preb_188v n4 n3 n2 n1 n0 H0) (f10 : n5 = 23) (f11 : n5 = hV H0 (n4).toNat 7) (f12 : n6 = 2) (f13 : (hLe T0 H0 H1 ∧ hFr s_3v.2.2.2.2 H0 H1 ∧ ((0 : Int) = 0 → H1.length = H0.length) ∧ hWt T0 H1) ∧ postb_3v n7 n5 n3 n6 H0 H1) (f14 : n8 = 23) (f15 : n8 = hV H1 (n4).toNat 7) (f16 : n9 = 2) (f17 : (hLe T0 H1 H2 ∧ hFr s_3v.2.2.2.2 H1 H2 ∧ ((0 : Int) = 0 → H2.length = H1.length) ∧ hWt T0 H2) ∧ postb_3v n10 n8 n2 n9 H1 H2) (f18 : n7 = -1) (f19 : n11 = 1) (f20 : n0 = n11) (f21 : n12 = (-100)) : postb_188v n12 n4 n3 n2 n1 n0 H0 H2 := by
  have pz := f9.2
  unfold preb_188v at pz
  have g0 := f13.2
  unfold postb_3v at g0
  rw [f12] at g0
  have g1 := f17.2
  unfold postb_3v at g1
  rw [f16] at g1
  have e23 : hV H1 23 1 = hV H0 23 1 := f13.1.2.1.1 23 1 kF_3v_23_1
  have e24 : hV H1 24 = hV H0 24 := fRow f13.1.2.1 24 kR_3v_24
  rw [e23, e24] at g1
  have kv1 : 0 ≤ hV H0 24 (n2).toNat → hK H1 (hV H0 24 (n2).toNat).toNat = 7 → KV H1 n2 = KV H0 n2 := fun z1 z2 => by
    unfold KV
    rw [e24]
    exact f13.1.2.1.2.2 _ 7 (kBack f13.1.1 (f13.1.2.2.1 rfl) z2 (by decide)) rfl 0 (by decide +kernel)
  unfold postb_188v
  refine .inr ⟨fun z => ?_, ?_⟩
  · unfold FTc at z
    rcases g1 with g1 | g1
    · have kk := kv1 (by omega) (by rw [← g1.2.2.2.1]; exact g1.2.2.2.2.2)
      omega
    · by_cases kz : hK H1 (hV H0 24 (n2).toNat).toNat = 7
      · have kk := kv1 (by omega) kz
        omega
      · exact kz (kLe f13.1.1 (pz (n2).toNat (by omega) (by omega)).1 rfl)
  · first
    | (rw [if_pos (by omega)] <;> omega)
    | (rw [if_neg (by omega)] <;> omega)
theorem c_188v_s_1 : vOkm T0 (eP e_188v L_188v A_188v mu_188v none) 5 ([(0, [12], [], -100), (40, [4, 11], [], 0), (0, [11], [], 1), (50, [7], [], 0), (1003, [10, 8, 2, 9], [1, 2], 0), (0, [9], [], 2), (20, [8, 0], [1], 7), (0, [8], [], 23), (1003, [7, 5, 1, 6], [0, 1], 0), (0, [6], [], 2), (20, [5, 0], [0], 7), (0, [5], [], 23), (6000, [0, 1, 2, 3, 4], [0], 0), (0, [0], [], 7), (90, [1], [], -2147483648), (91, [1], [], 2147483647), (90, [2], [], -2147483648), (91, [2], [], 2147483647), (90, [3], [], -2147483648), (91, [3], [], 2147483647), (90, [4], [], -2147483648), (91, [4], [], 2147483647)], (3000, [12], [2], 59)) := vOk_inI fun ρ η f0 f1 f2 f3 f4 f5 f6 f7 f8 f9 f10 f11 f12 f13 f14 f15 f16 f17 f18 f19 f20 f21 => q_188v_1 (n0 := ρ 4) (n1 := ρ 3) (n2 := ρ 2) (n3 := ρ 1) (n4 := ρ 0) (n5 := ρ 5) (n6 := ρ 6) (n7 := ρ 7) (n8 := ρ 8) (n9 := ρ 9) (n10 := ρ 10) (n11 := ρ 11) (n12 := ρ 12) (H0 := η 0) (H1 := η 1) (H2 := η 2) f21 f20 f19 f18 f17 f16 f15 f14 f13 f12 f11 f10 f9 f8 f7 f6 f5 f4 f3 f2 f1 f0
theorem q_188v_2 {n0 n1 n2 n3 n4 n5 n6 n7 n8 n9 n10 n11 n12 : Int} {H0 H1 H2 : gH} (f0 : n0 ≤ 2147483647) (f1 : (-2147483648) ≤ n0) (f2 : n1 ≤ 2147483647) (f3 : (-2147483648) ≤ n1) (f4 : n2 ≤ 2147483647) (f5 : (-2147483648) ≤ n2) (f6 : n3 ≤ 2147483647) (f7 : (-2147483648) ≤ n3) (f8 : n4 = 7) (f9 : hWt T0 H0 ∧ preb_188v n4 n3 n2 n1 n0 H0) (f10 : n5 = 23) (f11 : n5 = hV H0 (n4).toNat 7) (f12 : n6 = 2) (f13 : (hLe T0 H0 H1 ∧ hFr s_3v.2.2.2.2 H0 H1 ∧ ((0 : Int) = 0 → H1.length = H0.length) ∧ hWt T0 H1) ∧ postb_3v n7 n5 n3 n6 H0 H1) (f14 : n8 = 23) (f15 : n8 = hV H1 (n4).toNat 7) (f16 : n9 = 2) (f17 : (hLe T0 H1 H2 ∧ hFr s_3v.2.2.2.2 H1 H2 ∧ ((0 : Int) = 0 → H2.length = H1.length) ∧ hWt T0 H2) ∧ postb_3v n10 n8 n2 n9 H1 H2) (f18 : 0 ≤ n7) (f19 : n10 = -1) (f20 : n11 = 1) (f21 : n0 ≠ n11) (f22 : n12 = (-1)) : postb_188v n12 n4 n3 n2 n1 n0 H0 H2 := by
  have pz := f9.2
  unfold preb_188v at pz
  have g0 := f13.2
  unfold postb_3v at g0
  rw [f12] at g0
  have g1 := f17.2
  unfold postb_3v at g1
  rw [f16] at g1
  have e23 : hV H1 23 1 = hV H0 23 1 := f13.1.2.1.1 23 1 kF_3v_23_1
  have e24 : hV H1 24 = hV H0 24 := fRow f13.1.2.1 24 kR_3v_24
  rw [e23, e24] at g1
  have kv1 : 0 ≤ hV H0 24 (n2).toNat → hK H1 (hV H0 24 (n2).toNat).toNat = 7 → KV H1 n2 = KV H0 n2 := fun z1 z2 => by
    unfold KV
    rw [e24]
    exact f13.1.2.1.2.2 _ 7 (kBack f13.1.1 (f13.1.2.2.1 rfl) z2 (by decide)) rfl 0 (by decide +kernel)
  unfold postb_188v
  refine .inr ⟨fun z => ?_, ?_⟩
  · unfold FTc at z
    rcases g1 with g1 | g1
    · have kk := kv1 (by omega) (by rw [← g1.2.2.2.1]; exact g1.2.2.2.2.2)
      omega
    · by_cases kz : hK H1 (hV H0 24 (n2).toNat).toNat = 7
      · have kk := kv1 (by omega) kz
        omega
      · exact kz (kLe f13.1.1 (pz (n2).toNat (by omega) (by omega)).1 rfl)
  · first
    | (rw [if_pos (by omega)] <;> omega)
    | (rw [if_neg (by omega)] <;> omega)
theorem c_188v_s_2 : vOkm T0 (eP e_188v L_188v A_188v mu_188v none) 5 ([(0, [12], [], -1), (41, [4, 11], [], 0), (0, [11], [], 1), (50, [10], [], 0), (51, [7], [], 0), (1003, [10, 8, 2, 9], [1, 2], 0), (0, [9], [], 2), (20, [8, 0], [1], 7), (0, [8], [], 23), (1003, [7, 5, 1, 6], [0, 1], 0), (0, [6], [], 2), (20, [5, 0], [0], 7), (0, [5], [], 23), (6000, [0, 1, 2, 3, 4], [0], 0), (0, [0], [], 7), (90, [1], [], -2147483648), (91, [1], [], 2147483647), (90, [2], [], -2147483648), (91, [2], [], 2147483647), (90, [3], [], -2147483648), (91, [3], [], 2147483647), (90, [4], [], -2147483648), (91, [4], [], 2147483647)], (3000, [12], [2], 59)) := vOk_inI fun ρ η f0 f1 f2 f3 f4 f5 f6 f7 f8 f9 f10 f11 f12 f13 f14 f15 f16 f17 f18 f19 f20 f21 f22 => q_188v_2 (n0 := ρ 4) (n1 := ρ 3) (n2 := ρ 2) (n3 := ρ 1) (n4 := ρ 0) (n5 := ρ 5) (n6 := ρ 6) (n7 := ρ 7) (n8 := ρ 8) (n9 := ρ 9) (n10 := ρ 10) (n11 := ρ 11) (n12 := ρ 12) (H0 := η 0) (H1 := η 1) (H2 := η 2) f22 f21 f20 f19 f18 f17 f16 f15 f14 f13 f12 f11 f10 f9 f8 f7 f6 f5 f4 f3 f2 f1 f0
theorem q_188v_3 {n0 n1 n2 n3 n4 n5 n6 n7 n8 n9 n10 n11 n12 : Int} {H0 H1 H2 : gH} (f0 : n0 ≤ 2147483647) (f1 : (-2147483648) ≤ n0) (f2 : n1 ≤ 2147483647) (f3 : (-2147483648) ≤ n1) (f4 : n2 ≤ 2147483647) (f5 : (-2147483648) ≤ n2) (f6 : n3 ≤ 2147483647) (f7 : (-2147483648) ≤ n3) (f8 : n4 = 7) (f9 : hWt T0 H0 ∧ preb_188v n4 n3 n2 n1 n0 H0) (f10 : n5 = 23) (f11 : n5 = hV H0 (n4).toNat 7) (f12 : n6 = 2) (f13 : (hLe T0 H0 H1 ∧ hFr s_3v.2.2.2.2 H0 H1 ∧ ((0 : Int) = 0 → H1.length = H0.length) ∧ hWt T0 H1) ∧ postb_3v n7 n5 n3 n6 H0 H1) (f14 : n8 = 23) (f15 : n8 = hV H1 (n4).toNat 7) (f16 : n9 = 2) (f17 : (hLe T0 H1 H2 ∧ hFr s_3v.2.2.2.2 H1 H2 ∧ ((0 : Int) = 0 → H2.length = H1.length) ∧ hWt T0 H2) ∧ postb_3v n10 n8 n2 n9 H1 H2) (f18 : 0 ≤ n7) (f19 : n10 = -1) (f20 : n11 = 1) (f21 : n0 = n11) (f22 : n12 = (-100)) : postb_188v n12 n4 n3 n2 n1 n0 H0 H2 := by
  have pz := f9.2
  unfold preb_188v at pz
  have g0 := f13.2
  unfold postb_3v at g0
  rw [f12] at g0
  have g1 := f17.2
  unfold postb_3v at g1
  rw [f16] at g1
  have e23 : hV H1 23 1 = hV H0 23 1 := f13.1.2.1.1 23 1 kF_3v_23_1
  have e24 : hV H1 24 = hV H0 24 := fRow f13.1.2.1 24 kR_3v_24
  rw [e23, e24] at g1
  have kv1 : 0 ≤ hV H0 24 (n2).toNat → hK H1 (hV H0 24 (n2).toNat).toNat = 7 → KV H1 n2 = KV H0 n2 := fun z1 z2 => by
    unfold KV
    rw [e24]
    exact f13.1.2.1.2.2 _ 7 (kBack f13.1.1 (f13.1.2.2.1 rfl) z2 (by decide)) rfl 0 (by decide +kernel)
  unfold postb_188v
  refine .inr ⟨fun z => ?_, ?_⟩
  · unfold FTc at z
    rcases g1 with g1 | g1
    · have kk := kv1 (by omega) (by rw [← g1.2.2.2.1]; exact g1.2.2.2.2.2)
      omega
    · by_cases kz : hK H1 (hV H0 24 (n2).toNat).toNat = 7
      · have kk := kv1 (by omega) kz
        omega
      · exact kz (kLe f13.1.1 (pz (n2).toNat (by omega) (by omega)).1 rfl)
  · first
    | (rw [if_pos (by omega)] <;> omega)
    | (rw [if_neg (by omega)] <;> omega)
theorem c_188v_s_3 : vOkm T0 (eP e_188v L_188v A_188v mu_188v none) 5 ([(0, [12], [], -100), (40, [4, 11], [], 0), (0, [11], [], 1), (50, [10], [], 0), (51, [7], [], 0), (1003, [10, 8, 2, 9], [1, 2], 0), (0, [9], [], 2), (20, [8, 0], [1], 7), (0, [8], [], 23), (1003, [7, 5, 1, 6], [0, 1], 0), (0, [6], [], 2), (20, [5, 0], [0], 7), (0, [5], [], 23), (6000, [0, 1, 2, 3, 4], [0], 0), (0, [0], [], 7), (90, [1], [], -2147483648), (91, [1], [], 2147483647), (90, [2], [], -2147483648), (91, [2], [], 2147483647), (90, [3], [], -2147483648), (91, [3], [], 2147483647), (90, [4], [], -2147483648), (91, [4], [], 2147483647)], (3000, [12], [2], 59)) := vOk_inI fun ρ η f0 f1 f2 f3 f4 f5 f6 f7 f8 f9 f10 f11 f12 f13 f14 f15 f16 f17 f18 f19 f20 f21 f22 => q_188v_3 (n0 := ρ 4) (n1 := ρ 3) (n2 := ρ 2) (n3 := ρ 1) (n4 := ρ 0) (n5 := ρ 5) (n6 := ρ 6) (n7 := ρ 7) (n8 := ρ 8) (n9 := ρ 9) (n10 := ρ 10) (n11 := ρ 11) (n12 := ρ 12) (H0 := η 0) (H1 := η 1) (H2 := η 2) f22 f21 f20 f19 f18 f17 f16 f15 f14 f13 f12 f11 f10 f9 f8 f7 f6 f5 f4 f3 f2 f1 f0
theorem q_188v_4 {n0 n1 n2 n3 n4 n5 n6 n7 n8 n9 n10 n11 n12 : Int} {H0 H1 H2 : gH} (f0 : n0 ≤ 2147483647) (f1 : (-2147483648) ≤ n0) (f2 : n1 ≤ 2147483647) (f3 : (-2147483648) ≤ n1) (f4 : n2 ≤ 2147483647) (f5 : (-2147483648) ≤ n2) (f6 : n3 ≤ 2147483647) (f7 : (-2147483648) ≤ n3) (f8 : n4 = 7) (f9 : hWt T0 H0 ∧ preb_188v n4 n3 n2 n1 n0 H0) (f10 : n5 = 23) (f11 : n5 = hV H0 (n4).toNat 7) (f12 : n6 = 2) (f13 : (hLe T0 H0 H1 ∧ hFr s_3v.2.2.2.2 H0 H1 ∧ ((0 : Int) = 0 → H1.length = H0.length) ∧ hWt T0 H1) ∧ postb_3v n7 n5 n3 n6 H0 H1) (f14 : n8 = 23) (f15 : n8 = hV H1 (n4).toNat 7) (f16 : n9 = 2) (f17 : (hLe T0 H1 H2 ∧ hFr s_3v.2.2.2.2 H1 H2 ∧ ((0 : Int) = 0 → H2.length = H1.length) ∧ hWt T0 H2) ∧ postb_3v n10 n8 n2 n9 H1 H2) (f18 : 0 ≤ n7) (f19 : 0 ≤ n10) (f20 : n3 = n2) (f21 : n11 = 1) (f22 : n0 ≠ n11) (f23 : n12 = (-1)) : postb_188v n12 n4 n3 n2 n1 n0 H0 H2 := by
  have pz := f9.2
  unfold preb_188v at pz
  have g0 := f13.2
  unfold postb_3v at g0
  rw [f12] at g0
  have g1 := f17.2
  unfold postb_3v at g1
  rw [f16] at g1
  have e23 : hV H1 23 1 = hV H0 23 1 := f13.1.2.1.1 23 1 kF_3v_23_1
  have e24 : hV H1 24 = hV H0 24 := fRow f13.1.2.1 24 kR_3v_24
  rw [e23, e24] at g1
  have kv1 : 0 ≤ hV H0 24 (n2).toNat → hK H1 (hV H0 24 (n2).toNat).toNat = 7 → KV H1 n2 = KV H0 n2 := fun z1 z2 => by
    unfold KV
    rw [e24]
    exact f13.1.2.1.2.2 _ 7 (kBack f13.1.1 (f13.1.2.2.1 rfl) z2 (by decide)) rfl 0 (by decide +kernel)
  unfold postb_188v
  refine .inr ⟨fun z => ?_, ?_⟩
  · unfold FTc at z
    rcases g1 with g1 | g1
    · have kk := kv1 (by omega) (by rw [← g1.2.2.2.1]; exact g1.2.2.2.2.2)
      omega
    · by_cases kz : hK H1 (hV H0 24 (n2).toNat).toNat = 7
      · have kk := kv1 (by omega) kz
        omega
      · exact kz (kLe f13.1.1 (pz (n2).toNat (by omega) (by omega)).1 rfl)
  · first
    | (rw [if_pos (by omega)] <;> omega)
    | (rw [if_neg (by omega)] <;> omega)
theorem c_188v_s_4 : vOkm T0 (eP e_188v L_188v A_188v mu_188v none) 5 ([(0, [12], [], -1), (41, [4, 11], [], 0), (0, [11], [], 1), (40, [1, 2], [], 0), (51, [10], [], 0), (51, [7], [], 0), (1003, [10, 8, 2, 9], [1, 2], 0), (0, [9], [], 2), (20, [8, 0], [1], 7), (0, [8], [], 23), (1003, [7, 5, 1, 6], [0, 1], 0), (0, [6], [], 2), (20, [5, 0], [0], 7), (0, [5], [], 23), (6000, [0, 1, 2, 3, 4], [0], 0), (0, [0], [], 7), (90, [1], [], -2147483648), (91, [1], [], 2147483647), (90, [2], [], -2147483648), (91, [2], [], 2147483647), (90, [3], [], -2147483648), (91, [3], [], 2147483647), (90, [4], [], -2147483648), (91, [4], [], 2147483647)], (3000, [12], [2], 59)) := vOk_inI fun ρ η f0 f1 f2 f3 f4 f5 f6 f7 f8 f9 f10 f11 f12 f13 f14 f15 f16 f17 f18 f19 f20 f21 f22 f23 => q_188v_4 (n0 := ρ 4) (n1 := ρ 3) (n2 := ρ 2) (n3 := ρ 1) (n4 := ρ 0) (n5 := ρ 5) (n6 := ρ 6) (n7 := ρ 7) (n8 := ρ 8) (n9 := ρ 9) (n10 := ρ 10) (n11 := ρ 11) (n12 := ρ 12) (H0 := η 0) (H1 := η 1) (H2 := η 2) f23 f22 f21 f20 f19 f18 f17 f16 f15 f14 f13 f12 f11 f10 f9 f8 f7 f6 f5 f4 f3 f2 f1 f0
theorem q_188v_5 {n0 n1 n2 n3 n4 n5 n6 n7 n8 n9 n10 n11 n12 : Int} {H0 H1 H2 : gH} (f0 : n0 ≤ 2147483647) (f1 : (-2147483648) ≤ n0) (f2 : n1 ≤ 2147483647) (f3 : (-2147483648) ≤ n1) (f4 : n2 ≤ 2147483647) (f5 : (-2147483648) ≤ n2) (f6 : n3 ≤ 2147483647) (f7 : (-2147483648) ≤ n3) (f8 : n4 = 7) (f9 : hWt T0 H0 ∧ preb_188v n4 n3 n2 n1 n0 H0) (f10 : n5 = 23) (f11 : n5 = hV H0 (n4).toNat 7) (f12 : n6 = 2) (f13 : (hLe T0 H0 H1 ∧ hFr s_3v.2.2.2.2 H0 H1 ∧ ((0 : Int) = 0 → H1.length = H0.length) ∧ hWt T0 H1) ∧ postb_3v n7 n5 n3 n6 H0 H1) (f14 : n8 = 23) (f15 : n8 = hV H1 (n4).toNat 7) (f16 : n9 = 2) (f17 : (hLe T0 H1 H2 ∧ hFr s_3v.2.2.2.2 H1 H2 ∧ ((0 : Int) = 0 → H2.length = H1.length) ∧ hWt T0 H2) ∧ postb_3v n10 n8 n2 n9 H1 H2) (f18 : 0 ≤ n7) (f19 : 0 ≤ n10) (f20 : n3 = n2) (f21 : n11 = 1) (f22 : n0 = n11) (f23 : n12 = (-100)) : postb_188v n12 n4 n3 n2 n1 n0 H0 H2 := by
  have pz := f9.2
  unfold preb_188v at pz
  have g0 := f13.2
  unfold postb_3v at g0
  rw [f12] at g0
  have g1 := f17.2
  unfold postb_3v at g1
  rw [f16] at g1
  have e23 : hV H1 23 1 = hV H0 23 1 := f13.1.2.1.1 23 1 kF_3v_23_1
  have e24 : hV H1 24 = hV H0 24 := fRow f13.1.2.1 24 kR_3v_24
  rw [e23, e24] at g1
  have kv1 : 0 ≤ hV H0 24 (n2).toNat → hK H1 (hV H0 24 (n2).toNat).toNat = 7 → KV H1 n2 = KV H0 n2 := fun z1 z2 => by
    unfold KV
    rw [e24]
    exact f13.1.2.1.2.2 _ 7 (kBack f13.1.1 (f13.1.2.2.1 rfl) z2 (by decide)) rfl 0 (by decide +kernel)
  unfold postb_188v
  refine .inr ⟨fun z => ?_, ?_⟩
  · unfold FTc at z
    rcases g1 with g1 | g1
    · have kk := kv1 (by omega) (by rw [← g1.2.2.2.1]; exact g1.2.2.2.2.2)
      omega
    · by_cases kz : hK H1 (hV H0 24 (n2).toNat).toNat = 7
      · have kk := kv1 (by omega) kz
        omega
      · exact kz (kLe f13.1.1 (pz (n2).toNat (by omega) (by omega)).1 rfl)
  · first
    | (rw [if_pos (by omega)] <;> omega)
    | (rw [if_neg (by omega)] <;> omega)
theorem c_188v_s_5 : vOkm T0 (eP e_188v L_188v A_188v mu_188v none) 5 ([(0, [12], [], -100), (40, [4, 11], [], 0), (0, [11], [], 1), (40, [1, 2], [], 0), (51, [10], [], 0), (51, [7], [], 0), (1003, [10, 8, 2, 9], [1, 2], 0), (0, [9], [], 2), (20, [8, 0], [1], 7), (0, [8], [], 23), (1003, [7, 5, 1, 6], [0, 1], 0), (0, [6], [], 2), (20, [5, 0], [0], 7), (0, [5], [], 23), (6000, [0, 1, 2, 3, 4], [0], 0), (0, [0], [], 7), (90, [1], [], -2147483648), (91, [1], [], 2147483647), (90, [2], [], -2147483648), (91, [2], [], 2147483647), (90, [3], [], -2147483648), (91, [3], [], 2147483647), (90, [4], [], -2147483648), (91, [4], [], 2147483647)], (3000, [12], [2], 59)) := vOk_inI fun ρ η f0 f1 f2 f3 f4 f5 f6 f7 f8 f9 f10 f11 f12 f13 f14 f15 f16 f17 f18 f19 f20 f21 f22 f23 => q_188v_5 (n0 := ρ 4) (n1 := ρ 3) (n2 := ρ 2) (n3 := ρ 1) (n4 := ρ 0) (n5 := ρ 5) (n6 := ρ 6) (n7 := ρ 7) (n8 := ρ 8) (n9 := ρ 9) (n10 := ρ 10) (n11 := ρ 11) (n12 := ρ 12) (H0 := η 0) (H1 := η 1) (H2 := η 2) f23 f22 f21 f20 f19 f18 f17 f16 f15 f14 f13 f12 f11 f10 f9 f8 f7 f6 f5 f4 f3 f2 f1 f0
theorem q_188v_6 {n0 n1 n2 n3 n4 n5 n6 n7 n8 n9 n10 n11 n12 : Int} {H0 H1 H2 : gH} (f0 : n0 ≤ 2147483647) (f1 : (-2147483648) ≤ n0) (f2 : n1 ≤ 2147483647) (f3 : (-2147483648) ≤ n1) (f4 : n2 ≤ 2147483647) (f5 : (-2147483648) ≤ n2) (f6 : n3 ≤ 2147483647) (f7 : (-2147483648) ≤ n3) (f8 : n4 = 7) (f9 : hWt T0 H0 ∧ preb_188v n4 n3 n2 n1 n0 H0) (f10 : n5 = 23) (f11 : n5 = hV H0 (n4).toNat 7) (f12 : n6 = 2) (f13 : (hLe T0 H0 H1 ∧ hFr s_3v.2.2.2.2 H0 H1 ∧ ((0 : Int) = 0 → H1.length = H0.length) ∧ hWt T0 H1) ∧ postb_3v n7 n5 n3 n6 H0 H1) (f14 : n8 = 23) (f15 : n8 = hV H1 (n4).toNat 7) (f16 : n9 = 2) (f17 : (hLe T0 H1 H2 ∧ hFr s_3v.2.2.2.2 H1 H2 ∧ ((0 : Int) = 0 → H2.length = H1.length) ∧ hWt T0 H2) ∧ postb_3v n10 n8 n2 n9 H1 H2) (f18 : 0 ≤ n7) (f19 : 0 ≤ n10) (f20 : n3 ≠ n2) (f21 : n1 < 0) (f22 : n11 = 1) (f23 : n0 ≠ n11) (f24 : n12 = (-1)) : postb_188v n12 n4 n3 n2 n1 n0 H0 H2 := by
  have pz := f9.2
  unfold preb_188v at pz
  have g0 := f13.2
  unfold postb_3v at g0
  rw [f12] at g0
  have g1 := f17.2
  unfold postb_3v at g1
  rw [f16] at g1
  have e23 : hV H1 23 1 = hV H0 23 1 := f13.1.2.1.1 23 1 kF_3v_23_1
  have e24 : hV H1 24 = hV H0 24 := fRow f13.1.2.1 24 kR_3v_24
  rw [e23, e24] at g1
  have kv1 : 0 ≤ hV H0 24 (n2).toNat → hK H1 (hV H0 24 (n2).toNat).toNat = 7 → KV H1 n2 = KV H0 n2 := fun z1 z2 => by
    unfold KV
    rw [e24]
    exact f13.1.2.1.2.2 _ 7 (kBack f13.1.1 (f13.1.2.2.1 rfl) z2 (by decide)) rfl 0 (by decide +kernel)
  unfold postb_188v
  refine .inr ⟨fun z => ?_, ?_⟩
  · unfold FTc at z
    rcases g1 with g1 | g1
    · have kk := kv1 (by omega) (by rw [← g1.2.2.2.1]; exact g1.2.2.2.2.2)
      omega
    · by_cases kz : hK H1 (hV H0 24 (n2).toNat).toNat = 7
      · have kk := kv1 (by omega) kz
        omega
      · exact kz (kLe f13.1.1 (pz (n2).toNat (by omega) (by omega)).1 rfl)
  · first
    | (rw [if_pos (by omega)] <;> omega)
    | (rw [if_neg (by omega)] <;> omega)
theorem c_188v_s_6 : vOkm T0 (eP e_188v L_188v A_188v mu_188v none) 5 ([(0, [12], [], -1), (41, [4, 11], [], 0), (0, [11], [], 1), (32, [3], [], 0), (41, [1, 2], [], 0), (51, [10], [], 0), (51, [7], [], 0), (1003, [10, 8, 2, 9], [1, 2], 0), (0, [9], [], 2), (20, [8, 0], [1], 7), (0, [8], [], 23), (1003, [7, 5, 1, 6], [0, 1], 0), (0, [6], [], 2), (20, [5, 0], [0], 7), (0, [5], [], 23), (6000, [0, 1, 2, 3, 4], [0], 0), (0, [0], [], 7), (90, [1], [], -2147483648), (91, [1], [], 2147483647), (90, [2], [], -2147483648), (91, [2], [], 2147483647), (90, [3], [], -2147483648), (91, [3], [], 2147483647), (90, [4], [], -2147483648), (91, [4], [], 2147483647)], (3000, [12], [2], 59)) := vOk_inI fun ρ η f0 f1 f2 f3 f4 f5 f6 f7 f8 f9 f10 f11 f12 f13 f14 f15 f16 f17 f18 f19 f20 f21 f22 f23 f24 => q_188v_6 (n0 := ρ 4) (n1 := ρ 3) (n2 := ρ 2) (n3 := ρ 1) (n4 := ρ 0) (n5 := ρ 5) (n6 := ρ 6) (n7 := ρ 7) (n8 := ρ 8) (n9 := ρ 9) (n10 := ρ 10) (n11 := ρ 11) (n12 := ρ 12) (H0 := η 0) (H1 := η 1) (H2 := η 2) f24 f23 f22 f21 f20 f19 f18 f17 f16 f15 f14 f13 f12 f11 f10 f9 f8 f7 f6 f5 f4 f3 f2 f1 f0
theorem q_188v_7 {n0 n1 n2 n3 n4 n5 n6 n7 n8 n9 n10 n11 n12 : Int} {H0 H1 H2 : gH} (f0 : n0 ≤ 2147483647) (f1 : (-2147483648) ≤ n0) (f2 : n1 ≤ 2147483647) (f3 : (-2147483648) ≤ n1) (f4 : n2 ≤ 2147483647) (f5 : (-2147483648) ≤ n2) (f6 : n3 ≤ 2147483647) (f7 : (-2147483648) ≤ n3) (f8 : n4 = 7) (f9 : hWt T0 H0 ∧ preb_188v n4 n3 n2 n1 n0 H0) (f10 : n5 = 23) (f11 : n5 = hV H0 (n4).toNat 7) (f12 : n6 = 2) (f13 : (hLe T0 H0 H1 ∧ hFr s_3v.2.2.2.2 H0 H1 ∧ ((0 : Int) = 0 → H1.length = H0.length) ∧ hWt T0 H1) ∧ postb_3v n7 n5 n3 n6 H0 H1) (f14 : n8 = 23) (f15 : n8 = hV H1 (n4).toNat 7) (f16 : n9 = 2) (f17 : (hLe T0 H1 H2 ∧ hFr s_3v.2.2.2.2 H1 H2 ∧ ((0 : Int) = 0 → H2.length = H1.length) ∧ hWt T0 H2) ∧ postb_3v n10 n8 n2 n9 H1 H2) (f18 : 0 ≤ n7) (f19 : 0 ≤ n10) (f20 : n3 ≠ n2) (f21 : n1 < 0) (f22 : n11 = 1) (f23 : n0 = n11) (f24 : n12 = (-100)) : postb_188v n12 n4 n3 n2 n1 n0 H0 H2 := by
  have pz := f9.2
  unfold preb_188v at pz
  have g0 := f13.2
  unfold postb_3v at g0
  rw [f12] at g0
  have g1 := f17.2
  unfold postb_3v at g1
  rw [f16] at g1
  have e23 : hV H1 23 1 = hV H0 23 1 := f13.1.2.1.1 23 1 kF_3v_23_1
  have e24 : hV H1 24 = hV H0 24 := fRow f13.1.2.1 24 kR_3v_24
  rw [e23, e24] at g1
  have kv1 : 0 ≤ hV H0 24 (n2).toNat → hK H1 (hV H0 24 (n2).toNat).toNat = 7 → KV H1 n2 = KV H0 n2 := fun z1 z2 => by
    unfold KV
    rw [e24]
    exact f13.1.2.1.2.2 _ 7 (kBack f13.1.1 (f13.1.2.2.1 rfl) z2 (by decide)) rfl 0 (by decide +kernel)
  unfold postb_188v
  refine .inr ⟨fun z => ?_, ?_⟩
  · unfold FTc at z
    rcases g1 with g1 | g1
    · have kk := kv1 (by omega) (by rw [← g1.2.2.2.1]; exact g1.2.2.2.2.2)
      omega
    · by_cases kz : hK H1 (hV H0 24 (n2).toNat).toNat = 7
      · have kk := kv1 (by omega) kz
        omega
      · exact kz (kLe f13.1.1 (pz (n2).toNat (by omega) (by omega)).1 rfl)
  · first
    | (rw [if_pos (by omega)] <;> omega)
    | (rw [if_neg (by omega)] <;> omega)
theorem c_188v_s_7 : vOkm T0 (eP e_188v L_188v A_188v mu_188v none) 5 ([(0, [12], [], -100), (40, [4, 11], [], 0), (0, [11], [], 1), (32, [3], [], 0), (41, [1, 2], [], 0), (51, [10], [], 0), (51, [7], [], 0), (1003, [10, 8, 2, 9], [1, 2], 0), (0, [9], [], 2), (20, [8, 0], [1], 7), (0, [8], [], 23), (1003, [7, 5, 1, 6], [0, 1], 0), (0, [6], [], 2), (20, [5, 0], [0], 7), (0, [5], [], 23), (6000, [0, 1, 2, 3, 4], [0], 0), (0, [0], [], 7), (90, [1], [], -2147483648), (91, [1], [], 2147483647), (90, [2], [], -2147483648), (91, [2], [], 2147483647), (90, [3], [], -2147483648), (91, [3], [], 2147483647), (90, [4], [], -2147483648), (91, [4], [], 2147483647)], (3000, [12], [2], 59)) := vOk_inI fun ρ η f0 f1 f2 f3 f4 f5 f6 f7 f8 f9 f10 f11 f12 f13 f14 f15 f16 f17 f18 f19 f20 f21 f22 f23 f24 => q_188v_7 (n0 := ρ 4) (n1 := ρ 3) (n2 := ρ 2) (n3 := ρ 1) (n4 := ρ 0) (n5 := ρ 5) (n6 := ρ 6) (n7 := ρ 7) (n8 := ρ 8) (n9 := ρ 9) (n10 := ρ 10) (n11 := ρ 11) (n12 := ρ 12) (H0 := η 0) (H1 := η 1) (H2 := η 2) f24 f23 f22 f21 f20 f19 f18 f17 f16 f15 f14 f13 f12 f11 f10 f9 f8 f7 f6 f5 f4 f3 f2 f1 f0
theorem q_188v_8 {n0 n1 n2 n3 n4 n5 n6 n7 n8 n9 n10 n11 n12 : Int} {H0 H1 H2 : gH} (f0 : n0 ≤ 2147483647) (f1 : (-2147483648) ≤ n0) (f2 : n1 ≤ 2147483647) (f3 : (-2147483648) ≤ n1) (f4 : n2 ≤ 2147483647) (f5 : (-2147483648) ≤ n2) (f6 : n3 ≤ 2147483647) (f7 : (-2147483648) ≤ n3) (f8 : n4 = 7) (f9 : hWt T0 H0 ∧ preb_188v n4 n3 n2 n1 n0 H0) (f10 : n5 = 23) (f11 : n5 = hV H0 (n4).toNat 7) (f12 : n6 = 2) (f13 : (hLe T0 H0 H1 ∧ hFr s_3v.2.2.2.2 H0 H1 ∧ ((0 : Int) = 0 → H1.length = H0.length) ∧ hWt T0 H1) ∧ postb_3v n7 n5 n3 n6 H0 H1) (f14 : n8 = 23) (f15 : n8 = hV H1 (n4).toNat 7) (f16 : n9 = 2) (f17 : (hLe T0 H1 H2 ∧ hFr s_3v.2.2.2.2 H1 H2 ∧ ((0 : Int) = 0 → H2.length = H1.length) ∧ hWt T0 H2) ∧ postb_3v n10 n8 n2 n9 H1 H2) (f18 : 0 ≤ n7) (f19 : 0 ≤ n10) (f20 : n3 ≠ n2) (f21 : 0 ≤ n1) (f22 : n11 = 9) (f23 : n1 ≤ n11) (f24 : n12 = 281) (f25 : n12 = hV H2 (n4).toNat 10) : preb_147v n12 n7 n10 n1 n0 H2 := by
  have pz := f9.2
  unfold preb_188v at pz
  have g0 := f13.2
  unfold postb_3v at g0
  rw [f12] at g0
  have g1 := f17.2
  unfold postb_3v at g1
  rw [f16] at g1
  have e23 : hV H1 23 1 = hV H0 23 1 := f13.1.2.1.1 23 1 kF_3v_23_1
  have e24 : hV H1 24 = hV H0 24 := fRow f13.1.2.1 24 kR_3v_24
  rw [e23, e24] at g1
  have kv1 : 0 ≤ hV H0 24 (n2).toNat → hK H1 (hV H0 24 (n2).toNat).toNat = 7 → KV H1 n2 = KV H0 n2 := fun z1 z2 => by
    unfold KV
    rw [e24]
    exact f13.1.2.1.2.2 _ 7 (kBack f13.1.1 (f13.1.2.2.1 rfl) z2 (by decide)) rfl 0 (by decide +kernel)
  have z1 := pz (n3).toNat (by omega)
  have z2 := pz (n2).toNat (by omega)
  have w1 := z1 (by omega)
  have w2 := z2 (by omega)
  have w1b := MBo_fr f13.1.1 f13.1.2.1 (by decide +kernel) w1
  have w1c := MBo_fr f17.1.1 f17.1.2.1 (by decide +kernel) w1b
  have w2b := MBo_fr f13.1.1 f13.1.2.1 (by decide +kernel) w2
  have w2c := MBo_fr f17.1.1 f17.1.2.1 (by decide +kernel) w2b
  unfold preb_147v
  rw [show n7 = hV H0 24 (n3).toNat by omega, show n10 = hV H0 24 (n2).toNat by omega]
  exact ⟨by omega, by omega, w1c, w2c⟩
theorem c_188v_s_8 : vOkm T0 (eP e_188v L_188v A_188v mu_188v none) 5 ([(20, [12, 0], [2], 10), (0, [12], [], 281), (45, [3, 11], [], 0), (0, [11], [], 9), (33, [3], [], 0), (41, [1, 2], [], 0), (51, [10], [], 0), (51, [7], [], 0), (1003, [10, 8, 2, 9], [1, 2], 0), (0, [9], [], 2), (20, [8, 0], [1], 7), (0, [8], [], 23), (1003, [7, 5, 1, 6], [0, 1], 0), (0, [6], [], 2), (20, [5, 0], [0], 7), (0, [5], [], 23), (6000, [0, 1, 2, 3, 4], [0], 0), (0, [0], [], 7), (90, [1], [], -2147483648), (91, [1], [], 2147483647), (90, [2], [], -2147483648), (91, [2], [], 2147483647), (90, [3], [], -2147483648), (91, [3], [], 2147483647), (90, [4], [], -2147483648), (91, [4], [], 2147483647)], (2147, [12, 7, 10, 3, 4], [2], 0)) := vOk_inI fun ρ η f0 f1 f2 f3 f4 f5 f6 f7 f8 f9 f10 f11 f12 f13 f14 f15 f16 f17 f18 f19 f20 f21 f22 f23 f24 f25 => q_188v_8 (n0 := ρ 4) (n1 := ρ 3) (n2 := ρ 2) (n3 := ρ 1) (n4 := ρ 0) (n5 := ρ 5) (n6 := ρ 6) (n7 := ρ 7) (n8 := ρ 8) (n9 := ρ 9) (n10 := ρ 10) (n11 := ρ 11) (n12 := ρ 12) (H0 := η 0) (H1 := η 1) (H2 := η 2) f25 f24 f23 f22 f21 f20 f19 f18 f17 f16 f15 f14 f13 f12 f11 f10 f9 f8 f7 f6 f5 f4 f3 f2 f1 f0
theorem kF_3v_281_5 : vFree s_3v.2.2.2.2 281 5 = true := by decide +kernel
theorem kF_3v_281_6 : vFree s_3v.2.2.2.2 281 6 = true := by decide +kernel
theorem q_188v_9 {n0 n1 n2 n3 n4 n5 n6 n7 n8 n9 n10 n11 n12 n13 : Int} {H0 H1 H2 H3 : gH} (f0 : n0 ≤ 2147483647) (f1 : (-2147483648) ≤ n0) (f2 : n1 ≤ 2147483647) (f3 : (-2147483648) ≤ n1) (f4 : n2 ≤ 2147483647) (f5 : (-2147483648) ≤ n2) (f6 : n3 ≤ 2147483647) (f7 : (-2147483648) ≤ n3) (f8 : n4 = 7) (f9 : hWt T0 H0 ∧ preb_188v n4 n3 n2 n1 n0 H0) (f10 : n5 = 23) (f11 : n5 = hV H0 (n4).toNat 7) (f12 : n6 = 2) (f13 : (hLe T0 H0 H1 ∧ hFr s_3v.2.2.2.2 H0 H1 ∧ ((0 : Int) = 0 → H1.length = H0.length) ∧ hWt T0 H1) ∧ postb_3v n7 n5 n3 n6 H0 H1) (f14 : n8 = 23) (f15 : n8 = hV H1 (n4).toNat 7) (f16 : n9 = 2) (f17 : (hLe T0 H1 H2 ∧ hFr s_3v.2.2.2.2 H1 H2 ∧ ((0 : Int) = 0 → H2.length = H1.length) ∧ hWt T0 H2) ∧ postb_3v n10 n8 n2 n9 H1 H2) (f18 : 0 ≤ n7) (f19 : 0 ≤ n10) (f20 : n3 ≠ n2) (f21 : 0 ≤ n1) (f22 : n11 = 9) (f23 : n1 ≤ n11) (f24 : n12 = 281) (f25 : n12 = hV H2 (n4).toNat 10) (f26 : n13 ≤ 2147483647) (f27 : (-2147483648) ≤ n13) (f28 : (hLe T0 H2 H3 ∧ hFr s_147v.2.2.2.2 H2 H3 ∧ ((0 : Int) = 0 → H3.length = H2.length) ∧ hWt T0 H3) ∧ postb_147v n13 n12 n7 n10 n1 n0 H2 H3) : postb_188v n13 n4 n3 n2 n1 n0 H0 H3 := by
  have pz := f9.2
  unfold preb_188v at pz
  have g0 := f13.2
  unfold postb_3v at g0
  rw [f12] at g0
  have g1 := f17.2
  unfold postb_3v at g1
  rw [f16] at g1
  have e23 : hV H1 23 1 = hV H0 23 1 := f13.1.2.1.1 23 1 kF_3v_23_1
  have e24 : hV H1 24 = hV H0 24 := fRow f13.1.2.1 24 kR_3v_24
  rw [e23, e24] at g1
  have kv1 : 0 ≤ hV H0 24 (n2).toNat → hK H1 (hV H0 24 (n2).toNat).toNat = 7 → KV H1 n2 = KV H0 n2 := fun z1 z2 => by
    unfold KV
    rw [e24]
    exact f13.1.2.1.2.2 _ 7 (kBack f13.1.1 (f13.1.2.2.1 rfl) z2 (by decide)) rfl 0 (by decide +kernel)
  rcases g0 with g0 | g0 <;> rcases g1 with g1 | g1 <;> first | omega | skip
  have kk := kv1 (by omega) (by rw [← g1.2.2.2.1]; exact g1.2.2.2.2.2)
  have w1 := pz (n3).toNat (by omega) (by omega)
  have w2 := pz (n2).toNat (by omega) (by omega)
  have w1b := MBo_fr f13.1.1 f13.1.2.1 (by decide +kernel) w1
  have w2b := MBo_fr f13.1.1 f13.1.2.1 (by decide +kernel) w2
  have la := lkO_fr (sl := n1) f13.1.1 f13.1.2.1 (by decide +kernel) w1 w2
  have lb := lkO_fr (sl := n1) f17.1.1 f17.1.2.1 (by decide +kernel) w1b w2b
  have t5 : hV H2 281 5 = hV H0 281 5 := (f17.1.2.1.1 281 5 kF_3v_281_5).trans (f13.1.2.1.1 281 5 kF_3v_281_5)
  have t6 : hV H2 281 6 = hV H0 281 6 := (f17.1.2.1.1 281 6 kF_3v_281_6).trans (f13.1.2.1.1 281 6 kF_3v_281_6)
  have pf := f28.2
  unfold postb_147v at pf
  rw [show n7 = hV H0 24 (n3).toNat by omega, show n10 = hV H0 24 (n2).toNat by omega, lb, la, t5, t6] at pf
  unfold postb_188v
  refine .inl ⟨?_, pf⟩
  unfold FTc
  omega
theorem c_188v_s_9 : vOkm T0 (eP e_188v L_188v A_188v mu_188v none) 5 ([(1147, [13, 12, 7, 10, 3, 4], [2, 3], 0), (90, [13], [], -2147483648), (91, [13], [], 2147483647), (20, [12, 0], [2], 10), (0, [12], [], 281), (45, [3, 11], [], 0), (0, [11], [], 9), (33, [3], [], 0), (41, [1, 2], [], 0), (51, [10], [], 0), (51, [7], [], 0), (1003, [10, 8, 2, 9], [1, 2], 0), (0, [9], [], 2), (20, [8, 0], [1], 7), (0, [8], [], 23), (1003, [7, 5, 1, 6], [0, 1], 0), (0, [6], [], 2), (20, [5, 0], [0], 7), (0, [5], [], 23), (6000, [0, 1, 2, 3, 4], [0], 0), (0, [0], [], 7), (90, [1], [], -2147483648), (91, [1], [], 2147483647), (90, [2], [], -2147483648), (91, [2], [], 2147483647), (90, [3], [], -2147483648), (91, [3], [], 2147483647), (90, [4], [], -2147483648), (91, [4], [], 2147483647)], (3000, [13], [3], 74)) := vOk_inI fun ρ η f0 f1 f2 f3 f4 f5 f6 f7 f8 f9 f10 f11 f12 f13 f14 f15 f16 f17 f18 f19 f20 f21 f22 f23 f24 f25 f26 f27 f28 => q_188v_9 (n0 := ρ 4) (n1 := ρ 3) (n2 := ρ 2) (n3 := ρ 1) (n4 := ρ 0) (n5 := ρ 5) (n6 := ρ 6) (n7 := ρ 7) (n8 := ρ 8) (n9 := ρ 9) (n10 := ρ 10) (n11 := ρ 11) (n12 := ρ 12) (n13 := ρ 13) (H0 := η 0) (H1 := η 1) (H2 := η 2) (H3 := η 3) f28 f27 f26 f25 f24 f23 f22 f21 f20 f19 f18 f17 f16 f15 f14 f13 f12 f11 f10 f9 f8 f7 f6 f5 f4 f3 f2 f1 f0
theorem q_188v_10 {n0 n1 n2 n3 n4 n5 n6 n7 n8 n9 n10 n11 n12 n13 : Int} {H0 H1 H2 : gH} (f0 : n0 ≤ 2147483647) (f1 : (-2147483648) ≤ n0) (f2 : n1 ≤ 2147483647) (f3 : (-2147483648) ≤ n1) (f4 : n2 ≤ 2147483647) (f5 : (-2147483648) ≤ n2) (f6 : n3 ≤ 2147483647) (f7 : (-2147483648) ≤ n3) (f8 : n4 = 7) (f9 : hWt T0 H0 ∧ preb_188v n4 n3 n2 n1 n0 H0) (f10 : n5 = 23) (f11 : n5 = hV H0 (n4).toNat 7) (f12 : n6 = 2) (f13 : (hLe T0 H0 H1 ∧ hFr s_3v.2.2.2.2 H0 H1 ∧ ((0 : Int) = 0 → H1.length = H0.length) ∧ hWt T0 H1) ∧ postb_3v n7 n5 n3 n6 H0 H1) (f14 : n8 = 23) (f15 : n8 = hV H1 (n4).toNat 7) (f16 : n9 = 2) (f17 : (hLe T0 H1 H2 ∧ hFr s_3v.2.2.2.2 H1 H2 ∧ ((0 : Int) = 0 → H2.length = H1.length) ∧ hWt T0 H2) ∧ postb_3v n10 n8 n2 n9 H1 H2) (f18 : 0 ≤ n7) (f19 : 0 ≤ n10) (f20 : n3 ≠ n2) (f21 : 0 ≤ n1) (f22 : n11 = 9) (f23 : n11 < n1) (f24 : n12 = 1) (f25 : n0 ≠ n12) (f26 : n13 = (-1)) : postb_188v n13 n4 n3 n2 n1 n0 H0 H2 := by
  have pz := f9.2
  unfold preb_188v at pz
  have g0 := f13.2
  unfold postb_3v at g0
  rw [f12] at g0
  have g1 := f17.2
  unfold postb_3v at g1
  rw [f16] at g1
  have e23 : hV H1 23 1 = hV H0 23 1 := f13.1.2.1.1 23 1 kF_3v_23_1
  have e24 : hV H1 24 = hV H0 24 := fRow f13.1.2.1 24 kR_3v_24
  rw [e23, e24] at g1
  have kv1 : 0 ≤ hV H0 24 (n2).toNat → hK H1 (hV H0 24 (n2).toNat).toNat = 7 → KV H1 n2 = KV H0 n2 := fun z1 z2 => by
    unfold KV
    rw [e24]
    exact f13.1.2.1.2.2 _ 7 (kBack f13.1.1 (f13.1.2.2.1 rfl) z2 (by decide)) rfl 0 (by decide +kernel)
  unfold postb_188v
  refine .inr ⟨fun z => ?_, ?_⟩
  · unfold FTc at z
    rcases g1 with g1 | g1
    · have kk := kv1 (by omega) (by rw [← g1.2.2.2.1]; exact g1.2.2.2.2.2)
      omega
    · by_cases kz : hK H1 (hV H0 24 (n2).toNat).toNat = 7
      · have kk := kv1 (by omega) kz
        omega
      · exact kz (kLe f13.1.1 (pz (n2).toNat (by omega) (by omega)).1 rfl)
  · first
    | (rw [if_pos (by omega)] <;> omega)
    | (rw [if_neg (by omega)] <;> omega)
theorem c_188v_s_10 : vOkm T0 (eP e_188v L_188v A_188v mu_188v none) 5 ([(0, [13], [], -1), (41, [4, 12], [], 0), (0, [12], [], 1), (44, [3, 11], [], 0), (0, [11], [], 9), (33, [3], [], 0), (41, [1, 2], [], 0), (51, [10], [], 0), (51, [7], [], 0), (1003, [10, 8, 2, 9], [1, 2], 0), (0, [9], [], 2), (20, [8, 0], [1], 7), (0, [8], [], 23), (1003, [7, 5, 1, 6], [0, 1], 0), (0, [6], [], 2), (20, [5, 0], [0], 7), (0, [5], [], 23), (6000, [0, 1, 2, 3, 4], [0], 0), (0, [0], [], 7), (90, [1], [], -2147483648), (91, [1], [], 2147483647), (90, [2], [], -2147483648), (91, [2], [], 2147483647), (90, [3], [], -2147483648), (91, [3], [], 2147483647), (90, [4], [], -2147483648), (91, [4], [], 2147483647)], (3000, [13], [2], 59)) := vOk_inI fun ρ η f0 f1 f2 f3 f4 f5 f6 f7 f8 f9 f10 f11 f12 f13 f14 f15 f16 f17 f18 f19 f20 f21 f22 f23 f24 f25 f26 => q_188v_10 (n0 := ρ 4) (n1 := ρ 3) (n2 := ρ 2) (n3 := ρ 1) (n4 := ρ 0) (n5 := ρ 5) (n6 := ρ 6) (n7 := ρ 7) (n8 := ρ 8) (n9 := ρ 9) (n10 := ρ 10) (n11 := ρ 11) (n12 := ρ 12) (n13 := ρ 13) (H0 := η 0) (H1 := η 1) (H2 := η 2) f26 f25 f24 f23 f22 f21 f20 f19 f18 f17 f16 f15 f14 f13 f12 f11 f10 f9 f8 f7 f6 f5 f4 f3 f2 f1 f0
theorem q_188v_11 {n0 n1 n2 n3 n4 n5 n6 n7 n8 n9 n10 n11 n12 n13 : Int} {H0 H1 H2 : gH} (f0 : n0 ≤ 2147483647) (f1 : (-2147483648) ≤ n0) (f2 : n1 ≤ 2147483647) (f3 : (-2147483648) ≤ n1) (f4 : n2 ≤ 2147483647) (f5 : (-2147483648) ≤ n2) (f6 : n3 ≤ 2147483647) (f7 : (-2147483648) ≤ n3) (f8 : n4 = 7) (f9 : hWt T0 H0 ∧ preb_188v n4 n3 n2 n1 n0 H0) (f10 : n5 = 23) (f11 : n5 = hV H0 (n4).toNat 7) (f12 : n6 = 2) (f13 : (hLe T0 H0 H1 ∧ hFr s_3v.2.2.2.2 H0 H1 ∧ ((0 : Int) = 0 → H1.length = H0.length) ∧ hWt T0 H1) ∧ postb_3v n7 n5 n3 n6 H0 H1) (f14 : n8 = 23) (f15 : n8 = hV H1 (n4).toNat 7) (f16 : n9 = 2) (f17 : (hLe T0 H1 H2 ∧ hFr s_3v.2.2.2.2 H1 H2 ∧ ((0 : Int) = 0 → H2.length = H1.length) ∧ hWt T0 H2) ∧ postb_3v n10 n8 n2 n9 H1 H2) (f18 : 0 ≤ n7) (f19 : 0 ≤ n10) (f20 : n3 ≠ n2) (f21 : 0 ≤ n1) (f22 : n11 = 9) (f23 : n11 < n1) (f24 : n12 = 1) (f25 : n0 = n12) (f26 : n13 = (-100)) : postb_188v n13 n4 n3 n2 n1 n0 H0 H2 := by
  have pz := f9.2
  unfold preb_188v at pz
  have g0 := f13.2
  unfold postb_3v at g0
  rw [f12] at g0
  have g1 := f17.2
  unfold postb_3v at g1
  rw [f16] at g1
  have e23 : hV H1 23 1 = hV H0 23 1 := f13.1.2.1.1 23 1 kF_3v_23_1
  have e24 : hV H1 24 = hV H0 24 := fRow f13.1.2.1 24 kR_3v_24
  rw [e23, e24] at g1
  have kv1 : 0 ≤ hV H0 24 (n2).toNat → hK H1 (hV H0 24 (n2).toNat).toNat = 7 → KV H1 n2 = KV H0 n2 := fun z1 z2 => by
    unfold KV
    rw [e24]
    exact f13.1.2.1.2.2 _ 7 (kBack f13.1.1 (f13.1.2.2.1 rfl) z2 (by decide)) rfl 0 (by decide +kernel)
  unfold postb_188v
  refine .inr ⟨fun z => ?_, ?_⟩
  · unfold FTc at z
    rcases g1 with g1 | g1
    · have kk := kv1 (by omega) (by rw [← g1.2.2.2.1]; exact g1.2.2.2.2.2)
      omega
    · by_cases kz : hK H1 (hV H0 24 (n2).toNat).toNat = 7
      · have kk := kv1 (by omega) kz
        omega
      · exact kz (kLe f13.1.1 (pz (n2).toNat (by omega) (by omega)).1 rfl)
  · first
    | (rw [if_pos (by omega)] <;> omega)
    | (rw [if_neg (by omega)] <;> omega)
theorem c_188v_s_11 : vOkm T0 (eP e_188v L_188v A_188v mu_188v none) 5 ([(0, [13], [], -100), (40, [4, 12], [], 0), (0, [12], [], 1), (44, [3, 11], [], 0), (0, [11], [], 9), (33, [3], [], 0), (41, [1, 2], [], 0), (51, [10], [], 0), (51, [7], [], 0), (1003, [10, 8, 2, 9], [1, 2], 0), (0, [9], [], 2), (20, [8, 0], [1], 7), (0, [8], [], 23), (1003, [7, 5, 1, 6], [0, 1], 0), (0, [6], [], 2), (20, [5, 0], [0], 7), (0, [5], [], 23), (6000, [0, 1, 2, 3, 4], [0], 0), (0, [0], [], 7), (90, [1], [], -2147483648), (91, [1], [], 2147483647), (90, [2], [], -2147483648), (91, [2], [], 2147483647), (90, [3], [], -2147483648), (91, [3], [], 2147483647), (90, [4], [], -2147483648), (91, [4], [], 2147483647)], (3000, [13], [2], 59)) := vOk_inI fun ρ η f0 f1 f2 f3 f4 f5 f6 f7 f8 f9 f10 f11 f12 f13 f14 f15 f16 f17 f18 f19 f20 f21 f22 f23 f24 f25 f26 => q_188v_11 (n0 := ρ 4) (n1 := ρ 3) (n2 := ρ 2) (n3 := ρ 1) (n4 := ρ 0) (n5 := ρ 5) (n6 := ρ 6) (n7 := ρ 7) (n8 := ρ 8) (n9 := ρ 9) (n10 := ρ 10) (n11 := ρ 11) (n12 := ρ 12) (n13 := ρ 13) (H0 := η 0) (H1 := η 1) (H2 := η 2) f26 f25 f24 f23 f22 f21 f20 f19 f18 f17 f16 f15 f14 f13 f12 f11 f10 f9 f8 f7 f6 f5 f4 f3 f2 f1 f0
def p_188v_s : List vG := [([(0, [12], [], -1), (41, [4, 11], [], 0), (0, [11], [], 1), (50, [7], [], 0), (1003, [10, 8, 2, 9], [1, 2], 0), (0, [9], [], 2), (20, [8, 0], [1], 7), (0, [8], [], 23), (1003, [7, 5, 1, 6], [0, 1], 0), (0, [6], [], 2), (20, [5, 0], [0], 7), (0, [5], [], 23), (6000, [0, 1, 2, 3, 4], [0], 0), (0, [0], [], 7), (90, [1], [], -2147483648), (91, [1], [], 2147483647), (90, [2], [], -2147483648), (91, [2], [], 2147483647), (90, [3], [], -2147483648), (91, [3], [], 2147483647), (90, [4], [], -2147483648), (91, [4], [], 2147483647)], (3000, [12], [2], 59)),
  ([(0, [12], [], -100), (40, [4, 11], [], 0), (0, [11], [], 1), (50, [7], [], 0), (1003, [10, 8, 2, 9], [1, 2], 0), (0, [9], [], 2), (20, [8, 0], [1], 7), (0, [8], [], 23), (1003, [7, 5, 1, 6], [0, 1], 0), (0, [6], [], 2), (20, [5, 0], [0], 7), (0, [5], [], 23), (6000, [0, 1, 2, 3, 4], [0], 0), (0, [0], [], 7), (90, [1], [], -2147483648), (91, [1], [], 2147483647), (90, [2], [], -2147483648), (91, [2], [], 2147483647), (90, [3], [], -2147483648), (91, [3], [], 2147483647), (90, [4], [], -2147483648), (91, [4], [], 2147483647)], (3000, [12], [2], 59)),
  ([(0, [12], [], -1), (41, [4, 11], [], 0), (0, [11], [], 1), (50, [10], [], 0), (51, [7], [], 0), (1003, [10, 8, 2, 9], [1, 2], 0), (0, [9], [], 2), (20, [8, 0], [1], 7), (0, [8], [], 23), (1003, [7, 5, 1, 6], [0, 1], 0), (0, [6], [], 2), (20, [5, 0], [0], 7), (0, [5], [], 23), (6000, [0, 1, 2, 3, 4], [0], 0), (0, [0], [], 7), (90, [1], [], -2147483648), (91, [1], [], 2147483647), (90, [2], [], -2147483648), (91, [2], [], 2147483647), (90, [3], [], -2147483648), (91, [3], [], 2147483647), (90, [4], [], -2147483648), (91, [4], [], 2147483647)], (3000, [12], [2], 59)),
  ([(0, [12], [], -100), (40, [4, 11], [], 0), (0, [11], [], 1), (50, [10], [], 0), (51, [7], [], 0), (1003, [10, 8, 2, 9], [1, 2], 0), (0, [9], [], 2), (20, [8, 0], [1], 7), (0, [8], [], 23), (1003, [7, 5, 1, 6], [0, 1], 0), (0, [6], [], 2), (20, [5, 0], [0], 7), (0, [5], [], 23), (6000, [0, 1, 2, 3, 4], [0], 0), (0, [0], [], 7), (90, [1], [], -2147483648), (91, [1], [], 2147483647), (90, [2], [], -2147483648), (91, [2], [], 2147483647), (90, [3], [], -2147483648), (91, [3], [], 2147483647), (90, [4], [], -2147483648), (91, [4], [], 2147483647)], (3000, [12], [2], 59)),
  ([(0, [12], [], -1), (41, [4, 11], [], 0), (0, [11], [], 1), (40, [1, 2], [], 0), (51, [10], [], 0), (51, [7], [], 0), (1003, [10, 8, 2, 9], [1, 2], 0), (0, [9], [], 2), (20, [8, 0], [1], 7), (0, [8], [], 23), (1003, [7, 5, 1, 6], [0, 1], 0), (0, [6], [], 2), (20, [5, 0], [0], 7), (0, [5], [], 23), (6000, [0, 1, 2, 3, 4], [0], 0), (0, [0], [], 7), (90, [1], [], -2147483648), (91, [1], [], 2147483647), (90, [2], [], -2147483648), (91, [2], [], 2147483647), (90, [3], [], -2147483648), (91, [3], [], 2147483647), (90, [4], [], -2147483648), (91, [4], [], 2147483647)], (3000, [12], [2], 59)),
  ([(0, [12], [], -100), (40, [4, 11], [], 0), (0, [11], [], 1), (40, [1, 2], [], 0), (51, [10], [], 0), (51, [7], [], 0), (1003, [10, 8, 2, 9], [1, 2], 0), (0, [9], [], 2), (20, [8, 0], [1], 7), (0, [8], [], 23), (1003, [7, 5, 1, 6], [0, 1], 0), (0, [6], [], 2), (20, [5, 0], [0], 7), (0, [5], [], 23), (6000, [0, 1, 2, 3, 4], [0], 0), (0, [0], [], 7), (90, [1], [], -2147483648), (91, [1], [], 2147483647), (90, [2], [], -2147483648), (91, [2], [], 2147483647), (90, [3], [], -2147483648), (91, [3], [], 2147483647), (90, [4], [], -2147483648), (91, [4], [], 2147483647)], (3000, [12], [2], 59)),
  ([(0, [12], [], -1), (41, [4, 11], [], 0), (0, [11], [], 1), (32, [3], [], 0), (41, [1, 2], [], 0), (51, [10], [], 0), (51, [7], [], 0), (1003, [10, 8, 2, 9], [1, 2], 0), (0, [9], [], 2), (20, [8, 0], [1], 7), (0, [8], [], 23), (1003, [7, 5, 1, 6], [0, 1], 0), (0, [6], [], 2), (20, [5, 0], [0], 7), (0, [5], [], 23), (6000, [0, 1, 2, 3, 4], [0], 0), (0, [0], [], 7), (90, [1], [], -2147483648), (91, [1], [], 2147483647), (90, [2], [], -2147483648), (91, [2], [], 2147483647), (90, [3], [], -2147483648), (91, [3], [], 2147483647), (90, [4], [], -2147483648), (91, [4], [], 2147483647)], (3000, [12], [2], 59)),
  ([(0, [12], [], -100), (40, [4, 11], [], 0), (0, [11], [], 1), (32, [3], [], 0), (41, [1, 2], [], 0), (51, [10], [], 0), (51, [7], [], 0), (1003, [10, 8, 2, 9], [1, 2], 0), (0, [9], [], 2), (20, [8, 0], [1], 7), (0, [8], [], 23), (1003, [7, 5, 1, 6], [0, 1], 0), (0, [6], [], 2), (20, [5, 0], [0], 7), (0, [5], [], 23), (6000, [0, 1, 2, 3, 4], [0], 0), (0, [0], [], 7), (90, [1], [], -2147483648), (91, [1], [], 2147483647), (90, [2], [], -2147483648), (91, [2], [], 2147483647), (90, [3], [], -2147483648), (91, [3], [], 2147483647), (90, [4], [], -2147483648), (91, [4], [], 2147483647)], (3000, [12], [2], 59)),
  ([(20, [12, 0], [2], 10), (0, [12], [], 281), (45, [3, 11], [], 0), (0, [11], [], 9), (33, [3], [], 0), (41, [1, 2], [], 0), (51, [10], [], 0), (51, [7], [], 0), (1003, [10, 8, 2, 9], [1, 2], 0), (0, [9], [], 2), (20, [8, 0], [1], 7), (0, [8], [], 23), (1003, [7, 5, 1, 6], [0, 1], 0), (0, [6], [], 2), (20, [5, 0], [0], 7), (0, [5], [], 23), (6000, [0, 1, 2, 3, 4], [0], 0), (0, [0], [], 7), (90, [1], [], -2147483648), (91, [1], [], 2147483647), (90, [2], [], -2147483648), (91, [2], [], 2147483647), (90, [3], [], -2147483648), (91, [3], [], 2147483647), (90, [4], [], -2147483648), (91, [4], [], 2147483647)], (2147, [12, 7, 10, 3, 4], [2], 0)),
  ([(1147, [13, 12, 7, 10, 3, 4], [2, 3], 0), (90, [13], [], -2147483648), (91, [13], [], 2147483647), (20, [12, 0], [2], 10), (0, [12], [], 281), (45, [3, 11], [], 0), (0, [11], [], 9), (33, [3], [], 0), (41, [1, 2], [], 0), (51, [10], [], 0), (51, [7], [], 0), (1003, [10, 8, 2, 9], [1, 2], 0), (0, [9], [], 2), (20, [8, 0], [1], 7), (0, [8], [], 23), (1003, [7, 5, 1, 6], [0, 1], 0), (0, [6], [], 2), (20, [5, 0], [0], 7), (0, [5], [], 23), (6000, [0, 1, 2, 3, 4], [0], 0), (0, [0], [], 7), (90, [1], [], -2147483648), (91, [1], [], 2147483647), (90, [2], [], -2147483648), (91, [2], [], 2147483647), (90, [3], [], -2147483648), (91, [3], [], 2147483647), (90, [4], [], -2147483648), (91, [4], [], 2147483647)], (3000, [13], [3], 74)),
  ([(0, [13], [], -1), (41, [4, 12], [], 0), (0, [12], [], 1), (44, [3, 11], [], 0), (0, [11], [], 9), (33, [3], [], 0), (41, [1, 2], [], 0), (51, [10], [], 0), (51, [7], [], 0), (1003, [10, 8, 2, 9], [1, 2], 0), (0, [9], [], 2), (20, [8, 0], [1], 7), (0, [8], [], 23), (1003, [7, 5, 1, 6], [0, 1], 0), (0, [6], [], 2), (20, [5, 0], [0], 7), (0, [5], [], 23), (6000, [0, 1, 2, 3, 4], [0], 0), (0, [0], [], 7), (90, [1], [], -2147483648), (91, [1], [], 2147483647), (90, [2], [], -2147483648), (91, [2], [], 2147483647), (90, [3], [], -2147483648), (91, [3], [], 2147483647), (90, [4], [], -2147483648), (91, [4], [], 2147483647)], (3000, [13], [2], 59)),
  ([(0, [13], [], -100), (40, [4, 12], [], 0), (0, [12], [], 1), (44, [3, 11], [], 0), (0, [11], [], 9), (33, [3], [], 0), (41, [1, 2], [], 0), (51, [10], [], 0), (51, [7], [], 0), (1003, [10, 8, 2, 9], [1, 2], 0), (0, [9], [], 2), (20, [8, 0], [1], 7), (0, [8], [], 23), (1003, [7, 5, 1, 6], [0, 1], 0), (0, [6], [], 2), (20, [5, 0], [0], 7), (0, [5], [], 23), (6000, [0, 1, 2, 3, 4], [0], 0), (0, [0], [], 7), (90, [1], [], -2147483648), (91, [1], [], 2147483647), (90, [2], [], -2147483648), (91, [2], [], 2147483647), (90, [3], [], -2147483648), (91, [3], [], 2147483647), (90, [4], [], -2147483648), (91, [4], [], 2147483647)], (3000, [13], [2], 59))]
theorem r_188v_s : vCovO false (eR0 e_188v L_188v cs_188v 2000) p_188v_s = true := by decide +kernel
theorem m_188v (d : Nat) : eC e_188v (d + 6) := eC_ok (e := e_188v) (L := L_188v) (cs := cs_188v) (n := 2000) (d := d + 5) (A := A_188v) (μ := mu_188v) (tp := false) (p0 := p_188v_s) rfl ⟨m_3v (d + 3), ⟨m_147v d, trivial⟩⟩ rfl (.inl rfl) (by decide +kernel) (fun z => nomatch z) r_188v_s (allC c_188v_s_0 (allC c_188v_s_1 (allC c_188v_s_2 (allC c_188v_s_3 (allC c_188v_s_4 (allC c_188v_s_5 (allC c_188v_s_6 (allC c_188v_s_7 (allC c_188v_s_8 (allC c_188v_s_9 (allC c_188v_s_10 (allC c_188v_s_11 allN)))))))))))) allN
/- MixStageModel.missed (IIIII)I -/
noncomputable def s_306v : vM := ([(3, 12, 285, 0), (0, 0, 19, 0), (0, 0, 19, 0), (0, -2147483648, 2147483647, 0), (0, -2147483648, 2147483647, 0), (0, -2147483648, 2147483647, 0)], (0, -2147483648, 2147483647, 0), 1, 0, [])
def preb_306v (a0 a1 a2 a3 a4 a5 : Int) (h : gH) : Prop := 0 ≤ a3 ∧ a3 ≤ 9 ∧ -24 ≤ a4 ∧ a4 ≤ 24 ∧ 9 ≤ a5 ∧ a5 ≤ 11
def pre_306v : List Int → gH → Prop := fun xs h => match xs with
  | [a0, a1, a2, a3, a4, a5] => preb_306v a0 a1 a2 a3 a4 a5 h
  | _ => False
def postb_306v (r a0 a1 a2 a3 a4 a5 : Int) (h0 h : gH) : Prop := r = lkR h0 a1 a2 a3 a4 a5
def post_306v : List Int → gH → gH → Prop := fun xs h0 h => match xs with
  | [r, a0, a1, a2, a3, a4, a5] => postb_306v r a0 a1 a2 a3 a4 a5 h0 h
  | _ => True
noncomputable def e_306v : vE := (306, s_306v, pre_306v, post_306v)
noncomputable def L_306v : List vE := []
def cs_306v : List vC := [(6, [(0, (3, 12, 285, 0)), (1, (0, 0, 19, 0)), (2, (0, 0, 19, 0)), (3, (0, -2147483648, 2147483647, 0)), (4, (0, -2147483648, 2147483647, 0)), (5, (0, -2147483648, 2147483647, 0)), (6, (0, -2147483648, 2147483647, 0)), (7, (0, 0, 8, 0))]), (46, [(0, (3, 12, 285, 0)), (1, (0, 0, 19, 0)), (2, (0, 0, 19, 0)), (3, (0, -2147483648, 2147483647, 0)), (4, (0, -2147483648, 2147483647, 0)), (5, (0, -2147483648, 2147483647, 0)), (6, (0, -2147483648, 2147483647, 0)), (7, (0, 0, 7, 0)), (8, (0, -2147483648, 2147483647, 0)), (9, (0, -2147483648, 2147483647, 0)), (10, (0, 0, 8, 0))])]
def Ab_306v_6 (a0 a1 a2 a3 a4 a5 x0 x1 x2 x3 x4 x5 x6 x7 : Int) (h0 h : gH) : Prop := x1 = a1 ∧ x2 = a2 ∧ x3 = a3 ∧ x4 = a4 ∧ x5 = a5 ∧ x6 = lkB (fun i => hV h0 339 (8 * (a1).toNat + i)) (fun i => hV h0 339 (8 * (a2).toNat + i)) (hV h0 338 ((a2).toNat)).toNat a4 a5 a3 (x7).toNat ∧ (x7 = 0 ∨ x7 ≤ (hV h0 338 ((a1).toNat)))
def mub_306v_6 (a0 a1 a2 a3 a4 a5 x0 x1 x2 x3 x4 x5 x6 x7 : Int) (h0 h : gH) : Nat := (8589934592 + (2147483648 - x7).toNat) * 1099511627776 + 1099511627775
def Ab_306v_46 (a0 a1 a2 a3 a4 a5 x0 x1 x2 x3 x4 x5 x6 x7 x8 x9 x10 : Int) (h0 h : gH) : Prop := x1 = a1 ∧ x2 = a2 ∧ x3 = a3 ∧ x4 = a4 ∧ x5 = a5 ∧ x6 = lkB (fun i => hV h0 339 (8 * (a1).toNat + i)) (fun i => hV h0 339 (8 * (a2).toNat + i)) (hV h0 338 ((a2).toNat)).toNat a4 a5 a3 (x7).toNat ∧ x7 + 1 ≤ (hV h0 338 ((a1).toNat)) ∧ x8 = a4 + (fun i => hV h0 339 (8 * (a1).toNat + i)) (x7).toNat * a5 / 10 ∧ x9 = mtB (fun i => hV h0 339 (8 * (a2).toNat + i)) x8 a3 (x10).toNat ∧ (x10 = 0 ∨ x10 ≤ (hV h0 338 ((a2).toNat))) ∧ -24 ≤ x8 ∧ x8 ≤ 100
def mub_306v_46 (a0 a1 a2 a3 a4 a5 x0 x1 x2 x3 x4 x5 x6 x7 x8 x9 x10 : Int) (h0 h : gH) : Nat := (8589934592 + (2147483648 - x7).toNat) * 1099511627776 + (8589934592 + (2147483648 - x10).toNat) * 1
def A_306v : Int → List Int → gH → gH → Prop := fun c xs h0 h => match c.toNat with
  | 6 => (match xs with
    | [a0, a1, a2, a3, a4, a5, x0, x1, x2, x3, x4, x5, x6, x7] => Ab_306v_6 a0 a1 a2 a3 a4 a5 x0 x1 x2 x3 x4 x5 x6 x7 h0 h
    | _ => False)
  | 46 => (match xs with
    | [a0, a1, a2, a3, a4, a5, x0, x1, x2, x3, x4, x5, x6, x7, x8, x9, x10] => Ab_306v_46 a0 a1 a2 a3 a4 a5 x0 x1 x2 x3 x4 x5 x6 x7 x8 x9 x10 h0 h
    | _ => False)
  | _ => True
def mu_306v : Int → List Int → gH → gH → Nat := fun c xs h0 h => match c.toNat with
  | 6 => (match xs with
    | [a0, a1, a2, a3, a4, a5, x0, x1, x2, x3, x4, x5, x6, x7] => mub_306v_6 a0 a1 a2 a3 a4 a5 x0 x1 x2 x3 x4 x5 x6 x7 h0 h
    | _ => 0)
  | 46 => (match xs with
    | [a0, a1, a2, a3, a4, a5, x0, x1, x2, x3, x4, x5, x6, x7, x8, x9, x10] => mub_306v_46 a0 a1 a2 a3 a4 a5 x0 x1 x2 x3 x4 x5 x6 x7 x8 x9 x10 h0 h
    | _ => 0)
  | _ => 0
theorem q_306v_0 {n0 n1 n2 n3 n4 n5 n6 n7 : Int} {H0 : gH} (f0 : n0 ≤ 2147483647) (f1 : (-2147483648) ≤ n0) (f2 : n1 ≤ 2147483647) (f3 : (-2147483648) ≤ n1) (f4 : n2 ≤ 2147483647) (f5 : (-2147483648) ≤ n2) (f6 : n3 ≤ 19) (f7 : 0 ≤ n3) (f8 : n4 ≤ 19) (f9 : 0 ≤ n4) (f10 : n5 = 285) (f11 : hWt T0 H0 ∧ preb_306v n5 n4 n3 n2 n1 n0 H0) (f12 : n6 = 0) (f13 : n7 = 0) : Ab_306v_6 n5 n4 n3 n2 n1 n0 n5 n4 n3 n2 n1 n0 n6 n7 H0 H0 ∧ ∀ q, none = some q → mub_306v_6 n5 n4 n3 n2 n1 n0 n5 n4 n3 n2 n1 n0 n6 n7 H0 H0 < q := by
  unfold Ab_306v_6
  refine ⟨⟨rfl, rfl, rfl, rfl, rfl, ?_, by omega⟩, fun q hq => nomatch hq⟩
  rw [show (n7).toNat = 0 by omega, lkB_zero]
  omega
def g_306v_s_0 : vG := ([(0, [7], [], 0), (0, [6], [], 0), (6000, [0, 1, 2, 3, 4, 5], [0], 0), (0, [0], [], 285), (90, [1], [], 0), (91, [1], [], 19), (90, [2], [], 0), (91, [2], [], 19), (90, [3], [], -2147483648), (91, [3], [], 2147483647), (90, [4], [], -2147483648), (91, [4], [], 2147483647), (90, [5], [], -2147483648), (91, [5], [], 2147483647)], (4000, [0, 1, 2, 3, 4, 5, 6, 7], [0], 6))
theorem c_306v_s_0 : vOkm T0 (eP e_306v L_306v A_306v mu_306v none) 6 g_306v_s_0 := vOk_inI fun ρ η f0 f1 f2 f3 f4 f5 f6 f7 f8 f9 f10 f11 f12 f13 => q_306v_0 (n0 := ρ 5) (n1 := ρ 4) (n2 := ρ 3) (n3 := ρ 2) (n4 := ρ 1) (n5 := ρ 0) (n6 := ρ 6) (n7 := ρ 7) (H0 := η 0) f13 f12 f11 f10 f9 f8 f7 f6 f5 f4 f3 f2 f1 f0
def p_306v_s : List vG := [g_306v_s_0]
theorem r_306v_s : vCovO false (eR0 e_306v L_306v cs_306v 2000) p_306v_s = true := by decide +kernel
theorem kR_306v_339 : vFreeR s_306v.2.2.2.2 339 = true := by decide +kernel
theorem kR_306v_338 : vFreeR s_306v.2.2.2.2 338 = true := by decide +kernel
theorem q_306v_1 {q0 : Nat} {n0 n1 n2 n3 n4 n5 n6 n7 n8 n9 n10 n11 n12 n13 n14 n15 : Int} {H0 H1 : gH} (f0 : n0 ≤ 8) (f1 : 0 ≤ n0) (f2 : n1 ≤ 2147483647) (f3 : (-2147483648) ≤ n1) (f4 : n2 ≤ 2147483647) (f5 : (-2147483648) ≤ n2) (f6 : n3 ≤ 2147483647) (f7 : (-2147483648) ≤ n3) (f8 : n4 ≤ 2147483647) (f9 : (-2147483648) ≤ n4) (f10 : n5 ≤ 19) (f11 : 0 ≤ n5) (f12 : n6 ≤ 19) (f13 : 0 ≤ n6) (f14 : n7 = 285) (f15 : n8 ≤ 2147483647) (f16 : (-2147483648) ≤ n8) (f17 : n9 ≤ 2147483647) (f18 : (-2147483648) ≤ n9) (f19 : n10 ≤ 2147483647) (f20 : (-2147483648) ≤ n10) (f21 : n11 ≤ 19) (f22 : 0 ≤ n11) (f23 : n12 ≤ 19) (f24 : 0 ≤ n12) (f25 : n13 = 285) (f26 : (hLe T0 H0 H1 ∧ hFr s_306v.2.2.2.2 H0 H1 ∧ hWt T0 H1) ∧ (Ab_306v_6 n13 n12 n11 n10 n9 n8 n7 n6 n5 n4 n3 n2 n1 n0 H0 H1 ∧ preb_306v n13 n12 n11 n10 n9 n8 H0) ∧ some q0 = some (mub_306v_6 n13 n12 n11 n10 n9 n8 n7 n6 n5 n4 n3 n2 n1 n0 H0 H1)) (f27 : n14 = 338) (f28 : n14 = hV H1 (n7).toNat 76) (f29 : n15 ≤ 8) (f30 : 0 ≤ n15) (f31 : n15 = hV H1 (n14).toNat (n6).toNat) (f32 : n15 ≤ n0) : postb_306v n1 n13 n12 n11 n10 n9 n8 H0 H1 := by
  have ga := f26.2.1.1
  unfold Ab_306v_6 at ga
  obtain ⟨k0_, k1_, k2_, k3_, k4_, y0, y1⟩ := ga
  have pz := f26.2.1.2
  unfold preb_306v at pz
  have fa := fRow f26.1.2.1 339 kR_306v_339
  have fn := fRow f26.1.2.1 338 kR_306v_338
  have rn0 := f31
  rw [f27] at rn0
  rw [show ((338 : Int)).toNat = 338 from rfl] at rn0
  rw [fn] at rn0
  try rw [show n6 = n12 from k0_] at rn0
  try rw [show n5 = n11 from k1_] at rn0
  unfold postb_306v lkR
  rw [show (hV H0 338 (n12).toNat).toNat = (n0).toNat by omega]
  omega
def g_306v_6_0 : vG := ([(43, [13, 15], [], 0), (22, [15, 14, 7], [1], 0), (90, [15], [], 0), (91, [15], [], 8), (20, [14, 6], [1], 76), (0, [14], [], 338), (5000, [0, 1, 2, 3, 4, 5, 6, 7, 8, 9, 10, 11, 12, 13], [0, 1], 6), (0, [0], [], 285), (90, [1], [], 0), (91, [1], [], 19), (90, [2], [], 0), (91, [2], [], 19), (90, [3], [], -2147483648), (91, [3], [], 2147483647), (90, [4], [], -2147483648), (91, [4], [], 2147483647), (90, [5], [], -2147483648), (91, [5], [], 2147483647), (0, [6], [], 285), (90, [7], [], 0), (91, [7], [], 19), (90, [8], [], 0), (91, [8], [], 19), (90, [9], [], -2147483648), (91, [9], [], 2147483647), (90, [10], [], -2147483648), (91, [10], [], 2147483647), (90, [11], [], -2147483648), (91, [11], [], 2147483647), (90, [12], [], -2147483648), (91, [12], [], 2147483647), (90, [13], [], 0), (91, [13], [], 8)], (3000, [12], [1], 112))
theorem c_306v_6_0 {q0 : Nat} : vOkm T0 (eP e_306v L_306v A_306v mu_306v (some q0)) 6 g_306v_6_0 := vOk_inI fun ρ η f0 f1 f2 f3 f4 f5 f6 f7 f8 f9 f10 f11 f12 f13 f14 f15 f16 f17 f18 f19 f20 f21 f22 f23 f24 f25 f26 f27 f28 f29 f30 f31 f32 => q_306v_1 (q0 := q0) (n0 := ρ 13) (n1 := ρ 12) (n2 := ρ 11) (n3 := ρ 10) (n4 := ρ 9) (n5 := ρ 8) (n6 := ρ 7) (n7 := ρ 6) (n8 := ρ 5) (n9 := ρ 4) (n10 := ρ 3) (n11 := ρ 2) (n12 := ρ 1) (n13 := ρ 0) (n14 := ρ 14) (n15 := ρ 15) (H0 := η 0) (H1 := η 1) f32 f31 f30 f29 f28 f27 f26 f25 f24 f23 f22 f21 f20 f19 f18 f17 f16 f15 f14 f13 f12 f11 f10 f9 f8 f7 f6 f5 f4 f3 f2 f1 f0
theorem q_306v_2 {q0 : Nat} {n0 n1 n2 n3 n4 n5 n6 n7 n8 n9 n10 n11 n12 n13 n14 n15 n16 n17 n18 : Int} {H0 H1 : gH} (f0 : n0 ≤ 8) (f1 : 0 ≤ n0) (f2 : n1 ≤ 2147483647) (f3 : (-2147483648) ≤ n1) (f4 : n2 ≤ 2147483647) (f5 : (-2147483648) ≤ n2) (f6 : n3 ≤ 2147483647) (f7 : (-2147483648) ≤ n3) (f8 : n4 ≤ 2147483647) (f9 : (-2147483648) ≤ n4) (f10 : n5 ≤ 19) (f11 : 0 ≤ n5) (f12 : n6 ≤ 19) (f13 : 0 ≤ n6) (f14 : n7 = 285) (f15 : n8 ≤ 2147483647) (f16 : (-2147483648) ≤ n8) (f17 : n9 ≤ 2147483647) (f18 : (-2147483648) ≤ n9) (f19 : n10 ≤ 2147483647) (f20 : (-2147483648) ≤ n10) (f21 : n11 ≤ 19) (f22 : 0 ≤ n11) (f23 : n12 ≤ 19) (f24 : 0 ≤ n12) (f25 : n13 = 285) (f26 : (hLe T0 H0 H1 ∧ hFr s_306v.2.2.2.2 H0 H1 ∧ hWt T0 H1) ∧ (Ab_306v_6 n13 n12 n11 n10 n9 n8 n7 n6 n5 n4 n3 n2 n1 n0 H0 H1 ∧ preb_306v n13 n12 n11 n10 n9 n8 H0) ∧ some q0 = some (mub_306v_6 n13 n12 n11 n10 n9 n8 n7 n6 n5 n4 n3 n2 n1 n0 H0 H1)) (f27 : n14 = 338) (f28 : n14 = hV H1 (n7).toNat 76) (f29 : n15 ≤ 8) (f30 : 0 ≤ n15) (f31 : n15 = hV H1 (n14).toNat (n6).toNat) (f32 : n0 < n15) (f33 : n16 = 8) (f34 : n17 = w32 (n16 * n6)) (f35 : n18 = w32 (n17 + n0)) : 0 ≤ n18 ∧ n18 < 160 := by
  have g4 := f26.2.1.1
  unfold Ab_306v_6 at g4
  have g3 := f26.2.1.2
  unfold preb_306v at g3
  have e1 : n15 = hV H0 338 (n6).toNat := (by rw [f27] at f31; exact f31 : n15 = hV H1 338 (n6).toNat).trans ((congrFun (fRow f26.1.2.1 338 kR_306v_338) _))
  have k0 := g4.1
  have k1 := g4.2.1
  have k2 := g4.2.2.1
  have k3 := g4.2.2.2.1
  have k4 := g4.2.2.2.2.1
  have y0 := g4.2.2.2.2.2.1
  have y1 := g4.2.2.2.2.2.2
  have p0 := g3.1
  have p1 := g3.2.1
  have p2 := g3.2.2.1
  have p3 := g3.2.2.2.1
  have p4 := g3.2.2.2.2.1
  have p5 := g3.2.2.2.2.2
  clear g3
  clear g4
  clear f28 f31
  clear f26
  subst e1
  rw [f33] at f34
  first
  | (have ix0 : n17 = 8 * n6 := Eq.trans f34 (w32_iv (Iml 8 rfl (Iat f13 f12)) (by decide)); subst ix0; clear f34)
  | (have ix0 : n17 = 8 * n6 := Eq.trans f34 (w32_id (by omega) (by omega)); subst ix0; clear f34)
  | (unfold w32 at f34; have ix0 : n17 = 8 * n6 := (by omega); subst ix0)
  | skip
  first
  | (have ix1 : n18 = (8 * n6) + n0 := Eq.trans f35 (w32_iv (Iad (Iml 8 rfl (Iat f13 f12)) (Iat f1 f0)) (by decide)); subst ix1; clear f35)
  | (have ix1 : n18 = (8 * n6) + n0 := Eq.trans f35 (w32_id (by omega) (by omega)); subst ix1; clear f35)
  | (unfold w32 at f35; have ix1 : n18 = (8 * n6) + n0 := (by omega); subst ix1)
  | skip
  try unfold w32 at f34
  try unfold w32 at f35
  try subst k4
  try subst k3
  try subst k2
  try subst k1
  try subst k0
  subst y0
  omega
def g_306v_6_1 : vG := ([(1, [19, 18, 13], [], 0), (3, [18, 17, 7], [], 0), (0, [17], [], 8), (42, [13, 15], [], 0), (22, [15, 14, 7], [1], 0), (90, [15], [], 0), (91, [15], [], 8), (20, [14, 6], [1], 76), (0, [14], [], 338), (5000, [0, 1, 2, 3, 4, 5, 6, 7, 8, 9, 10, 11, 12, 13], [0, 1], 6), (0, [0], [], 285), (90, [1], [], 0), (91, [1], [], 19), (90, [2], [], 0), (91, [2], [], 19), (90, [3], [], -2147483648), (91, [3], [], 2147483647), (90, [4], [], -2147483648), (91, [4], [], 2147483647), (90, [5], [], -2147483648), (91, [5], [], 2147483647), (0, [6], [], 285), (90, [7], [], 0), (91, [7], [], 19), (90, [8], [], 0), (91, [8], [], 19), (90, [9], [], -2147483648), (91, [9], [], 2147483647), (90, [10], [], -2147483648), (91, [10], [], 2147483647), (90, [11], [], -2147483648), (91, [11], [], 2147483647), (90, [12], [], -2147483648), (91, [12], [], 2147483647), (90, [13], [], 0), (91, [13], [], 8)], (70, [19], [], 160))
theorem c_306v_6_1 {q0 : Nat} : vOkm T0 (eP e_306v L_306v A_306v mu_306v (some q0)) 6 g_306v_6_1 := vOk_inI fun ρ η f0 f1 f2 f3 f4 f5 f6 f7 f8 f9 f10 f11 f12 f13 f14 f15 f16 f17 f18 f19 f20 f21 f22 f23 f24 f25 f26 f27 f28 f29 f30 f31 f32 f33 f34 f35 => q_306v_2 (q0 := q0) (n0 := ρ 13) (n1 := ρ 12) (n2 := ρ 11) (n3 := ρ 10) (n4 := ρ 9) (n5 := ρ 8) (n6 := ρ 7) (n7 := ρ 6) (n8 := ρ 5) (n9 := ρ 4) (n10 := ρ 3) (n11 := ρ 2) (n12 := ρ 1) (n13 := ρ 0) (n14 := ρ 14) (n15 := ρ 15) (n16 := ρ 17) (n17 := ρ 18) (n18 := ρ 19) (H0 := η 0) (H1 := η 1) f35 f34 f33 f32 f31 f30 f29 f28 f27 f26 f25 f24 f23 f22 f21 f20 f19 f18 f17 f16 f15 f14 f13 f12 f11 f10 f9 f8 f7 f6 f5 f4 f3 f2 f1 f0
theorem q_306v_3 {q0 : Nat} {n0 n1 n2 n3 n4 n5 n6 n7 n8 n9 n10 n11 n12 n13 n14 n15 n16 n17 n18 n19 n20 n21 n22 n23 n24 : Int} {H0 H1 : gH} (f0 : n0 ≤ 8) (f1 : 0 ≤ n0) (f2 : n1 ≤ 2147483647) (f3 : (-2147483648) ≤ n1) (f4 : n2 ≤ 2147483647) (f5 : (-2147483648) ≤ n2) (f6 : n3 ≤ 2147483647) (f7 : (-2147483648) ≤ n3) (f8 : n4 ≤ 2147483647) (f9 : (-2147483648) ≤ n4) (f10 : n5 ≤ 19) (f11 : 0 ≤ n5) (f12 : n6 ≤ 19) (f13 : 0 ≤ n6) (f14 : n7 = 285) (f15 : n8 ≤ 2147483647) (f16 : (-2147483648) ≤ n8) (f17 : n9 ≤ 2147483647) (f18 : (-2147483648) ≤ n9) (f19 : n10 ≤ 2147483647) (f20 : (-2147483648) ≤ n10) (f21 : n11 ≤ 19) (f22 : 0 ≤ n11) (f23 : n12 ≤ 19) (f24 : 0 ≤ n12) (f25 : n13 = 285) (f26 : (hLe T0 H0 H1 ∧ hFr s_306v.2.2.2.2 H0 H1 ∧ hWt T0 H1) ∧ (Ab_306v_6 n13 n12 n11 n10 n9 n8 n7 n6 n5 n4 n3 n2 n1 n0 H0 H1 ∧ preb_306v n13 n12 n11 n10 n9 n8 H0) ∧ some q0 = some (mub_306v_6 n13 n12 n11 n10 n9 n8 n7 n6 n5 n4 n3 n2 n1 n0 H0 H1)) (f27 : n14 = 338) (f28 : n14 = hV H1 (n7).toNat 76) (f29 : n15 ≤ 8) (f30 : 0 ≤ n15) (f31 : n15 = hV H1 (n14).toNat (n6).toNat) (f32 : n0 < n15) (f33 : n16 = 339) (f34 : n16 = hV H1 (n7).toNat 77) (f35 : n17 = 8) (f36 : n18 = w32 (n17 * n6)) (f37 : n19 = w32 (n18 + n0)) (f38 : n20 ≤ 59) (f39 : 0 ≤ n20) (f40 : n20 = hV H1 (n16).toNat (n19).toNat) (f41 : n21 = w32 (n20 * n2)) (f42 : n22 = 10) (f43 : n23 = o32 (fun x y => x / y) n21 n22) (f44 : n24 = w32 (n3 + n23)) : n0 ≤ 7 := by
  have g4 := f26.2.1.1
  unfold Ab_306v_6 at g4
  have g3 := f26.2.1.2
  unfold preb_306v at g3
  have e1 : n15 = hV H0 338 (n6).toNat := (by rw [f27] at f31; exact f31 : n15 = hV H1 338 (n6).toNat).trans ((congrFun (fRow f26.1.2.1 338 kR_306v_338) _))
  have e3 : n20 = hV H0 339 (n19).toNat := (by rw [f33] at f40; exact f40 : n20 = hV H1 339 (n19).toNat).trans ((congrFun (fRow f26.1.2.1 339 kR_306v_339) _))
  have k0 := g4.1
  have k1 := g4.2.1
  have k2 := g4.2.2.1
  have k3 := g4.2.2.2.1
  have k4 := g4.2.2.2.2.1
  have y0 := g4.2.2.2.2.2.1
  have y1 := g4.2.2.2.2.2.2
  have p0 := g3.1
  have p1 := g3.2.1
  have p2 := g3.2.2.1
  have p3 := g3.2.2.2.1
  have p4 := g3.2.2.2.2.1
  have p5 := g3.2.2.2.2.2
  clear g3
  clear g4
  clear f28 f31 f34 f40
  clear f26
  subst e1
  subst e3
  try rw [f42] at b43
  rw [f35] at f36
  first
  | (have ix0 : n18 = 8 * n6 := Eq.trans f36 (w32_iv (Iml 8 rfl (Iat f13 f12)) (by decide)); subst ix0; clear f36)
  | (have ix0 : n18 = 8 * n6 := Eq.trans f36 (w32_id (by omega) (by omega)); subst ix0; clear f36)
  | (unfold w32 at f36; have ix0 : n18 = 8 * n6 := (by omega); subst ix0)
  | skip
  first
  | (have ix1 : n19 = (8 * n6) + n0 := Eq.trans f37 (w32_iv (Iad (Iml 8 rfl (Iat f13 f12)) (Iat f1 f0)) (by decide)); subst ix1; clear f37)
  | (have ix1 : n19 = (8 * n6) + n0 := Eq.trans f37 (w32_id (by omega) (by omega)); subst ix1; clear f37)
  | (unfold w32 at f37; have ix1 : n19 = (8 * n6) + n0 := (by omega); subst ix1)
  | skip
  try unfold w32 at f36
  try unfold w32 at f37
  try unfold w32 at f41
  try unfold w32 at f44
  try subst k4
  try subst k3
  try subst k2
  try subst k1
  try subst k0
  subst y0
  omega
def g_306v_6_2 : vG := ([(1, [24, 10, 23], [], 0), (11, [23, 21, 22], [], 0), (0, [22], [], 10), (3, [21, 20, 11], [], 0), (22, [20, 16, 19], [1], 0), (90, [20], [], 0), (91, [20], [], 59), (1, [19, 18, 13], [], 0), (3, [18, 17, 7], [], 0), (0, [17], [], 8), (20, [16, 6], [1], 77), (0, [16], [], 339), (42, [13, 15], [], 0), (22, [15, 14, 7], [1], 0), (90, [15], [], 0), (91, [15], [], 8), (20, [14, 6], [1], 76), (0, [14], [], 338), (5000, [0, 1, 2, 3, 4, 5, 6, 7, 8, 9, 10, 11, 12, 13], [0, 1], 6), (0, [0], [], 285), (90, [1], [], 0), (91, [1], [], 19), (90, [2], [], 0), (91, [2], [], 19), (90, [3], [], -2147483648), (91, [3], [], 2147483647), (90, [4], [], -2147483648), (91, [4], [], 2147483647), (90, [5], [], -2147483648), (91, [5], [], 2147483647), (0, [6], [], 285), (90, [7], [], 0), (91, [7], [], 19), (90, [8], [], 0), (91, [8], [], 19), (90, [9], [], -2147483648), (91, [9], [], 2147483647), (90, [10], [], -2147483648), (91, [10], [], 2147483647), (90, [11], [], -2147483648), (91, [11], [], 2147483647), (90, [12], [], -2147483648), (91, [12], [], 2147483647), (90, [13], [], 0), (91, [13], [], 8)], (91, [13], [], 7))
theorem c_306v_6_2 {q0 : Nat} : vOkm T0 (eP e_306v L_306v A_306v mu_306v (some q0)) 6 g_306v_6_2 := vOk_inI fun ρ η f0 f1 f2 f3 f4 f5 f6 f7 f8 f9 f10 f11 f12 f13 f14 f15 f16 f17 f18 f19 f20 f21 f22 f23 f24 f25 f26 f27 f28 f29 f30 f31 f32 f33 f34 f35 f36 f37 f38 f39 f40 f41 f42 f43 f44 => q_306v_3 (q0 := q0) (n0 := ρ 13) (n1 := ρ 12) (n2 := ρ 11) (n3 := ρ 10) (n4 := ρ 9) (n5 := ρ 8) (n6 := ρ 7) (n7 := ρ 6) (n8 := ρ 5) (n9 := ρ 4) (n10 := ρ 3) (n11 := ρ 2) (n12 := ρ 1) (n13 := ρ 0) (n14 := ρ 14) (n15 := ρ 15) (n16 := ρ 16) (n17 := ρ 17) (n18 := ρ 18) (n19 := ρ 19) (n20 := ρ 20) (n21 := ρ 21) (n22 := ρ 22) (n23 := ρ 23) (n24 := ρ 24) (H0 := η 0) (H1 := η 1) f44 f43 f42 f41 f40 f39 f38 f37 f36 f35 f34 f33 f32 f31 f30 f29 f28 f27 f26 f25 f24 f23 f22 f21 f20 f19 f18 f17 f16 f15 f14 f13 f12 f11 f10 f9 f8 f7 f6 f5 f4 f3 f2 f1 f0
theorem q_306v_4 {q0 : Nat} {n0 n1 n2 n3 n4 n5 n6 n7 n8 n9 n10 n11 n12 n13 n14 n15 n16 n17 n18 n19 n20 n21 n22 n23 n24 n25 n26 : Int} {H0 H1 : gH} (f0 : n0 ≤ 8) (f1 : 0 ≤ n0) (f2 : n1 ≤ 2147483647) (f3 : (-2147483648) ≤ n1) (f4 : n2 ≤ 2147483647) (f5 : (-2147483648) ≤ n2) (f6 : n3 ≤ 2147483647) (f7 : (-2147483648) ≤ n3) (f8 : n4 ≤ 2147483647) (f9 : (-2147483648) ≤ n4) (f10 : n5 ≤ 19) (f11 : 0 ≤ n5) (f12 : n6 ≤ 19) (f13 : 0 ≤ n6) (f14 : n7 = 285) (f15 : n8 ≤ 2147483647) (f16 : (-2147483648) ≤ n8) (f17 : n9 ≤ 2147483647) (f18 : (-2147483648) ≤ n9) (f19 : n10 ≤ 2147483647) (f20 : (-2147483648) ≤ n10) (f21 : n11 ≤ 19) (f22 : 0 ≤ n11) (f23 : n12 ≤ 19) (f24 : 0 ≤ n12) (f25 : n13 = 285) (f26 : (hLe T0 H0 H1 ∧ hFr s_306v.2.2.2.2 H0 H1 ∧ hWt T0 H1) ∧ (Ab_306v_6 n13 n12 n11 n10 n9 n8 n7 n6 n5 n4 n3 n2 n1 n0 H0 H1 ∧ preb_306v n13 n12 n11 n10 n9 n8 H0) ∧ some q0 = some (mub_306v_6 n13 n12 n11 n10 n9 n8 n7 n6 n5 n4 n3 n2 n1 n0 H0 H1)) (f27 : n14 = 338) (f28 : n14 = hV H1 (n7).toNat 76) (f29 : n15 ≤ 8) (f30 : 0 ≤ n15) (f31 : n15 = hV H1 (n14).toNat (n6).toNat) (f32 : n0 < n15) (f33 : n16 = 339) (f34 : n16 = hV H1 (n7).toNat 77) (f35 : n17 = 8) (f36 : n18 = w32 (n17 * n6)) (f37 : n19 = w32 (n18 + n0)) (f38 : n20 ≤ 59) (f39 : 0 ≤ n20) (f40 : n20 = hV H1 (n16).toNat (n19).toNat) (f41 : n21 = w32 (n20 * n2)) (f42 : n22 = 10) (f43 : n23 = o32 (fun x y => x / y) n21 n22) (f44 : n24 = w32 (n3 + n23)) (f45 : n25 = 0) (f46 : n26 = 0) : Ab_306v_46 n13 n12 n11 n10 n9 n8 n7 n6 n5 n4 n3 n2 n1 n0 n24 n25 n26 H0 H1 ∧ ∀ q, some q0 = some q → mub_306v_46 n13 n12 n11 n10 n9 n8 n7 n6 n5 n4 n3 n2 n1 n0 n24 n25 n26 H0 H1 < q := by
  have ga := f26.2.1.1
  unfold Ab_306v_6 at ga
  obtain ⟨k0_, k1_, k2_, k3_, k4_, y0, y1⟩ := ga
  have pz := f26.2.1.2
  unfold preb_306v at pz
  have fa := fRow f26.1.2.1 339 kR_306v_339
  have fn := fRow f26.1.2.1 338 kR_306v_338
  have rn0 := f31
  rw [f27] at rn0
  rw [show ((338 : Int)).toNat = 338 from rfl] at rn0
  rw [fn] at rn0
  try rw [show n6 = n12 from k0_] at rn0
  try rw [show n5 = n11 from k1_] at rn0
  have ra := f40
  rw [f33] at ra
  rw [show ((339 : Int)).toNat = 339 from rfl] at ra
  rw [fa] at ra
  have u36 := f36
  rw [f35] at u36
  unfold w32 at u36
  have u37 := f37
  unfold w32 at u37
  have u41 := f41
  unfold w32 at u41
  have u44 := f44
  unfold w32 at u44
  have ri : (n19).toNat = 8 * (n12).toNat + (n0).toNat := by omega
  rw [ri] at ra
  have wa : (0 : Int) ≤ hV H0 339 (8 * (n12).toNat + (n0).toNat) ∧ hV H0 339 (8 * (n12).toNat + (n0).toNat) ≤ 59 := by omega
  have hm : n21 = n20 * n8 ∧ 0 ≤ n21 ∧ n21 ≤ 649 := by
    have z := f41
    rw [show n2 = n8 from k4_] at z
    rcases (show n8 = 9 ∨ n8 = 10 ∨ n8 = 11 by omega) with t | t | t <;> rw [t] at z ⊢ <;> rw [w32_id (by omega) (by omega)] at z <;> omega
  have hd : n23 = n20 * n8 / 10 := by
    have z := f43
    rw [f42] at z
    rw [o32_div_pos z (by omega) (by omega) (by omega) (by omega), hm.1]
  have g5 := Option.some.inj f26.2.2
  unfold mub_306v_6 at g5
  unfold Ab_306v_46 mub_306v_46
  refine ⟨⟨k0_, k1_, k2_, k3_, k4_, y0, by omega, ?_, ?_, by omega, by omega, by omega⟩, fun q hq => ?_⟩
  · (try dsimp only)
    rw [← ra, ← hd]
    omega
  · rw [show (n26).toNat = 0 by omega, mtB_zero]
    omega
  · have g6 := Option.some.inj hq
    subst g6
    omega
def g_306v_6_3 : vG := ([(0, [26], [], 0), (0, [25], [], 0), (1, [24, 10, 23], [], 0), (11, [23, 21, 22], [], 0), (0, [22], [], 10), (3, [21, 20, 11], [], 0), (22, [20, 16, 19], [1], 0), (90, [20], [], 0), (91, [20], [], 59), (1, [19, 18, 13], [], 0), (3, [18, 17, 7], [], 0), (0, [17], [], 8), (20, [16, 6], [1], 77), (0, [16], [], 339), (42, [13, 15], [], 0), (22, [15, 14, 7], [1], 0), (90, [15], [], 0), (91, [15], [], 8), (20, [14, 6], [1], 76), (0, [14], [], 338), (5000, [0, 1, 2, 3, 4, 5, 6, 7, 8, 9, 10, 11, 12, 13], [0, 1], 6), (0, [0], [], 285), (90, [1], [], 0), (91, [1], [], 19), (90, [2], [], 0), (91, [2], [], 19), (90, [3], [], -2147483648), (91, [3], [], 2147483647), (90, [4], [], -2147483648), (91, [4], [], 2147483647), (90, [5], [], -2147483648), (91, [5], [], 2147483647), (0, [6], [], 285), (90, [7], [], 0), (91, [7], [], 19), (90, [8], [], 0), (91, [8], [], 19), (90, [9], [], -2147483648), (91, [9], [], 2147483647), (90, [10], [], -2147483648), (91, [10], [], 2147483647), (90, [11], [], -2147483648), (91, [11], [], 2147483647), (90, [12], [], -2147483648), (91, [12], [], 2147483647), (90, [13], [], 0), (91, [13], [], 8)], (4000, [6, 7, 8, 9, 10, 11, 12, 13, 24, 25, 26], [1], 46))
theorem c_306v_6_3 {q0 : Nat} : vOkm T0 (eP e_306v L_306v A_306v mu_306v (some q0)) 6 g_306v_6_3 := vOk_inI fun ρ η f0 f1 f2 f3 f4 f5 f6 f7 f8 f9 f10 f11 f12 f13 f14 f15 f16 f17 f18 f19 f20 f21 f22 f23 f24 f25 f26 f27 f28 f29 f30 f31 f32 f33 f34 f35 f36 f37 f38 f39 f40 f41 f42 f43 f44 f45 f46 => q_306v_4 (q0 := q0) (n0 := ρ 13) (n1 := ρ 12) (n2 := ρ 11) (n3 := ρ 10) (n4 := ρ 9) (n5 := ρ 8) (n6 := ρ 7) (n7 := ρ 6) (n8 := ρ 5) (n9 := ρ 4) (n10 := ρ 3) (n11 := ρ 2) (n12 := ρ 1) (n13 := ρ 0) (n14 := ρ 14) (n15 := ρ 15) (n16 := ρ 16) (n17 := ρ 17) (n18 := ρ 18) (n19 := ρ 19) (n20 := ρ 20) (n21 := ρ 21) (n22 := ρ 22) (n23 := ρ 23) (n24 := ρ 24) (n25 := ρ 25) (n26 := ρ 26) (H0 := η 0) (H1 := η 1) f46 f45 f44 f43 f42 f41 f40 f39 f38 f37 f36 f35 f34 f33 f32 f31 f30 f29 f28 f27 f26 f25 f24 f23 f22 f21 f20 f19 f18 f17 f16 f15 f14 f13 f12 f11 f10 f9 f8 f7 f6 f5 f4 f3 f2 f1 f0
def p_306v_6 : List vG := [g_306v_6_0,
  g_306v_6_1,
  g_306v_6_2,
  g_306v_6_3]
theorem r_306v_6 : vCovO false (eRc e_306v L_306v cs_306v 2000 (6, [(0, (3, 12, 285, 0)), (1, (0, 0, 19, 0)), (2, (0, 0, 19, 0)), (3, (0, -2147483648, 2147483647, 0)), (4, (0, -2147483648, 2147483647, 0)), (5, (0, -2147483648, 2147483647, 0)), (6, (0, -2147483648, 2147483647, 0)), (7, (0, 0, 8, 0))])) p_306v_6 = true := by decide +kernel
theorem q_306v_5 {q0 : Nat} {n0 n1 n2 n3 n4 n5 n6 n7 n8 n9 n10 n11 n12 n13 n14 n15 n16 n17 n18 n19 : Int} {H0 H1 : gH} (f0 : n0 ≤ 8) (f1 : 0 ≤ n0) (f2 : n1 ≤ 2147483647) (f3 : (-2147483648) ≤ n1) (f4 : n2 ≤ 2147483647) (f5 : (-2147483648) ≤ n2) (f6 : n3 ≤ 7) (f7 : 0 ≤ n3) (f8 : n4 ≤ 2147483647) (f9 : (-2147483648) ≤ n4) (f10 : n5 ≤ 2147483647) (f11 : (-2147483648) ≤ n5) (f12 : n6 ≤ 2147483647) (f13 : (-2147483648) ≤ n6) (f14 : n7 ≤ 2147483647) (f15 : (-2147483648) ≤ n7) (f16 : n8 ≤ 19) (f17 : 0 ≤ n8) (f18 : n9 ≤ 19) (f19 : 0 ≤ n9) (f20 : n10 = 285) (f21 : n11 ≤ 2147483647) (f22 : (-2147483648) ≤ n11) (f23 : n12 ≤ 2147483647) (f24 : (-2147483648) ≤ n12) (f25 : n13 ≤ 2147483647) (f26 : (-2147483648) ≤ n13) (f27 : n14 ≤ 19) (f28 : 0 ≤ n14) (f29 : n15 ≤ 19) (f30 : 0 ≤ n15) (f31 : n16 = 285) (f32 : (hLe T0 H0 H1 ∧ hFr s_306v.2.2.2.2 H0 H1 ∧ hWt T0 H1) ∧ (Ab_306v_46 n16 n15 n14 n13 n12 n11 n10 n9 n8 n7 n6 n5 n4 n3 n2 n1 n0 H0 H1 ∧ preb_306v n16 n15 n14 n13 n12 n11 H0) ∧ some q0 = some (mub_306v_46 n16 n15 n14 n13 n12 n11 n10 n9 n8 n7 n6 n5 n4 n3 n2 n1 n0 H0 H1)) (f33 : n17 = 338) (f34 : n17 = hV H1 (n10).toNat 76) (f35 : n18 ≤ 8) (f36 : 0 ≤ n18) (f37 : n18 = hV H1 (n17).toNat (n8).toNat) (f38 : n18 ≤ n0) (f39 : n1 ≠ 0) (f40 : n19 = w32 (n3 + 1)) : 0 ≤ n19 := by
  have g4 := f32.2.1.1
  unfold Ab_306v_46 at g4
  have g3 := f32.2.1.2
  unfold preb_306v at g3
  have e1 : n18 = hV H0 338 (n8).toNat := (by rw [f33] at f37; exact f37 : n18 = hV H1 338 (n8).toNat).trans ((congrFun (fRow f32.1.2.1 338 kR_306v_338) _))
  have k0 := g4.1
  have k1 := g4.2.1
  have k2 := g4.2.2.1
  have k3 := g4.2.2.2.1
  have k4 := g4.2.2.2.2.1
  have y0 := g4.2.2.2.2.2.1
  have y1 := g4.2.2.2.2.2.2.1
  have y2 := g4.2.2.2.2.2.2.2.1
  have y3 := g4.2.2.2.2.2.2.2.2.1
  have y4 := g4.2.2.2.2.2.2.2.2.2.1
  have y5 := g4.2.2.2.2.2.2.2.2.2.2.1
  have y6 := g4.2.2.2.2.2.2.2.2.2.2.2
  have p0 := g3.1
  have p1 := g3.2.1
  have p2 := g3.2.2.1
  have p3 := g3.2.2.2.1
  have p4 := g3.2.2.2.2.1
  have p5 := g3.2.2.2.2.2
  clear g3
  clear g4
  clear f34 f37
  clear f32
  subst e1
  first
  | (have ix0 : n19 = n3 + 1 := Eq.trans f40 (w32_iv (Iad (Iat f7 f6) (IC 1)) (by decide)); subst ix0; clear f40)
  | (have ix0 : n19 = n3 + 1 := Eq.trans f40 (w32_id (by omega) (by omega)); subst ix0; clear f40)
  | (unfold w32 at f40; have ix0 : n19 = n3 + 1 := (by omega); subst ix0)
  | skip
  try unfold w32 at f40
  try subst k4
  try subst k3
  try subst k2
  try subst k1
  try subst k0
  subst y0
  subst y2
  subst y3
  omega
def g_306v_46_0 : vG := ([(10, [19, 13], [], 1), (31, [15], [], 0), (43, [16, 18], [], 0), (22, [18, 17, 8], [1], 0), (90, [18], [], 0), (91, [18], [], 8), (20, [17, 6], [1], 76), (0, [17], [], 338), (5000, [0, 1, 2, 3, 4, 5, 6, 7, 8, 9, 10, 11, 12, 13, 14, 15, 16], [0, 1], 46), (0, [0], [], 285), (90, [1], [], 0), (91, [1], [], 19), (90, [2], [], 0), (91, [2], [], 19), (90, [3], [], -2147483648), (91, [3], [], 2147483647), (90, [4], [], -2147483648), (91, [4], [], 2147483647), (90, [5], [], -2147483648), (91, [5], [], 2147483647), (0, [6], [], 285), (90, [7], [], 0), (91, [7], [], 19), (90, [8], [], 0), (91, [8], [], 19), (90, [9], [], -2147483648), (91, [9], [], 2147483647), (90, [10], [], -2147483648), (91, [10], [], 2147483647), (90, [11], [], -2147483648), (91, [11], [], 2147483647), (90, [12], [], -2147483648), (91, [12], [], 2147483647), (90, [13], [], 0), (91, [13], [], 7), (90, [14], [], -2147483648), (91, [14], [], 2147483647), (90, [15], [], -2147483648), (91, [15], [], 2147483647), (90, [16], [], 0), (91, [16], [], 8)], (90, [19], [], 0))
theorem c_306v_46_0 {q0 : Nat} : vOkm T0 (eP e_306v L_306v A_306v mu_306v (some q0)) 6 g_306v_46_0 := vOk_inI fun ρ η f0 f1 f2 f3 f4 f5 f6 f7 f8 f9 f10 f11 f12 f13 f14 f15 f16 f17 f18 f19 f20 f21 f22 f23 f24 f25 f26 f27 f28 f29 f30 f31 f32 f33 f34 f35 f36 f37 f38 f39 f40 => q_306v_5 (q0 := q0) (n0 := ρ 16) (n1 := ρ 15) (n2 := ρ 14) (n3 := ρ 13) (n4 := ρ 12) (n5 := ρ 11) (n6 := ρ 10) (n7 := ρ 9) (n8 := ρ 8) (n9 := ρ 7) (n10 := ρ 6) (n11 := ρ 5) (n12 := ρ 4) (n13 := ρ 3) (n14 := ρ 2) (n15 := ρ 1) (n16 := ρ 0) (n17 := ρ 17) (n18 := ρ 18) (n19 := ρ 19) (H0 := η 0) (H1 := η 1) f40 f39 f38 f37 f36 f35 f34 f33 f32 f31 f30 f29 f28 f27 f26 f25 f24 f23 f22 f21 f20 f19 f18 f17 f16 f15 f14 f13 f12 f11 f10 f9 f8 f7 f6 f5 f4 f3 f2 f1 f0
theorem q_306v_6 {q0 : Nat} {n0 n1 n2 n3 n4 n5 n6 n7 n8 n9 n10 n11 n12 n13 n14 n15 n16 n17 n18 n19 : Int} {H0 H1 : gH} (f0 : n0 ≤ 8) (f1 : 0 ≤ n0) (f2 : n1 ≤ 2147483647) (f3 : (-2147483648) ≤ n1) (f4 : n2 ≤ 2147483647) (f5 : (-2147483648) ≤ n2) (f6 : n3 ≤ 7) (f7 : 0 ≤ n3) (f8 : n4 ≤ 2147483647) (f9 : (-2147483648) ≤ n4) (f10 : n5 ≤ 2147483647) (f11 : (-2147483648) ≤ n5) (f12 : n6 ≤ 2147483647) (f13 : (-2147483648) ≤ n6) (f14 : n7 ≤ 2147483647) (f15 : (-2147483648) ≤ n7) (f16 : n8 ≤ 19) (f17 : 0 ≤ n8) (f18 : n9 ≤ 19) (f19 : 0 ≤ n9) (f20 : n10 = 285) (f21 : n11 ≤ 2147483647) (f22 : (-2147483648) ≤ n11) (f23 : n12 ≤ 2147483647) (f24 : (-2147483648) ≤ n12) (f25 : n13 ≤ 2147483647) (f26 : (-2147483648) ≤ n13) (f27 : n14 ≤ 19) (f28 : 0 ≤ n14) (f29 : n15 ≤ 19) (f30 : 0 ≤ n15) (f31 : n16 = 285) (f32 : (hLe T0 H0 H1 ∧ hFr s_306v.2.2.2.2 H0 H1 ∧ hWt T0 H1) ∧ (Ab_306v_46 n16 n15 n14 n13 n12 n11 n10 n9 n8 n7 n6 n5 n4 n3 n2 n1 n0 H0 H1 ∧ preb_306v n16 n15 n14 n13 n12 n11 H0) ∧ some q0 = some (mub_306v_46 n16 n15 n14 n13 n12 n11 n10 n9 n8 n7 n6 n5 n4 n3 n2 n1 n0 H0 H1)) (f33 : n17 = 338) (f34 : n17 = hV H1 (n10).toNat 76) (f35 : n18 ≤ 8) (f36 : 0 ≤ n18) (f37 : n18 = hV H1 (n17).toNat (n8).toNat) (f38 : n18 ≤ n0) (f39 : n1 ≠ 0) (f40 : n19 = w32 (n3 + 1)) : n19 ≤ 8 := by
  have g4 := f32.2.1.1
  unfold Ab_306v_46 at g4
  have g3 := f32.2.1.2
  unfold preb_306v at g3
  have e1 : n18 = hV H0 338 (n8).toNat := (by rw [f33] at f37; exact f37 : n18 = hV H1 338 (n8).toNat).trans ((congrFun (fRow f32.1.2.1 338 kR_306v_338) _))
  have k0 := g4.1
  have k1 := g4.2.1
  have k2 := g4.2.2.1
  have k3 := g4.2.2.2.1
  have k4 := g4.2.2.2.2.1
  have y0 := g4.2.2.2.2.2.1
  have y1 := g4.2.2.2.2.2.2.1
  have y2 := g4.2.2.2.2.2.2.2.1
  have y3 := g4.2.2.2.2.2.2.2.2.1
  have y4 := g4.2.2.2.2.2.2.2.2.2.1
  have y5 := g4.2.2.2.2.2.2.2.2.2.2.1
  have y6 := g4.2.2.2.2.2.2.2.2.2.2.2
  have p0 := g3.1
  have p1 := g3.2.1
  have p2 := g3.2.2.1
  have p3 := g3.2.2.2.1
  have p4 := g3.2.2.2.2.1
  have p5 := g3.2.2.2.2.2
  clear g3
  clear g4
  clear f34 f37
  clear f32
  subst e1
  first
  | (have ix0 : n19 = n3 + 1 := Eq.trans f40 (w32_iv (Iad (Iat f7 f6) (IC 1)) (by decide)); subst ix0; clear f40)
  | (have ix0 : n19 = n3 + 1 := Eq.trans f40 (w32_id (by omega) (by omega)); subst ix0; clear f40)
  | (unfold w32 at f40; have ix0 : n19 = n3 + 1 := (by omega); subst ix0)
  | skip
  try unfold w32 at f40
  try subst k4
  try subst k3
  try subst k2
  try subst k1
  try subst k0
  subst y0
  subst y2
  subst y3
  omega
def g_306v_46_1 : vG := ([(10, [19, 13], [], 1), (31, [15], [], 0), (43, [16, 18], [], 0), (22, [18, 17, 8], [1], 0), (90, [18], [], 0), (91, [18], [], 8), (20, [17, 6], [1], 76), (0, [17], [], 338), (5000, [0, 1, 2, 3, 4, 5, 6, 7, 8, 9, 10, 11, 12, 13, 14, 15, 16], [0, 1], 46), (0, [0], [], 285), (90, [1], [], 0), (91, [1], [], 19), (90, [2], [], 0), (91, [2], [], 19), (90, [3], [], -2147483648), (91, [3], [], 2147483647), (90, [4], [], -2147483648), (91, [4], [], 2147483647), (90, [5], [], -2147483648), (91, [5], [], 2147483647), (0, [6], [], 285), (90, [7], [], 0), (91, [7], [], 19), (90, [8], [], 0), (91, [8], [], 19), (90, [9], [], -2147483648), (91, [9], [], 2147483647), (90, [10], [], -2147483648), (91, [10], [], 2147483647), (90, [11], [], -2147483648), (91, [11], [], 2147483647), (90, [12], [], -2147483648), (91, [12], [], 2147483647), (90, [13], [], 0), (91, [13], [], 7), (90, [14], [], -2147483648), (91, [14], [], 2147483647), (90, [15], [], -2147483648), (91, [15], [], 2147483647), (90, [16], [], 0), (91, [16], [], 8)], (91, [19], [], 8))
theorem c_306v_46_1 {q0 : Nat} : vOkm T0 (eP e_306v L_306v A_306v mu_306v (some q0)) 6 g_306v_46_1 := vOk_inI fun ρ η f0 f1 f2 f3 f4 f5 f6 f7 f8 f9 f10 f11 f12 f13 f14 f15 f16 f17 f18 f19 f20 f21 f22 f23 f24 f25 f26 f27 f28 f29 f30 f31 f32 f33 f34 f35 f36 f37 f38 f39 f40 => q_306v_6 (q0 := q0) (n0 := ρ 16) (n1 := ρ 15) (n2 := ρ 14) (n3 := ρ 13) (n4 := ρ 12) (n5 := ρ 11) (n6 := ρ 10) (n7 := ρ 9) (n8 := ρ 8) (n9 := ρ 7) (n10 := ρ 6) (n11 := ρ 5) (n12 := ρ 4) (n13 := ρ 3) (n14 := ρ 2) (n15 := ρ 1) (n16 := ρ 0) (n17 := ρ 17) (n18 := ρ 18) (n19 := ρ 19) (H0 := η 0) (H1 := η 1) f40 f39 f38 f37 f36 f35 f34 f33 f32 f31 f30 f29 f28 f27 f26 f25 f24 f23 f22 f21 f20 f19 f18 f17 f16 f15 f14 f13 f12 f11 f10 f9 f8 f7 f6 f5 f4 f3 f2 f1 f0
theorem q_306v_7 {q0 : Nat} {n0 n1 n2 n3 n4 n5 n6 n7 n8 n9 n10 n11 n12 n13 n14 n15 n16 n17 n18 n19 : Int} {H0 H1 : gH} (f0 : n0 ≤ 8) (f1 : 0 ≤ n0) (f2 : n1 ≤ 2147483647) (f3 : (-2147483648) ≤ n1) (f4 : n2 ≤ 2147483647) (f5 : (-2147483648) ≤ n2) (f6 : n3 ≤ 7) (f7 : 0 ≤ n3) (f8 : n4 ≤ 2147483647) (f9 : (-2147483648) ≤ n4) (f10 : n5 ≤ 2147483647) (f11 : (-2147483648) ≤ n5) (f12 : n6 ≤ 2147483647) (f13 : (-2147483648) ≤ n6) (f14 : n7 ≤ 2147483647) (f15 : (-2147483648) ≤ n7) (f16 : n8 ≤ 19) (f17 : 0 ≤ n8) (f18 : n9 ≤ 19) (f19 : 0 ≤ n9) (f20 : n10 = 285) (f21 : n11 ≤ 2147483647) (f22 : (-2147483648) ≤ n11) (f23 : n12 ≤ 2147483647) (f24 : (-2147483648) ≤ n12) (f25 : n13 ≤ 2147483647) (f26 : (-2147483648) ≤ n13) (f27 : n14 ≤ 19) (f28 : 0 ≤ n14) (f29 : n15 ≤ 19) (f30 : 0 ≤ n15) (f31 : n16 = 285) (f32 : (hLe T0 H0 H1 ∧ hFr s_306v.2.2.2.2 H0 H1 ∧ hWt T0 H1) ∧ (Ab_306v_46 n16 n15 n14 n13 n12 n11 n10 n9 n8 n7 n6 n5 n4 n3 n2 n1 n0 H0 H1 ∧ preb_306v n16 n15 n14 n13 n12 n11 H0) ∧ some q0 = some (mub_306v_46 n16 n15 n14 n13 n12 n11 n10 n9 n8 n7 n6 n5 n4 n3 n2 n1 n0 H0 H1)) (f33 : n17 = 338) (f34 : n17 = hV H1 (n10).toNat 76) (f35 : n18 ≤ 8) (f36 : 0 ≤ n18) (f37 : n18 = hV H1 (n17).toNat (n8).toNat) (f38 : n18 ≤ n0) (f39 : n1 ≠ 0) (f40 : n19 = w32 (n3 + 1)) : Ab_306v_6 n16 n15 n14 n13 n12 n11 n10 n9 n8 n7 n6 n5 n4 n19 H0 H1 ∧ ∀ q, some q0 = some q → mub_306v_6 n16 n15 n14 n13 n12 n11 n10 n9 n8 n7 n6 n5 n4 n19 H0 H1 < q := by
  have ga := f32.2.1.1
  unfold Ab_306v_46 at ga
  obtain ⟨k0_, k1_, k2_, k3_, k4_, y0, y1, y2, y3, y4, y5, y6⟩ := ga
  have pz := f32.2.1.2
  unfold preb_306v at pz
  have fa := fRow f32.1.2.1 339 kR_306v_339
  have fn := fRow f32.1.2.1 338 kR_306v_338
  have rn0 := f37
  rw [f33] at rn0
  rw [show ((338 : Int)).toNat = 338 from rfl] at rn0
  rw [fn] at rn0
  try rw [show n9 = n15 from k0_] at rn0
  try rw [show n8 = n14 from k1_] at rn0
  have u40 := f40
  unfold w32 at u40
  rw [show (n0).toNat = (hV H0 338 (n14).toNat).toNat by omega] at y3
  have lb : 0 ≤ n4 ∧ n4 ≤ ((n3).toNat : Int) := by
    rw [y0]
    exact lkB_in _
  have g5 := Option.some.inj f32.2.2
  unfold mub_306v_46 at g5
  unfold Ab_306v_6 mub_306v_6
  refine ⟨⟨k0_, k1_, k2_, k3_, k4_, ?_, by omega⟩, fun q hq => ?_⟩
  · rw [show (n19).toNat = (n3).toNat + 1 by omega, lkB_step, ← y0]
    (try dsimp only)
    rw [← y2, ← y3, if_neg (by omega)]
    omega
  · have g6 := Option.some.inj hq
    subst g6
    omega
def g_306v_46_2 : vG := ([(10, [19, 13], [], 1), (31, [15], [], 0), (43, [16, 18], [], 0), (22, [18, 17, 8], [1], 0), (90, [18], [], 0), (91, [18], [], 8), (20, [17, 6], [1], 76), (0, [17], [], 338), (5000, [0, 1, 2, 3, 4, 5, 6, 7, 8, 9, 10, 11, 12, 13, 14, 15, 16], [0, 1], 46), (0, [0], [], 285), (90, [1], [], 0), (91, [1], [], 19), (90, [2], [], 0), (91, [2], [], 19), (90, [3], [], -2147483648), (91, [3], [], 2147483647), (90, [4], [], -2147483648), (91, [4], [], 2147483647), (90, [5], [], -2147483648), (91, [5], [], 2147483647), (0, [6], [], 285), (90, [7], [], 0), (91, [7], [], 19), (90, [8], [], 0), (91, [8], [], 19), (90, [9], [], -2147483648), (91, [9], [], 2147483647), (90, [10], [], -2147483648), (91, [10], [], 2147483647), (90, [11], [], -2147483648), (91, [11], [], 2147483647), (90, [12], [], -2147483648), (91, [12], [], 2147483647), (90, [13], [], 0), (91, [13], [], 7), (90, [14], [], -2147483648), (91, [14], [], 2147483647), (90, [15], [], -2147483648), (91, [15], [], 2147483647), (90, [16], [], 0), (91, [16], [], 8)], (4000, [6, 7, 8, 9, 10, 11, 12, 19], [1], 6))
theorem c_306v_46_2 {q0 : Nat} : vOkm T0 (eP e_306v L_306v A_306v mu_306v (some q0)) 6 g_306v_46_2 := vOk_inI fun ρ η f0 f1 f2 f3 f4 f5 f6 f7 f8 f9 f10 f11 f12 f13 f14 f15 f16 f17 f18 f19 f20 f21 f22 f23 f24 f25 f26 f27 f28 f29 f30 f31 f32 f33 f34 f35 f36 f37 f38 f39 f40 => q_306v_7 (q0 := q0) (n0 := ρ 16) (n1 := ρ 15) (n2 := ρ 14) (n3 := ρ 13) (n4 := ρ 12) (n5 := ρ 11) (n6 := ρ 10) (n7 := ρ 9) (n8 := ρ 8) (n9 := ρ 7) (n10 := ρ 6) (n11 := ρ 5) (n12 := ρ 4) (n13 := ρ 3) (n14 := ρ 2) (n15 := ρ 1) (n16 := ρ 0) (n17 := ρ 17) (n18 := ρ 18) (n19 := ρ 19) (H0 := η 0) (H1 := η 1) f40 f39 f38 f37 f36 f35 f34 f33 f32 f31 f30 f29 f28 f27 f26 f25 f24 f23 f22 f21 f20 f19 f18 f17 f16 f15 f14 f13 f12 f11 f10 f9 f8 f7 f6 f5 f4 f3 f2 f1 f0
theorem q_306v_8 {q0 : Nat} {n0 n1 n2 n3 n4 n5 n6 n7 n8 n9 n10 n11 n12 n13 n14 n15 n16 n17 n18 n19 n20 : Int} {H0 H1 : gH} (f0 : n0 ≤ 8) (f1 : 0 ≤ n0) (f2 : n1 ≤ 2147483647) (f3 : (-2147483648) ≤ n1) (f4 : n2 ≤ 2147483647) (f5 : (-2147483648) ≤ n2) (f6 : n3 ≤ 7) (f7 : 0 ≤ n3) (f8 : n4 ≤ 2147483647) (f9 : (-2147483648) ≤ n4) (f10 : n5 ≤ 2147483647) (f11 : (-2147483648) ≤ n5) (f12 : n6 ≤ 2147483647) (f13 : (-2147483648) ≤ n6) (f14 : n7 ≤ 2147483647) (f15 : (-2147483648) ≤ n7) (f16 : n8 ≤ 19) (f17 : 0 ≤ n8) (f18 : n9 ≤ 19) (f19 : 0 ≤ n9) (f20 : n10 = 285) (f21 : n11 ≤ 2147483647) (f22 : (-2147483648) ≤ n11) (f23 : n12 ≤ 2147483647) (f24 : (-2147483648) ≤ n12) (f25 : n13 ≤ 2147483647) (f26 : (-2147483648) ≤ n13) (f27 : n14 ≤ 19) (f28 : 0 ≤ n14) (f29 : n15 ≤ 19) (f30 : 0 ≤ n15) (f31 : n16 = 285) (f32 : (hLe T0 H0 H1 ∧ hFr s_306v.2.2.2.2 H0 H1 ∧ hWt T0 H1) ∧ (Ab_306v_46 n16 n15 n14 n13 n12 n11 n10 n9 n8 n7 n6 n5 n4 n3 n2 n1 n0 H0 H1 ∧ preb_306v n16 n15 n14 n13 n12 n11 H0) ∧ some q0 = some (mub_306v_46 n16 n15 n14 n13 n12 n11 n10 n9 n8 n7 n6 n5 n4 n3 n2 n1 n0 H0 H1)) (f33 : n17 = 338) (f34 : n17 = hV H1 (n10).toNat 76) (f35 : n18 ≤ 8) (f36 : 0 ≤ n18) (f37 : n18 = hV H1 (n17).toNat (n8).toNat) (f38 : n18 ≤ n0) (f39 : n1 = 0) (f40 : n19 = w32 (n4 + 1)) (f41 : n20 = w32 (n3 + 1)) : 0 ≤ n20 := by
  have g4 := f32.2.1.1
  unfold Ab_306v_46 at g4
  have g3 := f32.2.1.2
  unfold preb_306v at g3
  have e1 : n18 = hV H0 338 (n8).toNat := (by rw [f33] at f37; exact f37 : n18 = hV H1 338 (n8).toNat).trans ((congrFun (fRow f32.1.2.1 338 kR_306v_338) _))
  have k0 := g4.1
  have k1 := g4.2.1
  have k2 := g4.2.2.1
  have k3 := g4.2.2.2.1
  have k4 := g4.2.2.2.2.1
  have y0 := g4.2.2.2.2.2.1
  have y1 := g4.2.2.2.2.2.2.1
  have y2 := g4.2.2.2.2.2.2.2.1
  have y3 := g4.2.2.2.2.2.2.2.2.1
  have y4 := g4.2.2.2.2.2.2.2.2.2.1
  have y5 := g4.2.2.2.2.2.2.2.2.2.2.1
  have y6 := g4.2.2.2.2.2.2.2.2.2.2.2
  have p0 := g3.1
  have p1 := g3.2.1
  have p2 := g3.2.2.1
  have p3 := g3.2.2.2.1
  have p4 := g3.2.2.2.2.1
  have p5 := g3.2.2.2.2.2
  clear g3
  clear g4
  clear f34 f37
  clear f32
  subst e1
  first
  | (have ix0 : n20 = n3 + 1 := Eq.trans f41 (w32_iv (Iad (Iat f7 f6) (IC 1)) (by decide)); subst ix0; clear f41)
  | (have ix0 : n20 = n3 + 1 := Eq.trans f41 (w32_id (by omega) (by omega)); subst ix0; clear f41)
  | (unfold w32 at f41; have ix0 : n20 = n3 + 1 := (by omega); subst ix0)
  | skip
  try unfold w32 at f40
  try unfold w32 at f41
  try subst k4
  try subst k3
  try subst k2
  try subst k1
  try subst k0
  subst y0
  subst y2
  subst y3
  omega
def g_306v_46_3 : vG := ([(10, [20, 13], [], 1), (10, [19, 12], [], 1), (30, [15], [], 0), (43, [16, 18], [], 0), (22, [18, 17, 8], [1], 0), (90, [18], [], 0), (91, [18], [], 8), (20, [17, 6], [1], 76), (0, [17], [], 338), (5000, [0, 1, 2, 3, 4, 5, 6, 7, 8, 9, 10, 11, 12, 13, 14, 15, 16], [0, 1], 46), (0, [0], [], 285), (90, [1], [], 0), (91, [1], [], 19), (90, [2], [], 0), (91, [2], [], 19), (90, [3], [], -2147483648), (91, [3], [], 2147483647), (90, [4], [], -2147483648), (91, [4], [], 2147483647), (90, [5], [], -2147483648), (91, [5], [], 2147483647), (0, [6], [], 285), (90, [7], [], 0), (91, [7], [], 19), (90, [8], [], 0), (91, [8], [], 19), (90, [9], [], -2147483648), (91, [9], [], 2147483647), (90, [10], [], -2147483648), (91, [10], [], 2147483647), (90, [11], [], -2147483648), (91, [11], [], 2147483647), (90, [12], [], -2147483648), (91, [12], [], 2147483647), (90, [13], [], 0), (91, [13], [], 7), (90, [14], [], -2147483648), (91, [14], [], 2147483647), (90, [15], [], -2147483648), (91, [15], [], 2147483647), (90, [16], [], 0), (91, [16], [], 8)], (90, [20], [], 0))
theorem c_306v_46_3 {q0 : Nat} : vOkm T0 (eP e_306v L_306v A_306v mu_306v (some q0)) 6 g_306v_46_3 := vOk_inI fun ρ η f0 f1 f2 f3 f4 f5 f6 f7 f8 f9 f10 f11 f12 f13 f14 f15 f16 f17 f18 f19 f20 f21 f22 f23 f24 f25 f26 f27 f28 f29 f30 f31 f32 f33 f34 f35 f36 f37 f38 f39 f40 f41 => q_306v_8 (q0 := q0) (n0 := ρ 16) (n1 := ρ 15) (n2 := ρ 14) (n3 := ρ 13) (n4 := ρ 12) (n5 := ρ 11) (n6 := ρ 10) (n7 := ρ 9) (n8 := ρ 8) (n9 := ρ 7) (n10 := ρ 6) (n11 := ρ 5) (n12 := ρ 4) (n13 := ρ 3) (n14 := ρ 2) (n15 := ρ 1) (n16 := ρ 0) (n17 := ρ 17) (n18 := ρ 18) (n19 := ρ 19) (n20 := ρ 20) (H0 := η 0) (H1 := η 1) f41 f40 f39 f38 f37 f36 f35 f34 f33 f32 f31 f30 f29 f28 f27 f26 f25 f24 f23 f22 f21 f20 f19 f18 f17 f16 f15 f14 f13 f12 f11 f10 f9 f8 f7 f6 f5 f4 f3 f2 f1 f0
theorem q_306v_9 {q0 : Nat} {n0 n1 n2 n3 n4 n5 n6 n7 n8 n9 n10 n11 n12 n13 n14 n15 n16 n17 n18 n19 n20 : Int} {H0 H1 : gH} (f0 : n0 ≤ 8) (f1 : 0 ≤ n0) (f2 : n1 ≤ 2147483647) (f3 : (-2147483648) ≤ n1) (f4 : n2 ≤ 2147483647) (f5 : (-2147483648) ≤ n2) (f6 : n3 ≤ 7) (f7 : 0 ≤ n3) (f8 : n4 ≤ 2147483647) (f9 : (-2147483648) ≤ n4) (f10 : n5 ≤ 2147483647) (f11 : (-2147483648) ≤ n5) (f12 : n6 ≤ 2147483647) (f13 : (-2147483648) ≤ n6) (f14 : n7 ≤ 2147483647) (f15 : (-2147483648) ≤ n7) (f16 : n8 ≤ 19) (f17 : 0 ≤ n8) (f18 : n9 ≤ 19) (f19 : 0 ≤ n9) (f20 : n10 = 285) (f21 : n11 ≤ 2147483647) (f22 : (-2147483648) ≤ n11) (f23 : n12 ≤ 2147483647) (f24 : (-2147483648) ≤ n12) (f25 : n13 ≤ 2147483647) (f26 : (-2147483648) ≤ n13) (f27 : n14 ≤ 19) (f28 : 0 ≤ n14) (f29 : n15 ≤ 19) (f30 : 0 ≤ n15) (f31 : n16 = 285) (f32 : (hLe T0 H0 H1 ∧ hFr s_306v.2.2.2.2 H0 H1 ∧ hWt T0 H1) ∧ (Ab_306v_46 n16 n15 n14 n13 n12 n11 n10 n9 n8 n7 n6 n5 n4 n3 n2 n1 n0 H0 H1 ∧ preb_306v n16 n15 n14 n13 n12 n11 H0) ∧ some q0 = some (mub_306v_46 n16 n15 n14 n13 n12 n11 n10 n9 n8 n7 n6 n5 n4 n3 n2 n1 n0 H0 H1)) (f33 : n17 = 338) (f34 : n17 = hV H1 (n10).toNat 76) (f35 : n18 ≤ 8) (f36 : 0 ≤ n18) (f37 : n18 = hV H1 (n17).toNat (n8).toNat) (f38 : n18 ≤ n0) (f39 : n1 = 0) (f40 : n19 = w32 (n4 + 1)) (f41 : n20 = w32 (n3 + 1)) : n20 ≤ 8 := by
  have g4 := f32.2.1.1
  unfold Ab_306v_46 at g4
  have g3 := f32.2.1.2
  unfold preb_306v at g3
  have e1 : n18 = hV H0 338 (n8).toNat := (by rw [f33] at f37; exact f37 : n18 = hV H1 338 (n8).toNat).trans ((congrFun (fRow f32.1.2.1 338 kR_306v_338) _))
  have k0 := g4.1
  have k1 := g4.2.1
  have k2 := g4.2.2.1
  have k3 := g4.2.2.2.1
  have k4 := g4.2.2.2.2.1
  have y0 := g4.2.2.2.2.2.1
  have y1 := g4.2.2.2.2.2.2.1
  have y2 := g4.2.2.2.2.2.2.2.1
  have y3 := g4.2.2.2.2.2.2.2.2.1
  have y4 := g4.2.2.2.2.2.2.2.2.2.1
  have y5 := g4.2.2.2.2.2.2.2.2.2.2.1
  have y6 := g4.2.2.2.2.2.2.2.2.2.2.2
  have p0 := g3.1
  have p1 := g3.2.1
  have p2 := g3.2.2.1
  have p3 := g3.2.2.2.1
  have p4 := g3.2.2.2.2.1
  have p5 := g3.2.2.2.2.2
  clear g3
  clear g4
  clear f34 f37
  clear f32
  subst e1
  first
  | (have ix0 : n20 = n3 + 1 := Eq.trans f41 (w32_iv (Iad (Iat f7 f6) (IC 1)) (by decide)); subst ix0; clear f41)
  | (have ix0 : n20 = n3 + 1 := Eq.trans f41 (w32_id (by omega) (by omega)); subst ix0; clear f41)
  | (unfold w32 at f41; have ix0 : n20 = n3 + 1 := (by omega); subst ix0)
  | skip
  try unfold w32 at f40
  try unfold w32 at f41
  try subst k4
  try subst k3
  try subst k2
  try subst k1
  try subst k0
  subst y0
  subst y2
  subst y3
  omega
def g_306v_46_4 : vG := ([(10, [20, 13], [], 1), (10, [19, 12], [], 1), (30, [15], [], 0), (43, [16, 18], [], 0), (22, [18, 17, 8], [1], 0), (90, [18], [], 0), (91, [18], [], 8), (20, [17, 6], [1], 76), (0, [17], [], 338), (5000, [0, 1, 2, 3, 4, 5, 6, 7, 8, 9, 10, 11, 12, 13, 14, 15, 16], [0, 1], 46), (0, [0], [], 285), (90, [1], [], 0), (91, [1], [], 19), (90, [2], [], 0), (91, [2], [], 19), (90, [3], [], -2147483648), (91, [3], [], 2147483647), (90, [4], [], -2147483648), (91, [4], [], 2147483647), (90, [5], [], -2147483648), (91, [5], [], 2147483647), (0, [6], [], 285), (90, [7], [], 0), (91, [7], [], 19), (90, [8], [], 0), (91, [8], [], 19), (90, [9], [], -2147483648), (91, [9], [], 2147483647), (90, [10], [], -2147483648), (91, [10], [], 2147483647), (90, [11], [], -2147483648), (91, [11], [], 2147483647), (90, [12], [], -2147483648), (91, [12], [], 2147483647), (90, [13], [], 0), (91, [13], [], 7), (90, [14], [], -2147483648), (91, [14], [], 2147483647), (90, [15], [], -2147483648), (91, [15], [], 2147483647), (90, [16], [], 0), (91, [16], [], 8)], (91, [20], [], 8))
theorem c_306v_46_4 {q0 : Nat} : vOkm T0 (eP e_306v L_306v A_306v mu_306v (some q0)) 6 g_306v_46_4 := vOk_inI fun ρ η f0 f1 f2 f3 f4 f5 f6 f7 f8 f9 f10 f11 f12 f13 f14 f15 f16 f17 f18 f19 f20 f21 f22 f23 f24 f25 f26 f27 f28 f29 f30 f31 f32 f33 f34 f35 f36 f37 f38 f39 f40 f41 => q_306v_9 (q0 := q0) (n0 := ρ 16) (n1 := ρ 15) (n2 := ρ 14) (n3 := ρ 13) (n4 := ρ 12) (n5 := ρ 11) (n6 := ρ 10) (n7 := ρ 9) (n8 := ρ 8) (n9 := ρ 7) (n10 := ρ 6) (n11 := ρ 5) (n12 := ρ 4) (n13 := ρ 3) (n14 := ρ 2) (n15 := ρ 1) (n16 := ρ 0) (n17 := ρ 17) (n18 := ρ 18) (n19 := ρ 19) (n20 := ρ 20) (H0 := η 0) (H1 := η 1) f41 f40 f39 f38 f37 f36 f35 f34 f33 f32 f31 f30 f29 f28 f27 f26 f25 f24 f23 f22 f21 f20 f19 f18 f17 f16 f15 f14 f13 f12 f11 f10 f9 f8 f7 f6 f5 f4 f3 f2 f1 f0
theorem q_306v_10 {q0 : Nat} {n0 n1 n2 n3 n4 n5 n6 n7 n8 n9 n10 n11 n12 n13 n14 n15 n16 n17 n18 n19 n20 : Int} {H0 H1 : gH} (f0 : n0 ≤ 8) (f1 : 0 ≤ n0) (f2 : n1 ≤ 2147483647) (f3 : (-2147483648) ≤ n1) (f4 : n2 ≤ 2147483647) (f5 : (-2147483648) ≤ n2) (f6 : n3 ≤ 7) (f7 : 0 ≤ n3) (f8 : n4 ≤ 2147483647) (f9 : (-2147483648) ≤ n4) (f10 : n5 ≤ 2147483647) (f11 : (-2147483648) ≤ n5) (f12 : n6 ≤ 2147483647) (f13 : (-2147483648) ≤ n6) (f14 : n7 ≤ 2147483647) (f15 : (-2147483648) ≤ n7) (f16 : n8 ≤ 19) (f17 : 0 ≤ n8) (f18 : n9 ≤ 19) (f19 : 0 ≤ n9) (f20 : n10 = 285) (f21 : n11 ≤ 2147483647) (f22 : (-2147483648) ≤ n11) (f23 : n12 ≤ 2147483647) (f24 : (-2147483648) ≤ n12) (f25 : n13 ≤ 2147483647) (f26 : (-2147483648) ≤ n13) (f27 : n14 ≤ 19) (f28 : 0 ≤ n14) (f29 : n15 ≤ 19) (f30 : 0 ≤ n15) (f31 : n16 = 285) (f32 : (hLe T0 H0 H1 ∧ hFr s_306v.2.2.2.2 H0 H1 ∧ hWt T0 H1) ∧ (Ab_306v_46 n16 n15 n14 n13 n12 n11 n10 n9 n8 n7 n6 n5 n4 n3 n2 n1 n0 H0 H1 ∧ preb_306v n16 n15 n14 n13 n12 n11 H0) ∧ some q0 = some (mub_306v_46 n16 n15 n14 n13 n12 n11 n10 n9 n8 n7 n6 n5 n4 n3 n2 n1 n0 H0 H1)) (f33 : n17 = 338) (f34 : n17 = hV H1 (n10).toNat 76) (f35 : n18 ≤ 8) (f36 : 0 ≤ n18) (f37 : n18 = hV H1 (n17).toNat (n8).toNat) (f38 : n18 ≤ n0) (f39 : n1 = 0) (f40 : n19 = w32 (n4 + 1)) (f41 : n20 = w32 (n3 + 1)) : Ab_306v_6 n16 n15 n14 n13 n12 n11 n10 n9 n8 n7 n6 n5 n19 n20 H0 H1 ∧ ∀ q, some q0 = some q → mub_306v_6 n16 n15 n14 n13 n12 n11 n10 n9 n8 n7 n6 n5 n19 n20 H0 H1 < q := by
  have ga := f32.2.1.1
  unfold Ab_306v_46 at ga
  obtain ⟨k0_, k1_, k2_, k3_, k4_, y0, y1, y2, y3, y4, y5, y6⟩ := ga
  have pz := f32.2.1.2
  unfold preb_306v at pz
  have fa := fRow f32.1.2.1 339 kR_306v_339
  have fn := fRow f32.1.2.1 338 kR_306v_338
  have rn0 := f37
  rw [f33] at rn0
  rw [show ((338 : Int)).toNat = 338 from rfl] at rn0
  rw [fn] at rn0
  try rw [show n9 = n15 from k0_] at rn0
  try rw [show n8 = n14 from k1_] at rn0
  have u40 := f40
  unfold w32 at u40
  have u41 := f41
  unfold w32 at u41
  rw [show (n0).toNat = (hV H0 338 (n14).toNat).toNat by omega] at y3
  have lb : 0 ≤ n4 ∧ n4 ≤ ((n3).toNat : Int) := by
    rw [y0]
    exact lkB_in _
  have g5 := Option.some.inj f32.2.2
  unfold mub_306v_46 at g5
  unfold Ab_306v_6 mub_306v_6
  refine ⟨⟨k0_, k1_, k2_, k3_, k4_, ?_, by omega⟩, fun q hq => ?_⟩
  · rw [show (n20).toNat = (n3).toNat + 1 by omega, lkB_step, ← y0]
    (try dsimp only)
    rw [← y2, ← y3, if_pos (by omega)]
    omega
  · have g6 := Option.some.inj hq
    subst g6
    omega
def g_306v_46_5 : vG := ([(10, [20, 13], [], 1), (10, [19, 12], [], 1), (30, [15], [], 0), (43, [16, 18], [], 0), (22, [18, 17, 8], [1], 0), (90, [18], [], 0), (91, [18], [], 8), (20, [17, 6], [1], 76), (0, [17], [], 338), (5000, [0, 1, 2, 3, 4, 5, 6, 7, 8, 9, 10, 11, 12, 13, 14, 15, 16], [0, 1], 46), (0, [0], [], 285), (90, [1], [], 0), (91, [1], [], 19), (90, [2], [], 0), (91, [2], [], 19), (90, [3], [], -2147483648), (91, [3], [], 2147483647), (90, [4], [], -2147483648), (91, [4], [], 2147483647), (90, [5], [], -2147483648), (91, [5], [], 2147483647), (0, [6], [], 285), (90, [7], [], 0), (91, [7], [], 19), (90, [8], [], 0), (91, [8], [], 19), (90, [9], [], -2147483648), (91, [9], [], 2147483647), (90, [10], [], -2147483648), (91, [10], [], 2147483647), (90, [11], [], -2147483648), (91, [11], [], 2147483647), (90, [12], [], -2147483648), (91, [12], [], 2147483647), (90, [13], [], 0), (91, [13], [], 7), (90, [14], [], -2147483648), (91, [14], [], 2147483647), (90, [15], [], -2147483648), (91, [15], [], 2147483647), (90, [16], [], 0), (91, [16], [], 8)], (4000, [6, 7, 8, 9, 10, 11, 19, 20], [1], 6))
theorem c_306v_46_5 {q0 : Nat} : vOkm T0 (eP e_306v L_306v A_306v mu_306v (some q0)) 6 g_306v_46_5 := vOk_inI fun ρ η f0 f1 f2 f3 f4 f5 f6 f7 f8 f9 f10 f11 f12 f13 f14 f15 f16 f17 f18 f19 f20 f21 f22 f23 f24 f25 f26 f27 f28 f29 f30 f31 f32 f33 f34 f35 f36 f37 f38 f39 f40 f41 => q_306v_10 (q0 := q0) (n0 := ρ 16) (n1 := ρ 15) (n2 := ρ 14) (n3 := ρ 13) (n4 := ρ 12) (n5 := ρ 11) (n6 := ρ 10) (n7 := ρ 9) (n8 := ρ 8) (n9 := ρ 7) (n10 := ρ 6) (n11 := ρ 5) (n12 := ρ 4) (n13 := ρ 3) (n14 := ρ 2) (n15 := ρ 1) (n16 := ρ 0) (n17 := ρ 17) (n18 := ρ 18) (n19 := ρ 19) (n20 := ρ 20) (H0 := η 0) (H1 := η 1) f41 f40 f39 f38 f37 f36 f35 f34 f33 f32 f31 f30 f29 f28 f27 f26 f25 f24 f23 f22 f21 f20 f19 f18 f17 f16 f15 f14 f13 f12 f11 f10 f9 f8 f7 f6 f5 f4 f3 f2 f1 f0
theorem q_306v_11 {q0 : Nat} {n0 n1 n2 n3 n4 n5 n6 n7 n8 n9 n10 n11 n12 n13 n14 n15 n16 n17 n18 n19 n20 n21 : Int} {H0 H1 : gH} (f0 : n0 ≤ 8) (f1 : 0 ≤ n0) (f2 : n1 ≤ 2147483647) (f3 : (-2147483648) ≤ n1) (f4 : n2 ≤ 2147483647) (f5 : (-2147483648) ≤ n2) (f6 : n3 ≤ 7) (f7 : 0 ≤ n3) (f8 : n4 ≤ 2147483647) (f9 : (-2147483648) ≤ n4) (f10 : n5 ≤ 2147483647) (f11 : (-2147483648) ≤ n5) (f12 : n6 ≤ 2147483647) (f13 : (-2147483648) ≤ n6) (f14 : n7 ≤ 2147483647) (f15 : (-2147483648) ≤ n7) (f16 : n8 ≤ 19) (f17 : 0 ≤ n8) (f18 : n9 ≤ 19) (f19 : 0 ≤ n9) (f20 : n10 = 285) (f21 : n11 ≤ 2147483647) (f22 : (-2147483648) ≤ n11) (f23 : n12 ≤ 2147483647) (f24 : (-2147483648) ≤ n12) (f25 : n13 ≤ 2147483647) (f26 : (-2147483648) ≤ n13) (f27 : n14 ≤ 19) (f28 : 0 ≤ n14) (f29 : n15 ≤ 19) (f30 : 0 ≤ n15) (f31 : n16 = 285) (f32 : (hLe T0 H0 H1 ∧ hFr s_306v.2.2.2.2 H0 H1 ∧ hWt T0 H1) ∧ (Ab_306v_46 n16 n15 n14 n13 n12 n11 n10 n9 n8 n7 n6 n5 n4 n3 n2 n1 n0 H0 H1 ∧ preb_306v n16 n15 n14 n13 n12 n11 H0) ∧ some q0 = some (mub_306v_46 n16 n15 n14 n13 n12 n11 n10 n9 n8 n7 n6 n5 n4 n3 n2 n1 n0 H0 H1)) (f33 : n17 = 338) (f34 : n17 = hV H1 (n10).toNat 76) (f35 : n18 ≤ 8) (f36 : 0 ≤ n18) (f37 : n18 = hV H1 (n17).toNat (n8).toNat) (f38 : n0 < n18) (f39 : n19 = 8) (f40 : n20 = w32 (n19 * n8)) (f41 : n21 = w32 (n20 + n0)) : 0 ≤ n21 ∧ n21 < 160 := by
  have g4 := f32.2.1.1
  unfold Ab_306v_46 at g4
  have g3 := f32.2.1.2
  unfold preb_306v at g3
  have e1 : n18 = hV H0 338 (n8).toNat := (by rw [f33] at f37; exact f37 : n18 = hV H1 338 (n8).toNat).trans ((congrFun (fRow f32.1.2.1 338 kR_306v_338) _))
  have k0 := g4.1
  have k1 := g4.2.1
  have k2 := g4.2.2.1
  have k3 := g4.2.2.2.1
  have k4 := g4.2.2.2.2.1
  have y0 := g4.2.2.2.2.2.1
  have y1 := g4.2.2.2.2.2.2.1
  have y2 := g4.2.2.2.2.2.2.2.1
  have y3 := g4.2.2.2.2.2.2.2.2.1
  have y4 := g4.2.2.2.2.2.2.2.2.2.1
  have y5 := g4.2.2.2.2.2.2.2.2.2.2.1
  have y6 := g4.2.2.2.2.2.2.2.2.2.2.2
  have p0 := g3.1
  have p1 := g3.2.1
  have p2 := g3.2.2.1
  have p3 := g3.2.2.2.1
  have p4 := g3.2.2.2.2.1
  have p5 := g3.2.2.2.2.2
  clear g3
  clear g4
  clear f34 f37
  clear f32
  subst e1
  rw [f39] at f40
  first
  | (have ix0 : n20 = 8 * n8 := Eq.trans f40 (w32_iv (Iml 8 rfl (Iat f17 f16)) (by decide)); subst ix0; clear f40)
  | (have ix0 : n20 = 8 * n8 := Eq.trans f40 (w32_id (by omega) (by omega)); subst ix0; clear f40)
  | (unfold w32 at f40; have ix0 : n20 = 8 * n8 := (by omega); subst ix0)
  | skip
  first
  | (have ix1 : n21 = (8 * n8) + n0 := Eq.trans f41 (w32_iv (Iad (Iml 8 rfl (Iat f17 f16)) (Iat f1 f0)) (by decide)); subst ix1; clear f41)
  | (have ix1 : n21 = (8 * n8) + n0 := Eq.trans f41 (w32_id (by omega) (by omega)); subst ix1; clear f41)
  | (unfold w32 at f41; have ix1 : n21 = (8 * n8) + n0 := (by omega); subst ix1)
  | skip
  try unfold w32 at f40
  try unfold w32 at f41
  try subst k4
  try subst k3
  try subst k2
  try subst k1
  try subst k0
  subst y0
  subst y2
  subst y3
  omega
def g_306v_46_6 : vG := ([(1, [22, 21, 16], [], 0), (3, [21, 20, 8], [], 0), (0, [20], [], 8), (42, [16, 18], [], 0), (22, [18, 17, 8], [1], 0), (90, [18], [], 0), (91, [18], [], 8), (20, [17, 6], [1], 76), (0, [17], [], 338), (5000, [0, 1, 2, 3, 4, 5, 6, 7, 8, 9, 10, 11, 12, 13, 14, 15, 16], [0, 1], 46), (0, [0], [], 285), (90, [1], [], 0), (91, [1], [], 19), (90, [2], [], 0), (91, [2], [], 19), (90, [3], [], -2147483648), (91, [3], [], 2147483647), (90, [4], [], -2147483648), (91, [4], [], 2147483647), (90, [5], [], -2147483648), (91, [5], [], 2147483647), (0, [6], [], 285), (90, [7], [], 0), (91, [7], [], 19), (90, [8], [], 0), (91, [8], [], 19), (90, [9], [], -2147483648), (91, [9], [], 2147483647), (90, [10], [], -2147483648), (91, [10], [], 2147483647), (90, [11], [], -2147483648), (91, [11], [], 2147483647), (90, [12], [], -2147483648), (91, [12], [], 2147483647), (90, [13], [], 0), (91, [13], [], 7), (90, [14], [], -2147483648), (91, [14], [], 2147483647), (90, [15], [], -2147483648), (91, [15], [], 2147483647), (90, [16], [], 0), (91, [16], [], 8)], (70, [22], [], 160))
theorem c_306v_46_6 {q0 : Nat} : vOkm T0 (eP e_306v L_306v A_306v mu_306v (some q0)) 6 g_306v_46_6 := vOk_inI fun ρ η f0 f1 f2 f3 f4 f5 f6 f7 f8 f9 f10 f11 f12 f13 f14 f15 f16 f17 f18 f19 f20 f21 f22 f23 f24 f25 f26 f27 f28 f29 f30 f31 f32 f33 f34 f35 f36 f37 f38 f39 f40 f41 => q_306v_11 (q0 := q0) (n0 := ρ 16) (n1 := ρ 15) (n2 := ρ 14) (n3 := ρ 13) (n4 := ρ 12) (n5 := ρ 11) (n6 := ρ 10) (n7 := ρ 9) (n8 := ρ 8) (n9 := ρ 7) (n10 := ρ 6) (n11 := ρ 5) (n12 := ρ 4) (n13 := ρ 3) (n14 := ρ 2) (n15 := ρ 1) (n16 := ρ 0) (n17 := ρ 17) (n18 := ρ 18) (n19 := ρ 20) (n20 := ρ 21) (n21 := ρ 22) (H0 := η 0) (H1 := η 1) f41 f40 f39 f38 f37 f36 f35 f34 f33 f32 f31 f30 f29 f28 f27 f26 f25 f24 f23 f22 f21 f20 f19 f18 f17 f16 f15 f14 f13 f12 f11 f10 f9 f8 f7 f6 f5 f4 f3 f2 f1 f0
theorem q_306v_12 {q0 : Nat} {n0 n1 n2 n3 n4 n5 n6 n7 n8 n9 n10 n11 n12 n13 n14 n15 n16 n17 n18 n19 n20 n21 n22 n23 n24 n25 : Int} {H0 H1 : gH} (f0 : n0 ≤ 8) (f1 : 0 ≤ n0) (f2 : n1 ≤ 2147483647) (f3 : (-2147483648) ≤ n1) (f4 : n2 ≤ 2147483647) (f5 : (-2147483648) ≤ n2) (f6 : n3 ≤ 7) (f7 : 0 ≤ n3) (f8 : n4 ≤ 2147483647) (f9 : (-2147483648) ≤ n4) (f10 : n5 ≤ 2147483647) (f11 : (-2147483648) ≤ n5) (f12 : n6 ≤ 2147483647) (f13 : (-2147483648) ≤ n6) (f14 : n7 ≤ 2147483647) (f15 : (-2147483648) ≤ n7) (f16 : n8 ≤ 19) (f17 : 0 ≤ n8) (f18 : n9 ≤ 19) (f19 : 0 ≤ n9) (f20 : n10 = 285) (f21 : n11 ≤ 2147483647) (f22 : (-2147483648) ≤ n11) (f23 : n12 ≤ 2147483647) (f24 : (-2147483648) ≤ n12) (f25 : n13 ≤ 2147483647) (f26 : (-2147483648) ≤ n13) (f27 : n14 ≤ 19) (f28 : 0 ≤ n14) (f29 : n15 ≤ 19) (f30 : 0 ≤ n15) (f31 : n16 = 285) (f32 : (hLe T0 H0 H1 ∧ hFr s_306v.2.2.2.2 H0 H1 ∧ hWt T0 H1) ∧ (Ab_306v_46 n16 n15 n14 n13 n12 n11 n10 n9 n8 n7 n6 n5 n4 n3 n2 n1 n0 H0 H1 ∧ preb_306v n16 n15 n14 n13 n12 n11 H0) ∧ some q0 = some (mub_306v_46 n16 n15 n14 n13 n12 n11 n10 n9 n8 n7 n6 n5 n4 n3 n2 n1 n0 H0 H1)) (f33 : n17 = 338) (f34 : n17 = hV H1 (n10).toNat 76) (f35 : n18 ≤ 8) (f36 : 0 ≤ n18) (f37 : n18 = hV H1 (n17).toNat (n8).toNat) (f38 : n0 < n18) (f39 : n19 = 339) (f40 : n19 = hV H1 (n10).toNat 77) (f41 : n20 = 8) (f42 : n21 = w32 (n20 * n8)) (f43 : n22 = w32 (n21 + n0)) (f44 : n23 ≤ 59) (f45 : 0 ≤ n23) (f46 : n23 = hV H1 (n19).toNat (n22).toNat) (f47 : n24 = w32 (n2 - n23)) (f48 : n7 < n24) (f49 : n25 = w32 (n0 + 1)) : 0 ≤ n25 := by
  have g4 := f32.2.1.1
  unfold Ab_306v_46 at g4
  have g3 := f32.2.1.2
  unfold preb_306v at g3
  have e1 : n18 = hV H0 338 (n8).toNat := (by rw [f33] at f37; exact f37 : n18 = hV H1 338 (n8).toNat).trans ((congrFun (fRow f32.1.2.1 338 kR_306v_338) _))
  have e3 : n23 = hV H0 339 (n22).toNat := (by rw [f39] at f46; exact f46 : n23 = hV H1 339 (n22).toNat).trans ((congrFun (fRow f32.1.2.1 339 kR_306v_339) _))
  have k0 := g4.1
  have k1 := g4.2.1
  have k2 := g4.2.2.1
  have k3 := g4.2.2.2.1
  have k4 := g4.2.2.2.2.1
  have y0 := g4.2.2.2.2.2.1
  have y1 := g4.2.2.2.2.2.2.1
  have y2 := g4.2.2.2.2.2.2.2.1
  have y3 := g4.2.2.2.2.2.2.2.2.1
  have y4 := g4.2.2.2.2.2.2.2.2.2.1
  have y5 := g4.2.2.2.2.2.2.2.2.2.2.1
  have y6 := g4.2.2.2.2.2.2.2.2.2.2.2
  have p0 := g3.1
  have p1 := g3.2.1
  have p2 := g3.2.2.1
  have p3 := g3.2.2.2.1
  have p4 := g3.2.2.2.2.1
  have p5 := g3.2.2.2.2.2
  clear g3
  clear g4
  clear f34 f37 f40 f46
  clear f32
  subst e1
  subst e3
  rw [f41] at f42
  first
  | (have ix0 : n21 = 8 * n8 := Eq.trans f42 (w32_iv (Iml 8 rfl (Iat f17 f16)) (by decide)); subst ix0; clear f42)
  | (have ix0 : n21 = 8 * n8 := Eq.trans f42 (w32_id (by omega) (by omega)); subst ix0; clear f42)
  | (unfold w32 at f42; have ix0 : n21 = 8 * n8 := (by omega); subst ix0)
  | skip
  first
  | (have ix1 : n22 = (8 * n8) + n0 := Eq.trans f43 (w32_iv (Iad (Iml 8 rfl (Iat f17 f16)) (Iat f1 f0)) (by decide)); subst ix1; clear f43)
  | (have ix1 : n22 = (8 * n8) + n0 := Eq.trans f43 (w32_id (by omega) (by omega)); subst ix1; clear f43)
  | (unfold w32 at f43; have ix1 : n22 = (8 * n8) + n0 := (by omega); subst ix1)
  | skip
  first
  | (have ix2 : n25 = n0 + 1 := Eq.trans f49 (w32_iv (Iad (Iat f1 f0) (IC 1)) (by decide)); subst ix2; clear f49)
  | (have ix2 : n25 = n0 + 1 := Eq.trans f49 (w32_id (by omega) (by omega)); subst ix2; clear f49)
  | (unfold w32 at f49; have ix2 : n25 = n0 + 1 := (by omega); subst ix2)
  | skip
  try unfold w32 at f42
  try unfold w32 at f43
  try unfold w32 at f47
  try unfold w32 at f49
  try subst k4
  try subst k3
  try subst k2
  try subst k1
  try subst k0
  subst y0
  subst y2
  subst y3
  omega
def g_306v_46_7 : vG := ([(10, [25, 16], [], 1), (44, [24, 9], [], 0), (2, [24, 14, 23], [], 0), (22, [23, 19, 22], [1], 0), (90, [23], [], 0), (91, [23], [], 59), (1, [22, 21, 16], [], 0), (3, [21, 20, 8], [], 0), (0, [20], [], 8), (20, [19, 6], [1], 77), (0, [19], [], 339), (42, [16, 18], [], 0), (22, [18, 17, 8], [1], 0), (90, [18], [], 0), (91, [18], [], 8), (20, [17, 6], [1], 76), (0, [17], [], 338), (5000, [0, 1, 2, 3, 4, 5, 6, 7, 8, 9, 10, 11, 12, 13, 14, 15, 16], [0, 1], 46), (0, [0], [], 285), (90, [1], [], 0), (91, [1], [], 19), (90, [2], [], 0), (91, [2], [], 19), (90, [3], [], -2147483648), (91, [3], [], 2147483647), (90, [4], [], -2147483648), (91, [4], [], 2147483647), (90, [5], [], -2147483648), (91, [5], [], 2147483647), (0, [6], [], 285), (90, [7], [], 0), (91, [7], [], 19), (90, [8], [], 0), (91, [8], [], 19), (90, [9], [], -2147483648), (91, [9], [], 2147483647), (90, [10], [], -2147483648), (91, [10], [], 2147483647), (90, [11], [], -2147483648), (91, [11], [], 2147483647), (90, [12], [], -2147483648), (91, [12], [], 2147483647), (90, [13], [], 0), (91, [13], [], 7), (90, [14], [], -2147483648), (91, [14], [], 2147483647), (90, [15], [], -2147483648), (91, [15], [], 2147483647), (90, [16], [], 0), (91, [16], [], 8)], (90, [25], [], 0))
theorem c_306v_46_7 {q0 : Nat} : vOkm T0 (eP e_306v L_306v A_306v mu_306v (some q0)) 6 g_306v_46_7 := vOk_inI fun ρ η f0 f1 f2 f3 f4 f5 f6 f7 f8 f9 f10 f11 f12 f13 f14 f15 f16 f17 f18 f19 f20 f21 f22 f23 f24 f25 f26 f27 f28 f29 f30 f31 f32 f33 f34 f35 f36 f37 f38 f39 f40 f41 f42 f43 f44 f45 f46 f47 f48 f49 => q_306v_12 (q0 := q0) (n0 := ρ 16) (n1 := ρ 15) (n2 := ρ 14) (n3 := ρ 13) (n4 := ρ 12) (n5 := ρ 11) (n6 := ρ 10) (n7 := ρ 9) (n8 := ρ 8) (n9 := ρ 7) (n10 := ρ 6) (n11 := ρ 5) (n12 := ρ 4) (n13 := ρ 3) (n14 := ρ 2) (n15 := ρ 1) (n16 := ρ 0) (n17 := ρ 17) (n18 := ρ 18) (n19 := ρ 19) (n20 := ρ 20) (n21 := ρ 21) (n22 := ρ 22) (n23 := ρ 23) (n24 := ρ 24) (n25 := ρ 25) (H0 := η 0) (H1 := η 1) f49 f48 f47 f46 f45 f44 f43 f42 f41 f40 f39 f38 f37 f36 f35 f34 f33 f32 f31 f30 f29 f28 f27 f26 f25 f24 f23 f22 f21 f20 f19 f18 f17 f16 f15 f14 f13 f12 f11 f10 f9 f8 f7 f6 f5 f4 f3 f2 f1 f0
theorem q_306v_13 {q0 : Nat} {n0 n1 n2 n3 n4 n5 n6 n7 n8 n9 n10 n11 n12 n13 n14 n15 n16 n17 n18 n19 n20 n21 n22 n23 n24 n25 : Int} {H0 H1 : gH} (f0 : n0 ≤ 8) (f1 : 0 ≤ n0) (f2 : n1 ≤ 2147483647) (f3 : (-2147483648) ≤ n1) (f4 : n2 ≤ 2147483647) (f5 : (-2147483648) ≤ n2) (f6 : n3 ≤ 7) (f7 : 0 ≤ n3) (f8 : n4 ≤ 2147483647) (f9 : (-2147483648) ≤ n4) (f10 : n5 ≤ 2147483647) (f11 : (-2147483648) ≤ n5) (f12 : n6 ≤ 2147483647) (f13 : (-2147483648) ≤ n6) (f14 : n7 ≤ 2147483647) (f15 : (-2147483648) ≤ n7) (f16 : n8 ≤ 19) (f17 : 0 ≤ n8) (f18 : n9 ≤ 19) (f19 : 0 ≤ n9) (f20 : n10 = 285) (f21 : n11 ≤ 2147483647) (f22 : (-2147483648) ≤ n11) (f23 : n12 ≤ 2147483647) (f24 : (-2147483648) ≤ n12) (f25 : n13 ≤ 2147483647) (f26 : (-2147483648) ≤ n13) (f27 : n14 ≤ 19) (f28 : 0 ≤ n14) (f29 : n15 ≤ 19) (f30 : 0 ≤ n15) (f31 : n16 = 285) (f32 : (hLe T0 H0 H1 ∧ hFr s_306v.2.2.2.2 H0 H1 ∧ hWt T0 H1) ∧ (Ab_306v_46 n16 n15 n14 n13 n12 n11 n10 n9 n8 n7 n6 n5 n4 n3 n2 n1 n0 H0 H1 ∧ preb_306v n16 n15 n14 n13 n12 n11 H0) ∧ some q0 = some (mub_306v_46 n16 n15 n14 n13 n12 n11 n10 n9 n8 n7 n6 n5 n4 n3 n2 n1 n0 H0 H1)) (f33 : n17 = 338) (f34 : n17 = hV H1 (n10).toNat 76) (f35 : n18 ≤ 8) (f36 : 0 ≤ n18) (f37 : n18 = hV H1 (n17).toNat (n8).toNat) (f38 : n0 < n18) (f39 : n19 = 339) (f40 : n19 = hV H1 (n10).toNat 77) (f41 : n20 = 8) (f42 : n21 = w32 (n20 * n8)) (f43 : n22 = w32 (n21 + n0)) (f44 : n23 ≤ 59) (f45 : 0 ≤ n23) (f46 : n23 = hV H1 (n19).toNat (n22).toNat) (f47 : n24 = w32 (n2 - n23)) (f48 : n7 < n24) (f49 : n25 = w32 (n0 + 1)) : n25 ≤ 8 := by
  have g4 := f32.2.1.1
  unfold Ab_306v_46 at g4
  have g3 := f32.2.1.2
  unfold preb_306v at g3
  have e1 : n18 = hV H0 338 (n8).toNat := (by rw [f33] at f37; exact f37 : n18 = hV H1 338 (n8).toNat).trans ((congrFun (fRow f32.1.2.1 338 kR_306v_338) _))
  have e3 : n23 = hV H0 339 (n22).toNat := (by rw [f39] at f46; exact f46 : n23 = hV H1 339 (n22).toNat).trans ((congrFun (fRow f32.1.2.1 339 kR_306v_339) _))
  have k0 := g4.1
  have k1 := g4.2.1
  have k2 := g4.2.2.1
  have k3 := g4.2.2.2.1
  have k4 := g4.2.2.2.2.1
  have y0 := g4.2.2.2.2.2.1
  have y1 := g4.2.2.2.2.2.2.1
  have y2 := g4.2.2.2.2.2.2.2.1
  have y3 := g4.2.2.2.2.2.2.2.2.1
  have y4 := g4.2.2.2.2.2.2.2.2.2.1
  have y5 := g4.2.2.2.2.2.2.2.2.2.2.1
  have y6 := g4.2.2.2.2.2.2.2.2.2.2.2
  have p0 := g3.1
  have p1 := g3.2.1
  have p2 := g3.2.2.1
  have p3 := g3.2.2.2.1
  have p4 := g3.2.2.2.2.1
  have p5 := g3.2.2.2.2.2
  clear g3
  clear g4
  clear f34 f37 f40 f46
  clear f32
  subst e1
  subst e3
  rw [f41] at f42
  first
  | (have ix0 : n21 = 8 * n8 := Eq.trans f42 (w32_iv (Iml 8 rfl (Iat f17 f16)) (by decide)); subst ix0; clear f42)
  | (have ix0 : n21 = 8 * n8 := Eq.trans f42 (w32_id (by omega) (by omega)); subst ix0; clear f42)
  | (unfold w32 at f42; have ix0 : n21 = 8 * n8 := (by omega); subst ix0)
  | skip
  first
  | (have ix1 : n22 = (8 * n8) + n0 := Eq.trans f43 (w32_iv (Iad (Iml 8 rfl (Iat f17 f16)) (Iat f1 f0)) (by decide)); subst ix1; clear f43)
  | (have ix1 : n22 = (8 * n8) + n0 := Eq.trans f43 (w32_id (by omega) (by omega)); subst ix1; clear f43)
  | (unfold w32 at f43; have ix1 : n22 = (8 * n8) + n0 := (by omega); subst ix1)
  | skip
  first
  | (have ix2 : n25 = n0 + 1 := Eq.trans f49 (w32_iv (Iad (Iat f1 f0) (IC 1)) (by decide)); subst ix2; clear f49)
  | (have ix2 : n25 = n0 + 1 := Eq.trans f49 (w32_id (by omega) (by omega)); subst ix2; clear f49)
  | (unfold w32 at f49; have ix2 : n25 = n0 + 1 := (by omega); subst ix2)
  | skip
  try unfold w32 at f42
  try unfold w32 at f43
  try unfold w32 at f47
  try unfold w32 at f49
  try subst k4
  try subst k3
  try subst k2
  try subst k1
  try subst k0
  subst y0
  subst y2
  subst y3
  omega
def g_306v_46_8 : vG := ([(10, [25, 16], [], 1), (44, [24, 9], [], 0), (2, [24, 14, 23], [], 0), (22, [23, 19, 22], [1], 0), (90, [23], [], 0), (91, [23], [], 59), (1, [22, 21, 16], [], 0), (3, [21, 20, 8], [], 0), (0, [20], [], 8), (20, [19, 6], [1], 77), (0, [19], [], 339), (42, [16, 18], [], 0), (22, [18, 17, 8], [1], 0), (90, [18], [], 0), (91, [18], [], 8), (20, [17, 6], [1], 76), (0, [17], [], 338), (5000, [0, 1, 2, 3, 4, 5, 6, 7, 8, 9, 10, 11, 12, 13, 14, 15, 16], [0, 1], 46), (0, [0], [], 285), (90, [1], [], 0), (91, [1], [], 19), (90, [2], [], 0), (91, [2], [], 19), (90, [3], [], -2147483648), (91, [3], [], 2147483647), (90, [4], [], -2147483648), (91, [4], [], 2147483647), (90, [5], [], -2147483648), (91, [5], [], 2147483647), (0, [6], [], 285), (90, [7], [], 0), (91, [7], [], 19), (90, [8], [], 0), (91, [8], [], 19), (90, [9], [], -2147483648), (91, [9], [], 2147483647), (90, [10], [], -2147483648), (91, [10], [], 2147483647), (90, [11], [], -2147483648), (91, [11], [], 2147483647), (90, [12], [], -2147483648), (91, [12], [], 2147483647), (90, [13], [], 0), (91, [13], [], 7), (90, [14], [], -2147483648), (91, [14], [], 2147483647), (90, [15], [], -2147483648), (91, [15], [], 2147483647), (90, [16], [], 0), (91, [16], [], 8)], (91, [25], [], 8))
theorem c_306v_46_8 {q0 : Nat} : vOkm T0 (eP e_306v L_306v A_306v mu_306v (some q0)) 6 g_306v_46_8 := vOk_inI fun ρ η f0 f1 f2 f3 f4 f5 f6 f7 f8 f9 f10 f11 f12 f13 f14 f15 f16 f17 f18 f19 f20 f21 f22 f23 f24 f25 f26 f27 f28 f29 f30 f31 f32 f33 f34 f35 f36 f37 f38 f39 f40 f41 f42 f43 f44 f45 f46 f47 f48 f49 => q_306v_13 (q0 := q0) (n0 := ρ 16) (n1 := ρ 15) (n2 := ρ 14) (n3 := ρ 13) (n4 := ρ 12) (n5 := ρ 11) (n6 := ρ 10) (n7 := ρ 9) (n8 := ρ 8) (n9 := ρ 7) (n10 := ρ 6) (n11 := ρ 5) (n12 := ρ 4) (n13 := ρ 3) (n14 := ρ 2) (n15 := ρ 1) (n16 := ρ 0) (n17 := ρ 17) (n18 := ρ 18) (n19 := ρ 19) (n20 := ρ 20) (n21 := ρ 21) (n22 := ρ 22) (n23 := ρ 23) (n24 := ρ 24) (n25 := ρ 25) (H0 := η 0) (H1 := η 1) f49 f48 f47 f46 f45 f44 f43 f42 f41 f40 f39 f38 f37 f36 f35 f34 f33 f32 f31 f30 f29 f28 f27 f26 f25 f24 f23 f22 f21 f20 f19 f18 f17 f16 f15 f14 f13 f12 f11 f10 f9 f8 f7 f6 f5 f4 f3 f2 f1 f0
theorem q_306v_14 {q0 : Nat} {n0 n1 n2 n3 n4 n5 n6 n7 n8 n9 n10 n11 n12 n13 n14 n15 n16 n17 n18 n19 n20 n21 n22 n23 n24 n25 : Int} {H0 H1 : gH} (f0 : n0 ≤ 8) (f1 : 0 ≤ n0) (f2 : n1 ≤ 2147483647) (f3 : (-2147483648) ≤ n1) (f4 : n2 ≤ 2147483647) (f5 : (-2147483648) ≤ n2) (f6 : n3 ≤ 7) (f7 : 0 ≤ n3) (f8 : n4 ≤ 2147483647) (f9 : (-2147483648) ≤ n4) (f10 : n5 ≤ 2147483647) (f11 : (-2147483648) ≤ n5) (f12 : n6 ≤ 2147483647) (f13 : (-2147483648) ≤ n6) (f14 : n7 ≤ 2147483647) (f15 : (-2147483648) ≤ n7) (f16 : n8 ≤ 19) (f17 : 0 ≤ n8) (f18 : n9 ≤ 19) (f19 : 0 ≤ n9) (f20 : n10 = 285) (f21 : n11 ≤ 2147483647) (f22 : (-2147483648) ≤ n11) (f23 : n12 ≤ 2147483647) (f24 : (-2147483648) ≤ n12) (f25 : n13 ≤ 2147483647) (f26 : (-2147483648) ≤ n13) (f27 : n14 ≤ 19) (f28 : 0 ≤ n14) (f29 : n15 ≤ 19) (f30 : 0 ≤ n15) (f31 : n16 = 285) (f32 : (hLe T0 H0 H1 ∧ hFr s_306v.2.2.2.2 H0 H1 ∧ hWt T0 H1) ∧ (Ab_306v_46 n16 n15 n14 n13 n12 n11 n10 n9 n8 n7 n6 n5 n4 n3 n2 n1 n0 H0 H1 ∧ preb_306v n16 n15 n14 n13 n12 n11 H0) ∧ some q0 = some (mub_306v_46 n16 n15 n14 n13 n12 n11 n10 n9 n8 n7 n6 n5 n4 n3 n2 n1 n0 H0 H1)) (f33 : n17 = 338) (f34 : n17 = hV H1 (n10).toNat 76) (f35 : n18 ≤ 8) (f36 : 0 ≤ n18) (f37 : n18 = hV H1 (n17).toNat (n8).toNat) (f38 : n0 < n18) (f39 : n19 = 339) (f40 : n19 = hV H1 (n10).toNat 77) (f41 : n20 = 8) (f42 : n21 = w32 (n20 * n8)) (f43 : n22 = w32 (n21 + n0)) (f44 : n23 ≤ 59) (f45 : 0 ≤ n23) (f46 : n23 = hV H1 (n19).toNat (n22).toNat) (f47 : n24 = w32 (n2 - n23)) (f48 : n7 < n24) (f49 : n25 = w32 (n0 + 1)) : Ab_306v_46 n16 n15 n14 n13 n12 n11 n10 n9 n8 n7 n6 n5 n4 n3 n2 n1 n25 H0 H1 ∧ ∀ q, some q0 = some q → mub_306v_46 n16 n15 n14 n13 n12 n11 n10 n9 n8 n7 n6 n5 n4 n3 n2 n1 n25 H0 H1 < q := by
  have ga := f32.2.1.1
  unfold Ab_306v_46 at ga
  obtain ⟨k0_, k1_, k2_, k3_, k4_, y0, y1, y2, y3, y4, y5, y6⟩ := ga
  have pz := f32.2.1.2
  unfold preb_306v at pz
  have fa := fRow f32.1.2.1 339 kR_306v_339
  have fn := fRow f32.1.2.1 338 kR_306v_338
  have rn0 := f37
  rw [f33] at rn0
  rw [show ((338 : Int)).toNat = 338 from rfl] at rn0
  rw [fn] at rn0
  try rw [show n9 = n15 from k0_] at rn0
  try rw [show n8 = n14 from k1_] at rn0
  have ra := f46
  rw [f39] at ra
  rw [show ((339 : Int)).toNat = 339 from rfl] at ra
  rw [fa] at ra
  have u42 := f42
  rw [f41] at u42
  unfold w32 at u42
  have u43 := f43
  unfold w32 at u43
  have u47 := f47
  unfold w32 at u47
  have u49 := f49
  unfold w32 at u49
  have ri : (n22).toNat = 8 * (n14).toNat + (n0).toNat := by omega
  rw [ri] at ra
  have wa : (0 : Int) ≤ hV H0 339 (8 * (n14).toNat + (n0).toNat) ∧ hV H0 339 (8 * (n14).toNat + (n0).toNat) ≤ 59 := by omega
  have g5 := Option.some.inj f32.2.2
  unfold mub_306v_46 at g5
  unfold Ab_306v_46 mub_306v_46
  refine ⟨⟨k0_, k1_, k2_, k3_, k4_, y0, y1, y2, ?_, by omega, y5, y6⟩, fun q hq => ?_⟩
  · rw [show (n25).toNat = (n0).toNat + 1 by omega, mtB_no (by (try dsimp only); rw [← ra]; omega)]
    omega
  · have g6 := Option.some.inj hq
    subst g6
    omega
def g_306v_46_9 : vG := ([(10, [25, 16], [], 1), (44, [24, 9], [], 0), (2, [24, 14, 23], [], 0), (22, [23, 19, 22], [1], 0), (90, [23], [], 0), (91, [23], [], 59), (1, [22, 21, 16], [], 0), (3, [21, 20, 8], [], 0), (0, [20], [], 8), (20, [19, 6], [1], 77), (0, [19], [], 339), (42, [16, 18], [], 0), (22, [18, 17, 8], [1], 0), (90, [18], [], 0), (91, [18], [], 8), (20, [17, 6], [1], 76), (0, [17], [], 338), (5000, [0, 1, 2, 3, 4, 5, 6, 7, 8, 9, 10, 11, 12, 13, 14, 15, 16], [0, 1], 46), (0, [0], [], 285), (90, [1], [], 0), (91, [1], [], 19), (90, [2], [], 0), (91, [2], [], 19), (90, [3], [], -2147483648), (91, [3], [], 2147483647), (90, [4], [], -2147483648), (91, [4], [], 2147483647), (90, [5], [], -2147483648), (91, [5], [], 2147483647), (0, [6], [], 285), (90, [7], [], 0), (91, [7], [], 19), (90, [8], [], 0), (91, [8], [], 19), (90, [9], [], -2147483648), (91, [9], [], 2147483647), (90, [10], [], -2147483648), (91, [10], [], 2147483647), (90, [11], [], -2147483648), (91, [11], [], 2147483647), (90, [12], [], -2147483648), (91, [12], [], 2147483647), (90, [13], [], 0), (91, [13], [], 7), (90, [14], [], -2147483648), (91, [14], [], 2147483647), (90, [15], [], -2147483648), (91, [15], [], 2147483647), (90, [16], [], 0), (91, [16], [], 8)], (4000, [6, 7, 8, 9, 10, 11, 12, 13, 14, 15, 25], [1], 46))
theorem c_306v_46_9 {q0 : Nat} : vOkm T0 (eP e_306v L_306v A_306v mu_306v (some q0)) 6 g_306v_46_9 := vOk_inI fun ρ η f0 f1 f2 f3 f4 f5 f6 f7 f8 f9 f10 f11 f12 f13 f14 f15 f16 f17 f18 f19 f20 f21 f22 f23 f24 f25 f26 f27 f28 f29 f30 f31 f32 f33 f34 f35 f36 f37 f38 f39 f40 f41 f42 f43 f44 f45 f46 f47 f48 f49 => q_306v_14 (q0 := q0) (n0 := ρ 16) (n1 := ρ 15) (n2 := ρ 14) (n3 := ρ 13) (n4 := ρ 12) (n5 := ρ 11) (n6 := ρ 10) (n7 := ρ 9) (n8 := ρ 8) (n9 := ρ 7) (n10 := ρ 6) (n11 := ρ 5) (n12 := ρ 4) (n13 := ρ 3) (n14 := ρ 2) (n15 := ρ 1) (n16 := ρ 0) (n17 := ρ 17) (n18 := ρ 18) (n19 := ρ 19) (n20 := ρ 20) (n21 := ρ 21) (n22 := ρ 22) (n23 := ρ 23) (n24 := ρ 24) (n25 := ρ 25) (H0 := η 0) (H1 := η 1) f49 f48 f47 f46 f45 f44 f43 f42 f41 f40 f39 f38 f37 f36 f35 f34 f33 f32 f31 f30 f29 f28 f27 f26 f25 f24 f23 f22 f21 f20 f19 f18 f17 f16 f15 f14 f13 f12 f11 f10 f9 f8 f7 f6 f5 f4 f3 f2 f1 f0
theorem q_306v_15 {q0 : Nat} {n0 n1 n2 n3 n4 n5 n6 n7 n8 n9 n10 n11 n12 n13 n14 n15 n16 n17 n18 n19 n20 n21 n22 n23 n24 n25 n26 : Int} {H0 H1 : gH} (f0 : n0 ≤ 8) (f1 : 0 ≤ n0) (f2 : n1 ≤ 2147483647) (f3 : (-2147483648) ≤ n1) (f4 : n2 ≤ 2147483647) (f5 : (-2147483648) ≤ n2) (f6 : n3 ≤ 7) (f7 : 0 ≤ n3) (f8 : n4 ≤ 2147483647) (f9 : (-2147483648) ≤ n4) (f10 : n5 ≤ 2147483647) (f11 : (-2147483648) ≤ n5) (f12 : n6 ≤ 2147483647) (f13 : (-2147483648) ≤ n6) (f14 : n7 ≤ 2147483647) (f15 : (-2147483648) ≤ n7) (f16 : n8 ≤ 19) (f17 : 0 ≤ n8) (f18 : n9 ≤ 19) (f19 : 0 ≤ n9) (f20 : n10 = 285) (f21 : n11 ≤ 2147483647) (f22 : (-2147483648) ≤ n11) (f23 : n12 ≤ 2147483647) (f24 : (-2147483648) ≤ n12) (f25 : n13 ≤ 2147483647) (f26 : (-2147483648) ≤ n13) (f27 : n14 ≤ 19) (f28 : 0 ≤ n14) (f29 : n15 ≤ 19) (f30 : 0 ≤ n15) (f31 : n16 = 285) (f32 : (hLe T0 H0 H1 ∧ hFr s_306v.2.2.2.2 H0 H1 ∧ hWt T0 H1) ∧ (Ab_306v_46 n16 n15 n14 n13 n12 n11 n10 n9 n8 n7 n6 n5 n4 n3 n2 n1 n0 H0 H1 ∧ preb_306v n16 n15 n14 n13 n12 n11 H0) ∧ some q0 = some (mub_306v_46 n16 n15 n14 n13 n12 n11 n10 n9 n8 n7 n6 n5 n4 n3 n2 n1 n0 H0 H1)) (f33 : n17 = 338) (f34 : n17 = hV H1 (n10).toNat 76) (f35 : n18 ≤ 8) (f36 : 0 ≤ n18) (f37 : n18 = hV H1 (n17).toNat (n8).toNat) (f38 : n0 < n18) (f39 : n19 = 339) (f40 : n19 = hV H1 (n10).toNat 77) (f41 : n20 = 8) (f42 : n21 = w32 (n20 * n8)) (f43 : n22 = w32 (n21 + n0)) (f44 : n23 ≤ 59) (f45 : 0 ≤ n23) (f46 : n23 = hV H1 (n19).toNat (n22).toNat) (f47 : n24 = w32 (n2 - n23)) (f48 : n24 ≤ n7) (f49 : n25 = w32 (-n7)) (f50 : n24 < n25) (f51 : n26 = w32 (n0 + 1)) : 0 ≤ n26 := by
  have g4 := f32.2.1.1
  unfold Ab_306v_46 at g4
  have g3 := f32.2.1.2
  unfold preb_306v at g3
  have e1 : n18 = hV H0 338 (n8).toNat := (by rw [f33] at f37; exact f37 : n18 = hV H1 338 (n8).toNat).trans ((congrFun (fRow f32.1.2.1 338 kR_306v_338) _))
  have e3 : n23 = hV H0 339 (n22).toNat := (by rw [f39] at f46; exact f46 : n23 = hV H1 339 (n22).toNat).trans ((congrFun (fRow f32.1.2.1 339 kR_306v_339) _))
  have k0 := g4.1
  have k1 := g4.2.1
  have k2 := g4.2.2.1
  have k3 := g4.2.2.2.1
  have k4 := g4.2.2.2.2.1
  have y0 := g4.2.2.2.2.2.1
  have y1 := g4.2.2.2.2.2.2.1
  have y2 := g4.2.2.2.2.2.2.2.1
  have y3 := g4.2.2.2.2.2.2.2.2.1
  have y4 := g4.2.2.2.2.2.2.2.2.2.1
  have y5 := g4.2.2.2.2.2.2.2.2.2.2.1
  have y6 := g4.2.2.2.2.2.2.2.2.2.2.2
  have p0 := g3.1
  have p1 := g3.2.1
  have p2 := g3.2.2.1
  have p3 := g3.2.2.2.1
  have p4 := g3.2.2.2.2.1
  have p5 := g3.2.2.2.2.2
  clear g3
  clear g4
  clear f34 f37 f40 f46
  clear f32
  subst e1
  subst e3
  rw [f41] at f42
  first
  | (have ix0 : n21 = 8 * n8 := Eq.trans f42 (w32_iv (Iml 8 rfl (Iat f17 f16)) (by decide)); subst ix0; clear f42)
  | (have ix0 : n21 = 8 * n8 := Eq.trans f42 (w32_id (by omega) (by omega)); subst ix0; clear f42)
  | (unfold w32 at f42; have ix0 : n21 = 8 * n8 := (by omega); subst ix0)
  | skip
  first
  | (have ix1 : n22 = (8 * n8) + n0 := Eq.trans f43 (w32_iv (Iad (Iml 8 rfl (Iat f17 f16)) (Iat f1 f0)) (by decide)); subst ix1; clear f43)
  | (have ix1 : n22 = (8 * n8) + n0 := Eq.trans f43 (w32_id (by omega) (by omega)); subst ix1; clear f43)
  | (unfold w32 at f43; have ix1 : n22 = (8 * n8) + n0 := (by omega); subst ix1)
  | skip
  first
  | (have ix2 : n26 = n0 + 1 := Eq.trans f51 (w32_iv (Iad (Iat f1 f0) (IC 1)) (by decide)); subst ix2; clear f51)
  | (have ix2 : n26 = n0 + 1 := Eq.trans f51 (w32_id (by omega) (by omega)); subst ix2; clear f51)
  | (unfold w32 at f51; have ix2 : n26 = n0 + 1 := (by omega); subst ix2)
  | skip
  try unfold w32 at f42
  try unfold w32 at f43
  try unfold w32 at f47
  try unfold w32 at f49
  try unfold w32 at f51
  try subst k4
  try subst k3
  try subst k2
  try subst k1
  try subst k0
  subst y0
  subst y2
  subst y3
  omega
def g_306v_46_10 : vG := ([(10, [26, 16], [], 1), (42, [24, 25], [], 0), (14, [25, 9], [], 0), (45, [24, 9], [], 0), (2, [24, 14, 23], [], 0), (22, [23, 19, 22], [1], 0), (90, [23], [], 0), (91, [23], [], 59), (1, [22, 21, 16], [], 0), (3, [21, 20, 8], [], 0), (0, [20], [], 8), (20, [19, 6], [1], 77), (0, [19], [], 339), (42, [16, 18], [], 0), (22, [18, 17, 8], [1], 0), (90, [18], [], 0), (91, [18], [], 8), (20, [17, 6], [1], 76), (0, [17], [], 338), (5000, [0, 1, 2, 3, 4, 5, 6, 7, 8, 9, 10, 11, 12, 13, 14, 15, 16], [0, 1], 46), (0, [0], [], 285), (90, [1], [], 0), (91, [1], [], 19), (90, [2], [], 0), (91, [2], [], 19), (90, [3], [], -2147483648), (91, [3], [], 2147483647), (90, [4], [], -2147483648), (91, [4], [], 2147483647), (90, [5], [], -2147483648), (91, [5], [], 2147483647), (0, [6], [], 285), (90, [7], [], 0), (91, [7], [], 19), (90, [8], [], 0), (91, [8], [], 19), (90, [9], [], -2147483648), (91, [9], [], 2147483647), (90, [10], [], -2147483648), (91, [10], [], 2147483647), (90, [11], [], -2147483648), (91, [11], [], 2147483647), (90, [12], [], -2147483648), (91, [12], [], 2147483647), (90, [13], [], 0), (91, [13], [], 7), (90, [14], [], -2147483648), (91, [14], [], 2147483647), (90, [15], [], -2147483648), (91, [15], [], 2147483647), (90, [16], [], 0), (91, [16], [], 8)], (90, [26], [], 0))
theorem c_306v_46_10 {q0 : Nat} : vOkm T0 (eP e_306v L_306v A_306v mu_306v (some q0)) 6 g_306v_46_10 := vOk_inI fun ρ η f0 f1 f2 f3 f4 f5 f6 f7 f8 f9 f10 f11 f12 f13 f14 f15 f16 f17 f18 f19 f20 f21 f22 f23 f24 f25 f26 f27 f28 f29 f30 f31 f32 f33 f34 f35 f36 f37 f38 f39 f40 f41 f42 f43 f44 f45 f46 f47 f48 f49 f50 f51 => q_306v_15 (q0 := q0) (n0 := ρ 16) (n1 := ρ 15) (n2 := ρ 14) (n3 := ρ 13) (n4 := ρ 12) (n5 := ρ 11) (n6 := ρ 10) (n7 := ρ 9) (n8 := ρ 8) (n9 := ρ 7) (n10 := ρ 6) (n11 := ρ 5) (n12 := ρ 4) (n13 := ρ 3) (n14 := ρ 2) (n15 := ρ 1) (n16 := ρ 0) (n17 := ρ 17) (n18 := ρ 18) (n19 := ρ 19) (n20 := ρ 20) (n21 := ρ 21) (n22 := ρ 22) (n23 := ρ 23) (n24 := ρ 24) (n25 := ρ 25) (n26 := ρ 26) (H0 := η 0) (H1 := η 1) f51 f50 f49 f48 f47 f46 f45 f44 f43 f42 f41 f40 f39 f38 f37 f36 f35 f34 f33 f32 f31 f30 f29 f28 f27 f26 f25 f24 f23 f22 f21 f20 f19 f18 f17 f16 f15 f14 f13 f12 f11 f10 f9 f8 f7 f6 f5 f4 f3 f2 f1 f0
theorem q_306v_16 {q0 : Nat} {n0 n1 n2 n3 n4 n5 n6 n7 n8 n9 n10 n11 n12 n13 n14 n15 n16 n17 n18 n19 n20 n21 n22 n23 n24 n25 n26 : Int} {H0 H1 : gH} (f0 : n0 ≤ 8) (f1 : 0 ≤ n0) (f2 : n1 ≤ 2147483647) (f3 : (-2147483648) ≤ n1) (f4 : n2 ≤ 2147483647) (f5 : (-2147483648) ≤ n2) (f6 : n3 ≤ 7) (f7 : 0 ≤ n3) (f8 : n4 ≤ 2147483647) (f9 : (-2147483648) ≤ n4) (f10 : n5 ≤ 2147483647) (f11 : (-2147483648) ≤ n5) (f12 : n6 ≤ 2147483647) (f13 : (-2147483648) ≤ n6) (f14 : n7 ≤ 2147483647) (f15 : (-2147483648) ≤ n7) (f16 : n8 ≤ 19) (f17 : 0 ≤ n8) (f18 : n9 ≤ 19) (f19 : 0 ≤ n9) (f20 : n10 = 285) (f21 : n11 ≤ 2147483647) (f22 : (-2147483648) ≤ n11) (f23 : n12 ≤ 2147483647) (f24 : (-2147483648) ≤ n12) (f25 : n13 ≤ 2147483647) (f26 : (-2147483648) ≤ n13) (f27 : n14 ≤ 19) (f28 : 0 ≤ n14) (f29 : n15 ≤ 19) (f30 : 0 ≤ n15) (f31 : n16 = 285) (f32 : (hLe T0 H0 H1 ∧ hFr s_306v.2.2.2.2 H0 H1 ∧ hWt T0 H1) ∧ (Ab_306v_46 n16 n15 n14 n13 n12 n11 n10 n9 n8 n7 n6 n5 n4 n3 n2 n1 n0 H0 H1 ∧ preb_306v n16 n15 n14 n13 n12 n11 H0) ∧ some q0 = some (mub_306v_46 n16 n15 n14 n13 n12 n11 n10 n9 n8 n7 n6 n5 n4 n3 n2 n1 n0 H0 H1)) (f33 : n17 = 338) (f34 : n17 = hV H1 (n10).toNat 76) (f35 : n18 ≤ 8) (f36 : 0 ≤ n18) (f37 : n18 = hV H1 (n17).toNat (n8).toNat) (f38 : n0 < n18) (f39 : n19 = 339) (f40 : n19 = hV H1 (n10).toNat 77) (f41 : n20 = 8) (f42 : n21 = w32 (n20 * n8)) (f43 : n22 = w32 (n21 + n0)) (f44 : n23 ≤ 59) (f45 : 0 ≤ n23) (f46 : n23 = hV H1 (n19).toNat (n22).toNat) (f47 : n24 = w32 (n2 - n23)) (f48 : n24 ≤ n7) (f49 : n25 = w32 (-n7)) (f50 : n24 < n25) (f51 : n26 = w32 (n0 + 1)) : n26 ≤ 8 := by
  have g4 := f32.2.1.1
  unfold Ab_306v_46 at g4
  have g3 := f32.2.1.2
  unfold preb_306v at g3
  have e1 : n18 = hV H0 338 (n8).toNat := (by rw [f33] at f37; exact f37 : n18 = hV H1 338 (n8).toNat).trans ((congrFun (fRow f32.1.2.1 338 kR_306v_338) _))
  have e3 : n23 = hV H0 339 (n22).toNat := (by rw [f39] at f46; exact f46 : n23 = hV H1 339 (n22).toNat).trans ((congrFun (fRow f32.1.2.1 339 kR_306v_339) _))
  have k0 := g4.1
  have k1 := g4.2.1
  have k2 := g4.2.2.1
  have k3 := g4.2.2.2.1
  have k4 := g4.2.2.2.2.1
  have y0 := g4.2.2.2.2.2.1
  have y1 := g4.2.2.2.2.2.2.1
  have y2 := g4.2.2.2.2.2.2.2.1
  have y3 := g4.2.2.2.2.2.2.2.2.1
  have y4 := g4.2.2.2.2.2.2.2.2.2.1
  have y5 := g4.2.2.2.2.2.2.2.2.2.2.1
  have y6 := g4.2.2.2.2.2.2.2.2.2.2.2
  have p0 := g3.1
  have p1 := g3.2.1
  have p2 := g3.2.2.1
  have p3 := g3.2.2.2.1
  have p4 := g3.2.2.2.2.1
  have p5 := g3.2.2.2.2.2
  clear g3
  clear g4
  clear f34 f37 f40 f46
  clear f32
  subst e1
  subst e3
  rw [f41] at f42
  first
  | (have ix0 : n21 = 8 * n8 := Eq.trans f42 (w32_iv (Iml 8 rfl (Iat f17 f16)) (by decide)); subst ix0; clear f42)
  | (have ix0 : n21 = 8 * n8 := Eq.trans f42 (w32_id (by omega) (by omega)); subst ix0; clear f42)
  | (unfold w32 at f42; have ix0 : n21 = 8 * n8 := (by omega); subst ix0)
  | skip
  first
  | (have ix1 : n22 = (8 * n8) + n0 := Eq.trans f43 (w32_iv (Iad (Iml 8 rfl (Iat f17 f16)) (Iat f1 f0)) (by decide)); subst ix1; clear f43)
  | (have ix1 : n22 = (8 * n8) + n0 := Eq.trans f43 (w32_id (by omega) (by omega)); subst ix1; clear f43)
  | (unfold w32 at f43; have ix1 : n22 = (8 * n8) + n0 := (by omega); subst ix1)
  | skip
  first
  | (have ix2 : n26 = n0 + 1 := Eq.trans f51 (w32_iv (Iad (Iat f1 f0) (IC 1)) (by decide)); subst ix2; clear f51)
  | (have ix2 : n26 = n0 + 1 := Eq.trans f51 (w32_id (by omega) (by omega)); subst ix2; clear f51)
  | (unfold w32 at f51; have ix2 : n26 = n0 + 1 := (by omega); subst ix2)
  | skip
  try unfold w32 at f42
  try unfold w32 at f43
  try unfold w32 at f47
  try unfold w32 at f49
  try unfold w32 at f51
  try subst k4
  try subst k3
  try subst k2
  try subst k1
  try subst k0
  subst y0
  subst y2
  subst y3
  omega
def g_306v_46_11 : vG := ([(10, [26, 16], [], 1), (42, [24, 25], [], 0), (14, [25, 9], [], 0), (45, [24, 9], [], 0), (2, [24, 14, 23], [], 0), (22, [23, 19, 22], [1], 0), (90, [23], [], 0), (91, [23], [], 59), (1, [22, 21, 16], [], 0), (3, [21, 20, 8], [], 0), (0, [20], [], 8), (20, [19, 6], [1], 77), (0, [19], [], 339), (42, [16, 18], [], 0), (22, [18, 17, 8], [1], 0), (90, [18], [], 0), (91, [18], [], 8), (20, [17, 6], [1], 76), (0, [17], [], 338), (5000, [0, 1, 2, 3, 4, 5, 6, 7, 8, 9, 10, 11, 12, 13, 14, 15, 16], [0, 1], 46), (0, [0], [], 285), (90, [1], [], 0), (91, [1], [], 19), (90, [2], [], 0), (91, [2], [], 19), (90, [3], [], -2147483648), (91, [3], [], 2147483647), (90, [4], [], -2147483648), (91, [4], [], 2147483647), (90, [5], [], -2147483648), (91, [5], [], 2147483647), (0, [6], [], 285), (90, [7], [], 0), (91, [7], [], 19), (90, [8], [], 0), (91, [8], [], 19), (90, [9], [], -2147483648), (91, [9], [], 2147483647), (90, [10], [], -2147483648), (91, [10], [], 2147483647), (90, [11], [], -2147483648), (91, [11], [], 2147483647), (90, [12], [], -2147483648), (91, [12], [], 2147483647), (90, [13], [], 0), (91, [13], [], 7), (90, [14], [], -2147483648), (91, [14], [], 2147483647), (90, [15], [], -2147483648), (91, [15], [], 2147483647), (90, [16], [], 0), (91, [16], [], 8)], (91, [26], [], 8))
theorem c_306v_46_11 {q0 : Nat} : vOkm T0 (eP e_306v L_306v A_306v mu_306v (some q0)) 6 g_306v_46_11 := vOk_inI fun ρ η f0 f1 f2 f3 f4 f5 f6 f7 f8 f9 f10 f11 f12 f13 f14 f15 f16 f17 f18 f19 f20 f21 f22 f23 f24 f25 f26 f27 f28 f29 f30 f31 f32 f33 f34 f35 f36 f37 f38 f39 f40 f41 f42 f43 f44 f45 f46 f47 f48 f49 f50 f51 => q_306v_16 (q0 := q0) (n0 := ρ 16) (n1 := ρ 15) (n2 := ρ 14) (n3 := ρ 13) (n4 := ρ 12) (n5 := ρ 11) (n6 := ρ 10) (n7 := ρ 9) (n8 := ρ 8) (n9 := ρ 7) (n10 := ρ 6) (n11 := ρ 5) (n12 := ρ 4) (n13 := ρ 3) (n14 := ρ 2) (n15 := ρ 1) (n16 := ρ 0) (n17 := ρ 17) (n18 := ρ 18) (n19 := ρ 19) (n20 := ρ 20) (n21 := ρ 21) (n22 := ρ 22) (n23 := ρ 23) (n24 := ρ 24) (n25 := ρ 25) (n26 := ρ 26) (H0 := η 0) (H1 := η 1) f51 f50 f49 f48 f47 f46 f45 f44 f43 f42 f41 f40 f39 f38 f37 f36 f35 f34 f33 f32 f31 f30 f29 f28 f27 f26 f25 f24 f23 f22 f21 f20 f19 f18 f17 f16 f15 f14 f13 f12 f11 f10 f9 f8 f7 f6 f5 f4 f3 f2 f1 f0
theorem q_306v_17 {q0 : Nat} {n0 n1 n2 n3 n4 n5 n6 n7 n8 n9 n10 n11 n12 n13 n14 n15 n16 n17 n18 n19 n20 n21 n22 n23 n24 n25 n26 : Int} {H0 H1 : gH} (f0 : n0 ≤ 8) (f1 : 0 ≤ n0) (f2 : n1 ≤ 2147483647) (f3 : (-2147483648) ≤ n1) (f4 : n2 ≤ 2147483647) (f5 : (-2147483648) ≤ n2) (f6 : n3 ≤ 7) (f7 : 0 ≤ n3) (f8 : n4 ≤ 2147483647) (f9 : (-2147483648) ≤ n4) (f10 : n5 ≤ 2147483647) (f11 : (-2147483648) ≤ n5) (f12 : n6 ≤ 2147483647) (f13 : (-2147483648) ≤ n6) (f14 : n7 ≤ 2147483647) (f15 : (-2147483648) ≤ n7) (f16 : n8 ≤ 19) (f17 : 0 ≤ n8) (f18 : n9 ≤ 19) (f19 : 0 ≤ n9) (f20 : n10 = 285) (f21 : n11 ≤ 2147483647) (f22 : (-2147483648) ≤ n11) (f23 : n12 ≤ 2147483647) (f24 : (-2147483648) ≤ n12) (f25 : n13 ≤ 2147483647) (f26 : (-2147483648) ≤ n13) (f27 : n14 ≤ 19) (f28 : 0 ≤ n14) (f29 : n15 ≤ 19) (f30 : 0 ≤ n15) (f31 : n16 = 285) (f32 : (hLe T0 H0 H1 ∧ hFr s_306v.2.2.2.2 H0 H1 ∧ hWt T0 H1) ∧ (Ab_306v_46 n16 n15 n14 n13 n12 n11 n10 n9 n8 n7 n6 n5 n4 n3 n2 n1 n0 H0 H1 ∧ preb_306v n16 n15 n14 n13 n12 n11 H0) ∧ some q0 = some (mub_306v_46 n16 n15 n14 n13 n12 n11 n10 n9 n8 n7 n6 n5 n4 n3 n2 n1 n0 H0 H1)) (f33 : n17 = 338) (f34 : n17 = hV H1 (n10).toNat 76) (f35 : n18 ≤ 8) (f36 : 0 ≤ n18) (f37 : n18 = hV H1 (n17).toNat (n8).toNat) (f38 : n0 < n18) (f39 : n19 = 339) (f40 : n19 = hV H1 (n10).toNat 77) (f41 : n20 = 8) (f42 : n21 = w32 (n20 * n8)) (f43 : n22 = w32 (n21 + n0)) (f44 : n23 ≤ 59) (f45 : 0 ≤ n23) (f46 : n23 = hV H1 (n19).toNat (n22).toNat) (f47 : n24 = w32 (n2 - n23)) (f48 : n24 ≤ n7) (f49 : n25 = w32 (-n7)) (f50 : n24 < n25) (f51 : n26 = w32 (n0 + 1)) : Ab_306v_46 n16 n15 n14 n13 n12 n11 n10 n9 n8 n7 n6 n5 n4 n3 n2 n1 n26 H0 H1 ∧ ∀ q, some q0 = some q → mub_306v_46 n16 n15 n14 n13 n12 n11 n10 n9 n8 n7 n6 n5 n4 n3 n2 n1 n26 H0 H1 < q := by
  have ga := f32.2.1.1
  unfold Ab_306v_46 at ga
  obtain ⟨k0_, k1_, k2_, k3_, k4_, y0, y1, y2, y3, y4, y5, y6⟩ := ga
  have pz := f32.2.1.2
  unfold preb_306v at pz
  have fa := fRow f32.1.2.1 339 kR_306v_339
  have fn := fRow f32.1.2.1 338 kR_306v_338
  have rn0 := f37
  rw [f33] at rn0
  rw [show ((338 : Int)).toNat = 338 from rfl] at rn0
  rw [fn] at rn0
  try rw [show n9 = n15 from k0_] at rn0
  try rw [show n8 = n14 from k1_] at rn0
  have ra := f46
  rw [f39] at ra
  rw [show ((339 : Int)).toNat = 339 from rfl] at ra
  rw [fa] at ra
  have u42 := f42
  rw [f41] at u42
  unfold w32 at u42
  have u43 := f43
  unfold w32 at u43
  have u47 := f47
  unfold w32 at u47
  have u49 := f49
  unfold w32 at u49
  have u51 := f51
  unfold w32 at u51
  have ri : (n22).toNat = 8 * (n14).toNat + (n0).toNat := by omega
  rw [ri] at ra
  have wa : (0 : Int) ≤ hV H0 339 (8 * (n14).toNat + (n0).toNat) ∧ hV H0 339 (8 * (n14).toNat + (n0).toNat) ≤ 59 := by omega
  have g5 := Option.some.inj f32.2.2
  unfold mub_306v_46 at g5
  unfold Ab_306v_46 mub_306v_46
  refine ⟨⟨k0_, k1_, k2_, k3_, k4_, y0, y1, y2, ?_, by omega, y5, y6⟩, fun q hq => ?_⟩
  · rw [show (n26).toNat = (n0).toNat + 1 by omega, mtB_no (by (try dsimp only); rw [← ra]; omega)]
    omega
  · have g6 := Option.some.inj hq
    subst g6
    omega
def g_306v_46_12 : vG := ([(10, [26, 16], [], 1), (42, [24, 25], [], 0), (14, [25, 9], [], 0), (45, [24, 9], [], 0), (2, [24, 14, 23], [], 0), (22, [23, 19, 22], [1], 0), (90, [23], [], 0), (91, [23], [], 59), (1, [22, 21, 16], [], 0), (3, [21, 20, 8], [], 0), (0, [20], [], 8), (20, [19, 6], [1], 77), (0, [19], [], 339), (42, [16, 18], [], 0), (22, [18, 17, 8], [1], 0), (90, [18], [], 0), (91, [18], [], 8), (20, [17, 6], [1], 76), (0, [17], [], 338), (5000, [0, 1, 2, 3, 4, 5, 6, 7, 8, 9, 10, 11, 12, 13, 14, 15, 16], [0, 1], 46), (0, [0], [], 285), (90, [1], [], 0), (91, [1], [], 19), (90, [2], [], 0), (91, [2], [], 19), (90, [3], [], -2147483648), (91, [3], [], 2147483647), (90, [4], [], -2147483648), (91, [4], [], 2147483647), (90, [5], [], -2147483648), (91, [5], [], 2147483647), (0, [6], [], 285), (90, [7], [], 0), (91, [7], [], 19), (90, [8], [], 0), (91, [8], [], 19), (90, [9], [], -2147483648), (91, [9], [], 2147483647), (90, [10], [], -2147483648), (91, [10], [], 2147483647), (90, [11], [], -2147483648), (91, [11], [], 2147483647), (90, [12], [], -2147483648), (91, [12], [], 2147483647), (90, [13], [], 0), (91, [13], [], 7), (90, [14], [], -2147483648), (91, [14], [], 2147483647), (90, [15], [], -2147483648), (91, [15], [], 2147483647), (90, [16], [], 0), (91, [16], [], 8)], (4000, [6, 7, 8, 9, 10, 11, 12, 13, 14, 15, 26], [1], 46))
theorem c_306v_46_12 {q0 : Nat} : vOkm T0 (eP e_306v L_306v A_306v mu_306v (some q0)) 6 g_306v_46_12 := vOk_inI fun ρ η f0 f1 f2 f3 f4 f5 f6 f7 f8 f9 f10 f11 f12 f13 f14 f15 f16 f17 f18 f19 f20 f21 f22 f23 f24 f25 f26 f27 f28 f29 f30 f31 f32 f33 f34 f35 f36 f37 f38 f39 f40 f41 f42 f43 f44 f45 f46 f47 f48 f49 f50 f51 => q_306v_17 (q0 := q0) (n0 := ρ 16) (n1 := ρ 15) (n2 := ρ 14) (n3 := ρ 13) (n4 := ρ 12) (n5 := ρ 11) (n6 := ρ 10) (n7 := ρ 9) (n8 := ρ 8) (n9 := ρ 7) (n10 := ρ 6) (n11 := ρ 5) (n12 := ρ 4) (n13 := ρ 3) (n14 := ρ 2) (n15 := ρ 1) (n16 := ρ 0) (n17 := ρ 17) (n18 := ρ 18) (n19 := ρ 19) (n20 := ρ 20) (n21 := ρ 21) (n22 := ρ 22) (n23 := ρ 23) (n24 := ρ 24) (n25 := ρ 25) (n26 := ρ 26) (H0 := η 0) (H1 := η 1) f51 f50 f49 f48 f47 f46 f45 f44 f43 f42 f41 f40 f39 f38 f37 f36 f35 f34 f33 f32 f31 f30 f29 f28 f27 f26 f25 f24 f23 f22 f21 f20 f19 f18 f17 f16 f15 f14 f13 f12 f11 f10 f9 f8 f7 f6 f5 f4 f3 f2 f1 f0
theorem q_306v_18 {q0 : Nat} {n0 n1 n2 n3 n4 n5 n6 n7 n8 n9 n10 n11 n12 n13 n14 n15 n16 n17 n18 n19 n20 n21 n22 n23 n24 n25 n26 : Int} {H0 H1 : gH} (f0 : n0 ≤ 8) (f1 : 0 ≤ n0) (f2 : n1 ≤ 2147483647) (f3 : (-2147483648) ≤ n1) (f4 : n2 ≤ 2147483647) (f5 : (-2147483648) ≤ n2) (f6 : n3 ≤ 7) (f7 : 0 ≤ n3) (f8 : n4 ≤ 2147483647) (f9 : (-2147483648) ≤ n4) (f10 : n5 ≤ 2147483647) (f11 : (-2147483648) ≤ n5) (f12 : n6 ≤ 2147483647) (f13 : (-2147483648) ≤ n6) (f14 : n7 ≤ 2147483647) (f15 : (-2147483648) ≤ n7) (f16 : n8 ≤ 19) (f17 : 0 ≤ n8) (f18 : n9 ≤ 19) (f19 : 0 ≤ n9) (f20 : n10 = 285) (f21 : n11 ≤ 2147483647) (f22 : (-2147483648) ≤ n11) (f23 : n12 ≤ 2147483647) (f24 : (-2147483648) ≤ n12) (f25 : n13 ≤ 2147483647) (f26 : (-2147483648) ≤ n13) (f27 : n14 ≤ 19) (f28 : 0 ≤ n14) (f29 : n15 ≤ 19) (f30 : 0 ≤ n15) (f31 : n16 = 285) (f32 : (hLe T0 H0 H1 ∧ hFr s_306v.2.2.2.2 H0 H1 ∧ hWt T0 H1) ∧ (Ab_306v_46 n16 n15 n14 n13 n12 n11 n10 n9 n8 n7 n6 n5 n4 n3 n2 n1 n0 H0 H1 ∧ preb_306v n16 n15 n14 n13 n12 n11 H0) ∧ some q0 = some (mub_306v_46 n16 n15 n14 n13 n12 n11 n10 n9 n8 n7 n6 n5 n4 n3 n2 n1 n0 H0 H1)) (f33 : n17 = 338) (f34 : n17 = hV H1 (n10).toNat 76) (f35 : n18 ≤ 8) (f36 : 0 ≤ n18) (f37 : n18 = hV H1 (n17).toNat (n8).toNat) (f38 : n0 < n18) (f39 : n19 = 339) (f40 : n19 = hV H1 (n10).toNat 77) (f41 : n20 = 8) (f42 : n21 = w32 (n20 * n8)) (f43 : n22 = w32 (n21 + n0)) (f44 : n23 ≤ 59) (f45 : 0 ≤ n23) (f46 : n23 = hV H1 (n19).toNat (n22).toNat) (f47 : n24 = w32 (n2 - n23)) (f48 : n24 ≤ n7) (f49 : n25 = w32 (-n7)) (f50 : n25 ≤ n24) (f51 : n26 = w32 (n0 + 1)) : 0 ≤ n26 := by
  have g4 := f32.2.1.1
  unfold Ab_306v_46 at g4
  have g3 := f32.2.1.2
  unfold preb_306v at g3
  have e1 : n18 = hV H0 338 (n8).toNat := (by rw [f33] at f37; exact f37 : n18 = hV H1 338 (n8).toNat).trans ((congrFun (fRow f32.1.2.1 338 kR_306v_338) _))
  have e3 : n23 = hV H0 339 (n22).toNat := (by rw [f39] at f46; exact f46 : n23 = hV H1 339 (n22).toNat).trans ((congrFun (fRow f32.1.2.1 339 kR_306v_339) _))
  have k0 := g4.1
  have k1 := g4.2.1
  have k2 := g4.2.2.1
  have k3 := g4.2.2.2.1
  have k4 := g4.2.2.2.2.1
  have y0 := g4.2.2.2.2.2.1
  have y1 := g4.2.2.2.2.2.2.1
  have y2 := g4.2.2.2.2.2.2.2.1
  have y3 := g4.2.2.2.2.2.2.2.2.1
  have y4 := g4.2.2.2.2.2.2.2.2.2.1
  have y5 := g4.2.2.2.2.2.2.2.2.2.2.1
  have y6 := g4.2.2.2.2.2.2.2.2.2.2.2
  have p0 := g3.1
  have p1 := g3.2.1
  have p2 := g3.2.2.1
  have p3 := g3.2.2.2.1
  have p4 := g3.2.2.2.2.1
  have p5 := g3.2.2.2.2.2
  clear g3
  clear g4
  clear f34 f37 f40 f46
  clear f32
  subst e1
  subst e3
  rw [f41] at f42
  first
  | (have ix0 : n21 = 8 * n8 := Eq.trans f42 (w32_iv (Iml 8 rfl (Iat f17 f16)) (by decide)); subst ix0; clear f42)
  | (have ix0 : n21 = 8 * n8 := Eq.trans f42 (w32_id (by omega) (by omega)); subst ix0; clear f42)
  | (unfold w32 at f42; have ix0 : n21 = 8 * n8 := (by omega); subst ix0)
  | skip
  first
  | (have ix1 : n22 = (8 * n8) + n0 := Eq.trans f43 (w32_iv (Iad (Iml 8 rfl (Iat f17 f16)) (Iat f1 f0)) (by decide)); subst ix1; clear f43)
  | (have ix1 : n22 = (8 * n8) + n0 := Eq.trans f43 (w32_id (by omega) (by omega)); subst ix1; clear f43)
  | (unfold w32 at f43; have ix1 : n22 = (8 * n8) + n0 := (by omega); subst ix1)
  | skip
  first
  | (have ix2 : n26 = n0 + 1 := Eq.trans f51 (w32_iv (Iad (Iat f1 f0) (IC 1)) (by decide)); subst ix2; clear f51)
  | (have ix2 : n26 = n0 + 1 := Eq.trans f51 (w32_id (by omega) (by omega)); subst ix2; clear f51)
  | (unfold w32 at f51; have ix2 : n26 = n0 + 1 := (by omega); subst ix2)
  | skip
  try unfold w32 at f42
  try unfold w32 at f43
  try unfold w32 at f47
  try unfold w32 at f49
  try unfold w32 at f51
  try subst k4
  try subst k3
  try subst k2
  try subst k1
  try subst k0
  subst y0
  subst y2
  subst y3
  omega
def g_306v_46_13 : vG := ([(10, [27, 16], [], 1), (43, [24, 25], [], 0), (14, [25, 9], [], 0), (45, [24, 9], [], 0), (2, [24, 14, 23], [], 0), (22, [23, 19, 22], [1], 0), (90, [23], [], 0), (91, [23], [], 59), (1, [22, 21, 16], [], 0), (3, [21, 20, 8], [], 0), (0, [20], [], 8), (20, [19, 6], [1], 77), (0, [19], [], 339), (42, [16, 18], [], 0), (22, [18, 17, 8], [1], 0), (90, [18], [], 0), (91, [18], [], 8), (20, [17, 6], [1], 76), (0, [17], [], 338), (5000, [0, 1, 2, 3, 4, 5, 6, 7, 8, 9, 10, 11, 12, 13, 14, 15, 16], [0, 1], 46), (0, [0], [], 285), (90, [1], [], 0), (91, [1], [], 19), (90, [2], [], 0), (91, [2], [], 19), (90, [3], [], -2147483648), (91, [3], [], 2147483647), (90, [4], [], -2147483648), (91, [4], [], 2147483647), (90, [5], [], -2147483648), (91, [5], [], 2147483647), (0, [6], [], 285), (90, [7], [], 0), (91, [7], [], 19), (90, [8], [], 0), (91, [8], [], 19), (90, [9], [], -2147483648), (91, [9], [], 2147483647), (90, [10], [], -2147483648), (91, [10], [], 2147483647), (90, [11], [], -2147483648), (91, [11], [], 2147483647), (90, [12], [], -2147483648), (91, [12], [], 2147483647), (90, [13], [], 0), (91, [13], [], 7), (90, [14], [], -2147483648), (91, [14], [], 2147483647), (90, [15], [], -2147483648), (91, [15], [], 2147483647), (90, [16], [], 0), (91, [16], [], 8)], (90, [27], [], 0))
theorem c_306v_46_13 {q0 : Nat} : vOkm T0 (eP e_306v L_306v A_306v mu_306v (some q0)) 6 g_306v_46_13 := vOk_inI fun ρ η f0 f1 f2 f3 f4 f5 f6 f7 f8 f9 f10 f11 f12 f13 f14 f15 f16 f17 f18 f19 f20 f21 f22 f23 f24 f25 f26 f27 f28 f29 f30 f31 f32 f33 f34 f35 f36 f37 f38 f39 f40 f41 f42 f43 f44 f45 f46 f47 f48 f49 f50 f51 => q_306v_18 (q0 := q0) (n0 := ρ 16) (n1 := ρ 15) (n2 := ρ 14) (n3 := ρ 13) (n4 := ρ 12) (n5 := ρ 11) (n6 := ρ 10) (n7 := ρ 9) (n8 := ρ 8) (n9 := ρ 7) (n10 := ρ 6) (n11 := ρ 5) (n12 := ρ 4) (n13 := ρ 3) (n14 := ρ 2) (n15 := ρ 1) (n16 := ρ 0) (n17 := ρ 17) (n18 := ρ 18) (n19 := ρ 19) (n20 := ρ 20) (n21 := ρ 21) (n22 := ρ 22) (n23 := ρ 23) (n24 := ρ 24) (n25 := ρ 25) (n26 := ρ 27) (H0 := η 0) (H1 := η 1) f51 f50 f49 f48 f47 f46 f45 f44 f43 f42 f41 f40 f39 f38 f37 f36 f35 f34 f33 f32 f31 f30 f29 f28 f27 f26 f25 f24 f23 f22 f21 f20 f19 f18 f17 f16 f15 f14 f13 f12 f11 f10 f9 f8 f7 f6 f5 f4 f3 f2 f1 f0
theorem q_306v_19 {q0 : Nat} {n0 n1 n2 n3 n4 n5 n6 n7 n8 n9 n10 n11 n12 n13 n14 n15 n16 n17 n18 n19 n20 n21 n22 n23 n24 n25 n26 : Int} {H0 H1 : gH} (f0 : n0 ≤ 8) (f1 : 0 ≤ n0) (f2 : n1 ≤ 2147483647) (f3 : (-2147483648) ≤ n1) (f4 : n2 ≤ 2147483647) (f5 : (-2147483648) ≤ n2) (f6 : n3 ≤ 7) (f7 : 0 ≤ n3) (f8 : n4 ≤ 2147483647) (f9 : (-2147483648) ≤ n4) (f10 : n5 ≤ 2147483647) (f11 : (-2147483648) ≤ n5) (f12 : n6 ≤ 2147483647) (f13 : (-2147483648) ≤ n6) (f14 : n7 ≤ 2147483647) (f15 : (-2147483648) ≤ n7) (f16 : n8 ≤ 19) (f17 : 0 ≤ n8) (f18 : n9 ≤ 19) (f19 : 0 ≤ n9) (f20 : n10 = 285) (f21 : n11 ≤ 2147483647) (f22 : (-2147483648) ≤ n11) (f23 : n12 ≤ 2147483647) (f24 : (-2147483648) ≤ n12) (f25 : n13 ≤ 2147483647) (f26 : (-2147483648) ≤ n13) (f27 : n14 ≤ 19) (f28 : 0 ≤ n14) (f29 : n15 ≤ 19) (f30 : 0 ≤ n15) (f31 : n16 = 285) (f32 : (hLe T0 H0 H1 ∧ hFr s_306v.2.2.2.2 H0 H1 ∧ hWt T0 H1) ∧ (Ab_306v_46 n16 n15 n14 n13 n12 n11 n10 n9 n8 n7 n6 n5 n4 n3 n2 n1 n0 H0 H1 ∧ preb_306v n16 n15 n14 n13 n12 n11 H0) ∧ some q0 = some (mub_306v_46 n16 n15 n14 n13 n12 n11 n10 n9 n8 n7 n6 n5 n4 n3 n2 n1 n0 H0 H1)) (f33 : n17 = 338) (f34 : n17 = hV H1 (n10).toNat 76) (f35 : n18 ≤ 8) (f36 : 0 ≤ n18) (f37 : n18 = hV H1 (n17).toNat (n8).toNat) (f38 : n0 < n18) (f39 : n19 = 339) (f40 : n19 = hV H1 (n10).toNat 77) (f41 : n20 = 8) (f42 : n21 = w32 (n20 * n8)) (f43 : n22 = w32 (n21 + n0)) (f44 : n23 ≤ 59) (f45 : 0 ≤ n23) (f46 : n23 = hV H1 (n19).toNat (n22).toNat) (f47 : n24 = w32 (n2 - n23)) (f48 : n24 ≤ n7) (f49 : n25 = w32 (-n7)) (f50 : n25 ≤ n24) (f51 : n26 = w32 (n0 + 1)) : n26 ≤ 8 := by
  have g4 := f32.2.1.1
  unfold Ab_306v_46 at g4
  have g3 := f32.2.1.2
  unfold preb_306v at g3
  have e1 : n18 = hV H0 338 (n8).toNat := (by rw [f33] at f37; exact f37 : n18 = hV H1 338 (n8).toNat).trans ((congrFun (fRow f32.1.2.1 338 kR_306v_338) _))
  have e3 : n23 = hV H0 339 (n22).toNat := (by rw [f39] at f46; exact f46 : n23 = hV H1 339 (n22).toNat).trans ((congrFun (fRow f32.1.2.1 339 kR_306v_339) _))
  have k0 := g4.1
  have k1 := g4.2.1
  have k2 := g4.2.2.1
  have k3 := g4.2.2.2.1
  have k4 := g4.2.2.2.2.1
  have y0 := g4.2.2.2.2.2.1
  have y1 := g4.2.2.2.2.2.2.1
  have y2 := g4.2.2.2.2.2.2.2.1
  have y3 := g4.2.2.2.2.2.2.2.2.1
  have y4 := g4.2.2.2.2.2.2.2.2.2.1
  have y5 := g4.2.2.2.2.2.2.2.2.2.2.1
  have y6 := g4.2.2.2.2.2.2.2.2.2.2.2
  have p0 := g3.1
  have p1 := g3.2.1
  have p2 := g3.2.2.1
  have p3 := g3.2.2.2.1
  have p4 := g3.2.2.2.2.1
  have p5 := g3.2.2.2.2.2
  clear g3
  clear g4
  clear f34 f37 f40 f46
  clear f32
  subst e1
  subst e3
  rw [f41] at f42
  first
  | (have ix0 : n21 = 8 * n8 := Eq.trans f42 (w32_iv (Iml 8 rfl (Iat f17 f16)) (by decide)); subst ix0; clear f42)
  | (have ix0 : n21 = 8 * n8 := Eq.trans f42 (w32_id (by omega) (by omega)); subst ix0; clear f42)
  | (unfold w32 at f42; have ix0 : n21 = 8 * n8 := (by omega); subst ix0)
  | skip
  first
  | (have ix1 : n22 = (8 * n8) + n0 := Eq.trans f43 (w32_iv (Iad (Iml 8 rfl (Iat f17 f16)) (Iat f1 f0)) (by decide)); subst ix1; clear f43)
  | (have ix1 : n22 = (8 * n8) + n0 := Eq.trans f43 (w32_id (by omega) (by omega)); subst ix1; clear f43)
  | (unfold w32 at f43; have ix1 : n22 = (8 * n8) + n0 := (by omega); subst ix1)
  | skip
  first
  | (have ix2 : n26 = n0 + 1 := Eq.trans f51 (w32_iv (Iad (Iat f1 f0) (IC 1)) (by decide)); subst ix2; clear f51)
  | (have ix2 : n26 = n0 + 1 := Eq.trans f51 (w32_id (by omega) (by omega)); subst ix2; clear f51)
  | (unfold w32 at f51; have ix2 : n26 = n0 + 1 := (by omega); subst ix2)
  | skip
  try unfold w32 at f42
  try unfold w32 at f43
  try unfold w32 at f47
  try unfold w32 at f49
  try unfold w32 at f51
  try subst k4
  try subst k3
  try subst k2
  try subst k1
  try subst k0
  subst y0
  subst y2
  subst y3
  omega
def g_306v_46_14 : vG := ([(10, [27, 16], [], 1), (43, [24, 25], [], 0), (14, [25, 9], [], 0), (45, [24, 9], [], 0), (2, [24, 14, 23], [], 0), (22, [23, 19, 22], [1], 0), (90, [23], [], 0), (91, [23], [], 59), (1, [22, 21, 16], [], 0), (3, [21, 20, 8], [], 0), (0, [20], [], 8), (20, [19, 6], [1], 77), (0, [19], [], 339), (42, [16, 18], [], 0), (22, [18, 17, 8], [1], 0), (90, [18], [], 0), (91, [18], [], 8), (20, [17, 6], [1], 76), (0, [17], [], 338), (5000, [0, 1, 2, 3, 4, 5, 6, 7, 8, 9, 10, 11, 12, 13, 14, 15, 16], [0, 1], 46), (0, [0], [], 285), (90, [1], [], 0), (91, [1], [], 19), (90, [2], [], 0), (91, [2], [], 19), (90, [3], [], -2147483648), (91, [3], [], 2147483647), (90, [4], [], -2147483648), (91, [4], [], 2147483647), (90, [5], [], -2147483648), (91, [5], [], 2147483647), (0, [6], [], 285), (90, [7], [], 0), (91, [7], [], 19), (90, [8], [], 0), (91, [8], [], 19), (90, [9], [], -2147483648), (91, [9], [], 2147483647), (90, [10], [], -2147483648), (91, [10], [], 2147483647), (90, [11], [], -2147483648), (91, [11], [], 2147483647), (90, [12], [], -2147483648), (91, [12], [], 2147483647), (90, [13], [], 0), (91, [13], [], 7), (90, [14], [], -2147483648), (91, [14], [], 2147483647), (90, [15], [], -2147483648), (91, [15], [], 2147483647), (90, [16], [], 0), (91, [16], [], 8)], (91, [27], [], 8))
theorem c_306v_46_14 {q0 : Nat} : vOkm T0 (eP e_306v L_306v A_306v mu_306v (some q0)) 6 g_306v_46_14 := vOk_inI fun ρ η f0 f1 f2 f3 f4 f5 f6 f7 f8 f9 f10 f11 f12 f13 f14 f15 f16 f17 f18 f19 f20 f21 f22 f23 f24 f25 f26 f27 f28 f29 f30 f31 f32 f33 f34 f35 f36 f37 f38 f39 f40 f41 f42 f43 f44 f45 f46 f47 f48 f49 f50 f51 => q_306v_19 (q0 := q0) (n0 := ρ 16) (n1 := ρ 15) (n2 := ρ 14) (n3 := ρ 13) (n4 := ρ 12) (n5 := ρ 11) (n6 := ρ 10) (n7 := ρ 9) (n8 := ρ 8) (n9 := ρ 7) (n10 := ρ 6) (n11 := ρ 5) (n12 := ρ 4) (n13 := ρ 3) (n14 := ρ 2) (n15 := ρ 1) (n16 := ρ 0) (n17 := ρ 17) (n18 := ρ 18) (n19 := ρ 19) (n20 := ρ 20) (n21 := ρ 21) (n22 := ρ 22) (n23 := ρ 23) (n24 := ρ 24) (n25 := ρ 25) (n26 := ρ 27) (H0 := η 0) (H1 := η 1) f51 f50 f49 f48 f47 f46 f45 f44 f43 f42 f41 f40 f39 f38 f37 f36 f35 f34 f33 f32 f31 f30 f29 f28 f27 f26 f25 f24 f23 f22 f21 f20 f19 f18 f17 f16 f15 f14 f13 f12 f11 f10 f9 f8 f7 f6 f5 f4 f3 f2 f1 f0
theorem q_306v_20 {q0 : Nat} {n0 n1 n2 n3 n4 n5 n6 n7 n8 n9 n10 n11 n12 n13 n14 n15 n16 n17 n18 n19 n20 n21 n22 n23 n24 n25 n26 n27 : Int} {H0 H1 : gH} (f0 : n0 ≤ 8) (f1 : 0 ≤ n0) (f2 : n1 ≤ 2147483647) (f3 : (-2147483648) ≤ n1) (f4 : n2 ≤ 2147483647) (f5 : (-2147483648) ≤ n2) (f6 : n3 ≤ 7) (f7 : 0 ≤ n3) (f8 : n4 ≤ 2147483647) (f9 : (-2147483648) ≤ n4) (f10 : n5 ≤ 2147483647) (f11 : (-2147483648) ≤ n5) (f12 : n6 ≤ 2147483647) (f13 : (-2147483648) ≤ n6) (f14 : n7 ≤ 2147483647) (f15 : (-2147483648) ≤ n7) (f16 : n8 ≤ 19) (f17 : 0 ≤ n8) (f18 : n9 ≤ 19) (f19 : 0 ≤ n9) (f20 : n10 = 285) (f21 : n11 ≤ 2147483647) (f22 : (-2147483648) ≤ n11) (f23 : n12 ≤ 2147483647) (f24 : (-2147483648) ≤ n12) (f25 : n13 ≤ 2147483647) (f26 : (-2147483648) ≤ n13) (f27 : n14 ≤ 19) (f28 : 0 ≤ n14) (f29 : n15 ≤ 19) (f30 : 0 ≤ n15) (f31 : n16 = 285) (f32 : (hLe T0 H0 H1 ∧ hFr s_306v.2.2.2.2 H0 H1 ∧ hWt T0 H1) ∧ (Ab_306v_46 n16 n15 n14 n13 n12 n11 n10 n9 n8 n7 n6 n5 n4 n3 n2 n1 n0 H0 H1 ∧ preb_306v n16 n15 n14 n13 n12 n11 H0) ∧ some q0 = some (mub_306v_46 n16 n15 n14 n13 n12 n11 n10 n9 n8 n7 n6 n5 n4 n3 n2 n1 n0 H0 H1)) (f33 : n17 = 338) (f34 : n17 = hV H1 (n10).toNat 76) (f35 : n18 ≤ 8) (f36 : 0 ≤ n18) (f37 : n18 = hV H1 (n17).toNat (n8).toNat) (f38 : n0 < n18) (f39 : n19 = 339) (f40 : n19 = hV H1 (n10).toNat 77) (f41 : n20 = 8) (f42 : n21 = w32 (n20 * n8)) (f43 : n22 = w32 (n21 + n0)) (f44 : n23 ≤ 59) (f45 : 0 ≤ n23) (f46 : n23 = hV H1 (n19).toNat (n22).toNat) (f47 : n24 = w32 (n2 - n23)) (f48 : n24 ≤ n7) (f49 : n25 = w32 (-n7)) (f50 : n25 ≤ n24) (f51 : n26 = 1) (f52 : n27 = w32 (n0 + 1)) : Ab_306v_46 n16 n15 n14 n13 n12 n11 n10 n9 n8 n7 n6 n5 n4 n3 n2 n26 n27 H0 H1 ∧ ∀ q, some q0 = some q → mub_306v_46 n16 n15 n14 n13 n12 n11 n10 n9 n8 n7 n6 n5 n4 n3 n2 n26 n27 H0 H1 < q := by
  have ga := f32.2.1.1
  unfold Ab_306v_46 at ga
  obtain ⟨k0_, k1_, k2_, k3_, k4_, y0, y1, y2, y3, y4, y5, y6⟩ := ga
  have pz := f32.2.1.2
  unfold preb_306v at pz
  have fa := fRow f32.1.2.1 339 kR_306v_339
  have fn := fRow f32.1.2.1 338 kR_306v_338
  have rn0 := f37
  rw [f33] at rn0
  rw [show ((338 : Int)).toNat = 338 from rfl] at rn0
  rw [fn] at rn0
  try rw [show n9 = n15 from k0_] at rn0
  try rw [show n8 = n14 from k1_] at rn0
  have ra := f46
  rw [f39] at ra
  rw [show ((339 : Int)).toNat = 339 from rfl] at ra
  rw [fa] at ra
  have u42 := f42
  rw [f41] at u42
  unfold w32 at u42
  have u43 := f43
  unfold w32 at u43
  have u47 := f47
  unfold w32 at u47
  have u49 := f49
  unfold w32 at u49
  have u52 := f52
  unfold w32 at u52
  have ri : (n22).toNat = 8 * (n14).toNat + (n0).toNat := by omega
  rw [ri] at ra
  have wa : (0 : Int) ≤ hV H0 339 (8 * (n14).toNat + (n0).toNat) ∧ hV H0 339 (8 * (n14).toNat + (n0).toNat) ≤ 59 := by omega
  have g5 := Option.some.inj f32.2.2
  unfold mub_306v_46 at g5
  unfold Ab_306v_46 mub_306v_46
  refine ⟨⟨k0_, k1_, k2_, k3_, k4_, y0, y1, y2, ?_, by omega, y5, y6⟩, fun q hq => ?_⟩
  · rw [show (n27).toNat = (n0).toNat + 1 by omega, mtB_yes (by (try dsimp only); rw [← ra]; omega)]
    omega
  · have g6 := Option.some.inj hq
    subst g6
    omega
def g_306v_46_15 : vG := ([(10, [27, 16], [], 1), (0, [26], [], 1), (43, [24, 25], [], 0), (14, [25, 9], [], 0), (45, [24, 9], [], 0), (2, [24, 14, 23], [], 0), (22, [23, 19, 22], [1], 0), (90, [23], [], 0), (91, [23], [], 59), (1, [22, 21, 16], [], 0), (3, [21, 20, 8], [], 0), (0, [20], [], 8), (20, [19, 6], [1], 77), (0, [19], [], 339), (42, [16, 18], [], 0), (22, [18, 17, 8], [1], 0), (90, [18], [], 0), (91, [18], [], 8), (20, [17, 6], [1], 76), (0, [17], [], 338), (5000, [0, 1, 2, 3, 4, 5, 6, 7, 8, 9, 10, 11, 12, 13, 14, 15, 16], [0, 1], 46), (0, [0], [], 285), (90, [1], [], 0), (91, [1], [], 19), (90, [2], [], 0), (91, [2], [], 19), (90, [3], [], -2147483648), (91, [3], [], 2147483647), (90, [4], [], -2147483648), (91, [4], [], 2147483647), (90, [5], [], -2147483648), (91, [5], [], 2147483647), (0, [6], [], 285), (90, [7], [], 0), (91, [7], [], 19), (90, [8], [], 0), (91, [8], [], 19), (90, [9], [], -2147483648), (91, [9], [], 2147483647), (90, [10], [], -2147483648), (91, [10], [], 2147483647), (90, [11], [], -2147483648), (91, [11], [], 2147483647), (90, [12], [], -2147483648), (91, [12], [], 2147483647), (90, [13], [], 0), (91, [13], [], 7), (90, [14], [], -2147483648), (91, [14], [], 2147483647), (90, [15], [], -2147483648), (91, [15], [], 2147483647), (90, [16], [], 0), (91, [16], [], 8)], (4000, [6, 7, 8, 9, 10, 11, 12, 13, 14, 26, 27], [1], 46))
theorem c_306v_46_15 {q0 : Nat} : vOkm T0 (eP e_306v L_306v A_306v mu_306v (some q0)) 6 g_306v_46_15 := vOk_inI fun ρ η f0 f1 f2 f3 f4 f5 f6 f7 f8 f9 f10 f11 f12 f13 f14 f15 f16 f17 f18 f19 f20 f21 f22 f23 f24 f25 f26 f27 f28 f29 f30 f31 f32 f33 f34 f35 f36 f37 f38 f39 f40 f41 f42 f43 f44 f45 f46 f47 f48 f49 f50 f51 f52 => q_306v_20 (q0 := q0) (n0 := ρ 16) (n1 := ρ 15) (n2 := ρ 14) (n3 := ρ 13) (n4 := ρ 12) (n5 := ρ 11) (n6 := ρ 10) (n7 := ρ 9) (n8 := ρ 8) (n9 := ρ 7) (n10 := ρ 6) (n11 := ρ 5) (n12 := ρ 4) (n13 := ρ 3) (n14 := ρ 2) (n15 := ρ 1) (n16 := ρ 0) (n17 := ρ 17) (n18 := ρ 18) (n19 := ρ 19) (n20 := ρ 20) (n21 := ρ 21) (n22 := ρ 22) (n23 := ρ 23) (n24 := ρ 24) (n25 := ρ 25) (n26 := ρ 26) (n27 := ρ 27) (H0 := η 0) (H1 := η 1) f52 f51 f50 f49 f48 f47 f46 f45 f44 f43 f42 f41 f40 f39 f38 f37 f36 f35 f34 f33 f32 f31 f30 f29 f28 f27 f26 f25 f24 f23 f22 f21 f20 f19 f18 f17 f16 f15 f14 f13 f12 f11 f10 f9 f8 f7 f6 f5 f4 f3 f2 f1 f0
def p_306v_46 : List vG := [g_306v_46_0,
  g_306v_46_1,
  g_306v_46_2,
  g_306v_46_3,
  g_306v_46_4,
  g_306v_46_5,
  g_306v_46_6,
  g_306v_46_7,
  g_306v_46_8,
  g_306v_46_9,
  g_306v_46_10,
  g_306v_46_11,
  g_306v_46_12,
  g_306v_46_13,
  g_306v_46_14,
  g_306v_46_15]
theorem r_306v_46 : vCovO false (eRc e_306v L_306v cs_306v 2000 (46, [(0, (3, 12, 285, 0)), (1, (0, 0, 19, 0)), (2, (0, 0, 19, 0)), (3, (0, -2147483648, 2147483647, 0)), (4, (0, -2147483648, 2147483647, 0)), (5, (0, -2147483648, 2147483647, 0)), (6, (0, -2147483648, 2147483647, 0)), (7, (0, 0, 7, 0)), (8, (0, -2147483648, 2147483647, 0)), (9, (0, -2147483648, 2147483647, 0)), (10, (0, 0, 8, 0))])) p_306v_46 = true := by decide +kernel
theorem m_306v (d : Nat) : eC e_306v (d + 1) := eC_ok (e := e_306v) (L := L_306v) (cs := cs_306v) (n := 2000) (d := d + 0) (A := A_306v) (μ := mu_306v) (tp := false) (p0 := p_306v_s) rfl trivial rfl (.inl rfl) (by decide +kernel) (fun z => nomatch z) r_306v_s (allC c_306v_s_0 allN) (allC (.inl ⟨p_306v_6, r_306v_6, fun q0 => (allC c_306v_6_0 (allC c_306v_6_1 (allC c_306v_6_2 (allC c_306v_6_3 allN))))⟩) (allC (.inl ⟨p_306v_46, r_306v_46, fun q0 => (allC c_306v_46_0 (allC c_306v_46_1 (allC c_306v_46_2 (allC c_306v_46_3 (allC c_306v_46_4 (allC c_306v_46_5 (allC c_306v_46_6 (allC c_306v_46_7 (allC c_306v_46_8 (allC c_306v_46_9 (allC c_306v_46_10 (allC c_306v_46_11 (allC c_306v_46_12 (allC c_306v_46_13 (allC c_306v_46_14 (allC c_306v_46_15 allN))))))))))))))))⟩) allN))
/- MixStageModel.fits (III)V -/
noncomputable def s_307v : vM := ([(3, 12, 285, 0), (0, 0, 19, 0), (0, 0, 19, 0), (0, -2147483648, 2147483647, 0)], (9, 0, 0, 0), 1, 0, [(12, 100), (12, 101), (12, 102)])
def preb_307v (a0 a1 a2 a3 : Int) (h : gH) : Prop := 0 ≤ a3 ∧ a3 ≤ 9
def pre_307v : List Int → gH → Prop := fun xs h => match xs with
  | [a0, a1, a2, a3] => preb_307v a0 a1 a2 a3 h
  | _ => False
def postb_307v (a0 a1 a2 a3 : Int) (h0 h : gH) : Prop := (hV h 285 100, hV h 285 101, hV h 285 102) = ffr (lkR h0 a1 a2 a3) 25 (-1, hV h0 285 101, hV h0 285 102)
def post_307v : List Int → gH → gH → Prop := fun xs h0 h => match xs with
  | [a0, a1, a2, a3] => postb_307v a0 a1 a2 a3 h0 h
  | _ => True
noncomputable def e_307v : vE := (307, s_307v, pre_307v, post_307v)
noncomputable def L_307v : List vE := [e_306v]
def cs_307v : List vC := [(8, [(0, (3, 12, 285, 0)), (1, (0, 0, 19, 0)), (2, (0, 0, 19, 0)), (3, (0, -2147483648, 2147483647, 0)), (4, (0, 0, 25, 0))]), (18, [(0, (3, 12, 285, 0)), (1, (0, 0, 19, 0)), (2, (0, 0, 19, 0)), (3, (0, -2147483648, 2147483647, 0)), (4, (0, 0, 24, 0)), (5, (0, -1, 3, 0))]), (27, [(0, (3, 12, 285, 0)), (1, (0, 0, 19, 0)), (2, (0, 0, 19, 0)), (3, (0, -2147483648, 2147483647, 0)), (4, (0, 0, 24, 0)), (5, (0, -1, 1, 0)), (6, (0, 0, 3, 0))])]
def Ab_307v_8 (a0 a1 a2 a3 x0 x1 x2 x3 x4 : Int) (h0 h : gH) : Prop := x1 = a1 ∧ x2 = a2 ∧ x3 = a3 ∧ (hV h 285 100, hV h 285 101, hV h 285 102) = ffr (lkR h0 a1 a2 a3) (x4).toNat (-1, hV h0 285 101, hV h0 285 102)
def mub_307v_8 (a0 a1 a2 a3 x0 x1 x2 x3 x4 : Int) (h0 h : gH) : Nat := (8589934592 + (2147483648 - x4).toNat) * 1208925819614629174706176 + 1208925819614629174706175
def Ab_307v_18 (a0 a1 a2 a3 x0 x1 x2 x3 x4 x5 : Int) (h0 h : gH) : Prop := x1 = a1 ∧ x2 = a2 ∧ x3 = a3 ∧ (hV h 285 100, hV h 285 101, hV h 285 102) = fat (lkR h0 a1 a2 a3) (x4).toNat x5 (-1, hV h0 285 101, hV h0 285 102) ∧ (x5 = -1 ∨ x5 = 1 ∨ x5 = 3)
def mub_307v_18 (a0 a1 a2 a3 x0 x1 x2 x3 x4 x5 : Int) (h0 h : gH) : Nat := (8589934592 + (2147483648 - x4).toNat) * 1208925819614629174706176 + (8589934592 + (2147483648 - x5).toNat) * 1099511627776 + 1099511627775
def Ab_307v_27 (a0 a1 a2 a3 x0 x1 x2 x3 x4 x5 x6 : Int) (h0 h : gH) : Prop := x1 = a1 ∧ x2 = a2 ∧ x3 = a3 ∧ (hV h 285 100, hV h 285 101, hV h 285 102) = gk (lkR h0 a1 a2 a3) (sgf x5 x4) (x6).toNat (fat (lkR h0 a1 a2 a3) (x4).toNat x5 (-1, hV h0 285 101, hV h0 285 102)) ∧ (x5 = -1 ∨ x5 = 1)
def mub_307v_27 (a0 a1 a2 a3 x0 x1 x2 x3 x4 x5 x6 : Int) (h0 h : gH) : Nat := (8589934592 + (2147483648 - x4).toNat) * 1208925819614629174706176 + (8589934592 + (2147483648 - x5).toNat) * 1099511627776 + (8589934592 + (2147483648 - x6).toNat) * 1
def A_307v : Int → List Int → gH → gH → Prop := fun c xs h0 h => match c.toNat with
  | 8 => (match xs with
    | [a0, a1, a2, a3, x0, x1, x2, x3, x4] => Ab_307v_8 a0 a1 a2 a3 x0 x1 x2 x3 x4 h0 h
    | _ => False)
  | 18 => (match xs with
    | [a0, a1, a2, a3, x0, x1, x2, x3, x4, x5] => Ab_307v_18 a0 a1 a2 a3 x0 x1 x2 x3 x4 x5 h0 h
    | _ => False)
  | 27 => (match xs with
    | [a0, a1, a2, a3, x0, x1, x2, x3, x4, x5, x6] => Ab_307v_27 a0 a1 a2 a3 x0 x1 x2 x3 x4 x5 x6 h0 h
    | _ => False)
  | _ => True
def mu_307v : Int → List Int → gH → gH → Nat := fun c xs h0 h => match c.toNat with
  | 8 => (match xs with
    | [a0, a1, a2, a3, x0, x1, x2, x3, x4] => mub_307v_8 a0 a1 a2 a3 x0 x1 x2 x3 x4 h0 h
    | _ => 0)
  | 18 => (match xs with
    | [a0, a1, a2, a3, x0, x1, x2, x3, x4, x5] => mub_307v_18 a0 a1 a2 a3 x0 x1 x2 x3 x4 x5 h0 h
    | _ => 0)
  | 27 => (match xs with
    | [a0, a1, a2, a3, x0, x1, x2, x3, x4, x5, x6] => mub_307v_27 a0 a1 a2 a3 x0 x1 x2 x3 x4 x5 x6 h0 h
    | _ => 0)
  | _ => 0
theorem q_307v_0 {n0 n1 n2 n3 n4 n5 n6 : Int} {H0 H1 : gH} (f0 : n0 ≤ 2147483647) (f1 : (-2147483648) ≤ n0) (f2 : n1 ≤ 19) (f3 : 0 ≤ n1) (f4 : n2 ≤ 19) (f5 : 0 ≤ n2) (f6 : n3 = 285) (f7 : hWt T0 H0 ∧ preb_307v n3 n2 n1 n0 H0) (f8 : n4 = (-1)) (f9 : n5 = 100) (f10 : hUpd H1 H0 n3 n5 n4) (f11 : n6 = 0) : Ab_307v_8 n3 n2 n1 n0 n3 n2 n1 n0 n6 H0 H1 ∧ ∀ q, none = some q → mub_307v_8 n3 n2 n1 n0 n3 n2 n1 n0 n6 H0 H1 < q := by
  have w100 : hV H1 285 100 = n4 := uSame f10 285 100 (by rw [f6]; rfl) (by rw [f9]; rfl)
  have w101 : hV H1 285 101 = hV H0 285 101 := uSlot f10 285 101 (by rw [f9]; decide)
  have w102 : hV H1 285 102 = hV H0 285 102 := uSlot f10 285 102 (by rw [f9]; decide)
  unfold Ab_307v_8
  refine ⟨⟨rfl, rfl, rfl, ?_⟩, fun q hq => nomatch hq⟩
  rw [w100, w101, w102, show (n6).toNat = 0 by omega]
  rw [show n4 = -1 by omega]
  rfl
def g_307v_s_0 : vG := ([(0, [6], [], 0), (80, [0, 5, 4], [1, 0], 0), (0, [5], [], 100), (0, [4], [], -1), (6000, [0, 1, 2, 3], [0], 0), (0, [0], [], 285), (90, [1], [], 0), (91, [1], [], 19), (90, [2], [], 0), (91, [2], [], 19), (90, [3], [], -2147483648), (91, [3], [], 2147483647)], (4000, [0, 1, 2, 3, 6], [1], 8))
theorem c_307v_s_0 : vOkm T0 (eP e_307v L_307v A_307v mu_307v none) 4 g_307v_s_0 := vOk_inI fun ρ η f0 f1 f2 f3 f4 f5 f6 f7 f8 f9 f10 f11 => q_307v_0 (n0 := ρ 3) (n1 := ρ 2) (n2 := ρ 1) (n3 := ρ 0) (n4 := ρ 4) (n5 := ρ 5) (n6 := ρ 6) (H0 := η 0) (H1 := η 1) f11 f10 f9 f8 f7 f6 f5 f4 f3 f2 f1 f0
def p_307v_s : List vG := [g_307v_s_0]
theorem r_307v_s : vCovO false (eR0 e_307v L_307v cs_307v 2000) p_307v_s = true := by decide +kernel
theorem q_307v_1 {q0 : Nat} {n0 n1 n2 n3 n4 n5 n6 n7 n8 n9 : Int} {H0 H1 : gH} (f0 : n0 ≤ 25) (f1 : 0 ≤ n0) (f2 : n1 ≤ 2147483647) (f3 : (-2147483648) ≤ n1) (f4 : n2 ≤ 19) (f5 : 0 ≤ n2) (f6 : n3 ≤ 19) (f7 : 0 ≤ n3) (f8 : n4 = 285) (f9 : n5 ≤ 2147483647) (f10 : (-2147483648) ≤ n5) (f11 : n6 ≤ 19) (f12 : 0 ≤ n6) (f13 : n7 ≤ 19) (f14 : 0 ≤ n7) (f15 : n8 = 285) (f16 : (hLe T0 H0 H1 ∧ hFr s_307v.2.2.2.2 H0 H1 ∧ hWt T0 H1) ∧ (Ab_307v_8 n8 n7 n6 n5 n4 n3 n2 n1 n0 H0 H1 ∧ preb_307v n8 n7 n6 n5 H0) ∧ some q0 = some (mub_307v_8 n8 n7 n6 n5 n4 n3 n2 n1 n0 H0 H1)) (f17 : n9 = 24) (f18 : n9 < n0) : postb_307v n8 n7 n6 n5 H0 H1 := by
  have ga := f16.2.1.1
  unfold Ab_307v_8 at ga
  obtain ⟨k0_, k1_, k2_, y0⟩ := ga
  have pz := f16.2.1.2
  unfold preb_307v at pz
  rw [show (n0).toNat = 25 by omega] at y0
  unfold postb_307v
  exact y0
def g_307v_8_0 : vG := ([(44, [8, 9], [], 0), (0, [9], [], 24), (5000, [0, 1, 2, 3, 4, 5, 6, 7, 8], [0, 1], 8), (0, [0], [], 285), (90, [1], [], 0), (91, [1], [], 19), (90, [2], [], 0), (91, [2], [], 19), (90, [3], [], -2147483648), (91, [3], [], 2147483647), (0, [4], [], 285), (90, [5], [], 0), (91, [5], [], 19), (90, [6], [], 0), (91, [6], [], 19), (90, [7], [], -2147483648), (91, [7], [], 2147483647), (90, [8], [], 0), (91, [8], [], 25)], (3000, [], [1], 133))
theorem c_307v_8_0 {q0 : Nat} : vOkm T0 (eP e_307v L_307v A_307v mu_307v (some q0)) 4 g_307v_8_0 := vOk_inI fun ρ η f0 f1 f2 f3 f4 f5 f6 f7 f8 f9 f10 f11 f12 f13 f14 f15 f16 f17 f18 => q_307v_1 (q0 := q0) (n0 := ρ 8) (n1 := ρ 7) (n2 := ρ 6) (n3 := ρ 5) (n4 := ρ 4) (n5 := ρ 3) (n6 := ρ 2) (n7 := ρ 1) (n8 := ρ 0) (n9 := ρ 9) (H0 := η 0) (H1 := η 1) f18 f17 f16 f15 f14 f13 f12 f11 f10 f9 f8 f7 f6 f5 f4 f3 f2 f1 f0
theorem q_307v_2 {q0 : Nat} {n0 n1 n2 n3 n4 n5 n6 n7 n8 n9 : Int} {H0 H1 : gH} (f0 : n0 ≤ 25) (f1 : 0 ≤ n0) (f2 : n1 ≤ 2147483647) (f3 : (-2147483648) ≤ n1) (f4 : n2 ≤ 19) (f5 : 0 ≤ n2) (f6 : n3 ≤ 19) (f7 : 0 ≤ n3) (f8 : n4 = 285) (f9 : n5 ≤ 2147483647) (f10 : (-2147483648) ≤ n5) (f11 : n6 ≤ 19) (f12 : 0 ≤ n6) (f13 : n7 ≤ 19) (f14 : 0 ≤ n7) (f15 : n8 = 285) (f16 : (hLe T0 H0 H1 ∧ hFr s_307v.2.2.2.2 H0 H1 ∧ hWt T0 H1) ∧ (Ab_307v_8 n8 n7 n6 n5 n4 n3 n2 n1 n0 H0 H1 ∧ preb_307v n8 n7 n6 n5 H0) ∧ some q0 = some (mub_307v_8 n8 n7 n6 n5 n4 n3 n2 n1 n0 H0 H1)) (f17 : n9 = 24) (f18 : n0 ≤ n9) : n0 ≤ 24 := by
  have g4 := f16.2.1.1
  unfold Ab_307v_8 at g4
  have g3 := f16.2.1.2
  unfold preb_307v at g3
  have k0 := g4.1
  have k1 := g4.2.1
  have k2 := g4.2.2.1
  have y0 := g4.2.2.2
  have p0 := g3.1
  have p1 := g3.2
  clear g3
  clear g4
  clear f16
  try subst k2
  try subst k1
  try subst k0
  omega
def g_307v_8_1 : vG := ([(45, [8, 9], [], 0), (0, [9], [], 24), (5000, [0, 1, 2, 3, 4, 5, 6, 7, 8], [0, 1], 8), (0, [0], [], 285), (90, [1], [], 0), (91, [1], [], 19), (90, [2], [], 0), (91, [2], [], 19), (90, [3], [], -2147483648), (91, [3], [], 2147483647), (0, [4], [], 285), (90, [5], [], 0), (91, [5], [], 19), (90, [6], [], 0), (91, [6], [], 19), (90, [7], [], -2147483648), (91, [7], [], 2147483647), (90, [8], [], 0), (91, [8], [], 25)], (91, [8], [], 24))
theorem c_307v_8_1 {q0 : Nat} : vOkm T0 (eP e_307v L_307v A_307v mu_307v (some q0)) 4 g_307v_8_1 := vOk_inI fun ρ η f0 f1 f2 f3 f4 f5 f6 f7 f8 f9 f10 f11 f12 f13 f14 f15 f16 f17 f18 => q_307v_2 (q0 := q0) (n0 := ρ 8) (n1 := ρ 7) (n2 := ρ 6) (n3 := ρ 5) (n4 := ρ 4) (n5 := ρ 3) (n6 := ρ 2) (n7 := ρ 1) (n8 := ρ 0) (n9 := ρ 9) (H0 := η 0) (H1 := η 1) f18 f17 f16 f15 f14 f13 f12 f11 f10 f9 f8 f7 f6 f5 f4 f3 f2 f1 f0
theorem q_307v_3 {q0 : Nat} {n0 n1 n2 n3 n4 n5 n6 n7 n8 n9 n10 : Int} {H0 H1 : gH} (f0 : n0 ≤ 25) (f1 : 0 ≤ n0) (f2 : n1 ≤ 2147483647) (f3 : (-2147483648) ≤ n1) (f4 : n2 ≤ 19) (f5 : 0 ≤ n2) (f6 : n3 ≤ 19) (f7 : 0 ≤ n3) (f8 : n4 = 285) (f9 : n5 ≤ 2147483647) (f10 : (-2147483648) ≤ n5) (f11 : n6 ≤ 19) (f12 : 0 ≤ n6) (f13 : n7 ≤ 19) (f14 : 0 ≤ n7) (f15 : n8 = 285) (f16 : (hLe T0 H0 H1 ∧ hFr s_307v.2.2.2.2 H0 H1 ∧ hWt T0 H1) ∧ (Ab_307v_8 n8 n7 n6 n5 n4 n3 n2 n1 n0 H0 H1 ∧ preb_307v n8 n7 n6 n5 H0) ∧ some q0 = some (mub_307v_8 n8 n7 n6 n5 n4 n3 n2 n1 n0 H0 H1)) (f17 : n9 = 24) (f18 : n0 ≤ n9) (f19 : n10 = (-1)) : Ab_307v_18 n8 n7 n6 n5 n4 n3 n2 n1 n0 n10 H0 H1 ∧ ∀ q, some q0 = some q → mub_307v_18 n8 n7 n6 n5 n4 n3 n2 n1 n0 n10 H0 H1 < q := by
  have ga := f16.2.1.1
  unfold Ab_307v_8 at ga
  obtain ⟨k0_, k1_, k2_, y0⟩ := ga
  have pz := f16.2.1.2
  unfold preb_307v at pz
  have g5 := Option.some.inj f16.2.2
  unfold mub_307v_8 at g5
  unfold Ab_307v_18 mub_307v_18
  refine ⟨⟨k0_, k1_, k2_, ?_, by omega⟩, fun q hq => ?_⟩
  · rw [y0]
    unfold fat
    rw [if_pos (by omega)]
  · have g6 := Option.some.inj hq
    subst g6
    omega
def g_307v_8_2 : vG := ([(0, [10], [], -1), (45, [8, 9], [], 0), (0, [9], [], 24), (5000, [0, 1, 2, 3, 4, 5, 6, 7, 8], [0, 1], 8), (0, [0], [], 285), (90, [1], [], 0), (91, [1], [], 19), (90, [2], [], 0), (91, [2], [], 19), (90, [3], [], -2147483648), (91, [3], [], 2147483647), (0, [4], [], 285), (90, [5], [], 0), (91, [5], [], 19), (90, [6], [], 0), (91, [6], [], 19), (90, [7], [], -2147483648), (91, [7], [], 2147483647), (90, [8], [], 0), (91, [8], [], 25)], (4000, [4, 5, 6, 7, 8, 10], [1], 18))
theorem c_307v_8_2 {q0 : Nat} : vOkm T0 (eP e_307v L_307v A_307v mu_307v (some q0)) 4 g_307v_8_2 := vOk_inI fun ρ η f0 f1 f2 f3 f4 f5 f6 f7 f8 f9 f10 f11 f12 f13 f14 f15 f16 f17 f18 f19 => q_307v_3 (q0 := q0) (n0 := ρ 8) (n1 := ρ 7) (n2 := ρ 6) (n3 := ρ 5) (n4 := ρ 4) (n5 := ρ 3) (n6 := ρ 2) (n7 := ρ 1) (n8 := ρ 0) (n9 := ρ 9) (n10 := ρ 10) (H0 := η 0) (H1 := η 1) f19 f18 f17 f16 f15 f14 f13 f12 f11 f10 f9 f8 f7 f6 f5 f4 f3 f2 f1 f0
def p_307v_8 : List vG := [g_307v_8_0,
  g_307v_8_1,
  g_307v_8_2]
theorem r_307v_8 : vCovO false (eRc e_307v L_307v cs_307v 2000 (8, [(0, (3, 12, 285, 0)), (1, (0, 0, 19, 0)), (2, (0, 0, 19, 0)), (3, (0, -2147483648, 2147483647, 0)), (4, (0, 0, 25, 0))])) p_307v_8 = true := by decide +kernel
theorem q_307v_4 {q0 : Nat} {n0 n1 n2 n3 n4 n5 n6 n7 n8 n9 n10 n11 : Int} {H0 H1 : gH} (f0 : n0 ≤ 3) (f1 : (-1) ≤ n0) (f2 : n1 ≤ 24) (f3 : 0 ≤ n1) (f4 : n2 ≤ 2147483647) (f5 : (-2147483648) ≤ n2) (f6 : n3 ≤ 19) (f7 : 0 ≤ n3) (f8 : n4 ≤ 19) (f9 : 0 ≤ n4) (f10 : n5 = 285) (f11 : n6 ≤ 2147483647) (f12 : (-2147483648) ≤ n6) (f13 : n7 ≤ 19) (f14 : 0 ≤ n7) (f15 : n8 ≤ 19) (f16 : 0 ≤ n8) (f17 : n9 = 285) (f18 : (hLe T0 H0 H1 ∧ hFr s_307v.2.2.2.2 H0 H1 ∧ hWt T0 H1) ∧ (Ab_307v_18 n9 n8 n7 n6 n5 n4 n3 n2 n1 n0 H0 H1 ∧ preb_307v n9 n8 n7 n6 H0) ∧ some q0 = some (mub_307v_18 n9 n8 n7 n6 n5 n4 n3 n2 n1 n0 H0 H1)) (f19 : n10 = 1) (f20 : n10 < n0) (f21 : n11 = w32 (n1 + 1)) : 0 ≤ n11 := by
  have g4 := f18.2.1.1
  unfold Ab_307v_18 at g4
  have g3 := f18.2.1.2
  unfold preb_307v at g3
  have k0 := g4.1
  have k1 := g4.2.1
  have k2 := g4.2.2.1
  have y0 := g4.2.2.2.1
  have y1 := g4.2.2.2.2
  have p0 := g3.1
  have p1 := g3.2
  clear g3
  clear g4
  clear f18
  first
  | (have ix0 : n11 = n1 + 1 := Eq.trans f21 (w32_iv (Iad (Iat f3 f2) (IC 1)) (by decide)); subst ix0; clear f21)
  | (have ix0 : n11 = n1 + 1 := Eq.trans f21 (w32_id (by omega) (by omega)); subst ix0; clear f21)
  | (unfold w32 at f21; have ix0 : n11 = n1 + 1 := (by omega); subst ix0)
  | skip
  try unfold w32 at f21
  try subst k2
  try subst k1
  try subst k0
  omega
def g_307v_18_0 : vG := ([(10, [11, 8], [], 1), (44, [9, 10], [], 0), (0, [10], [], 1), (5000, [0, 1, 2, 3, 4, 5, 6, 7, 8, 9], [0, 1], 18), (0, [0], [], 285), (90, [1], [], 0), (91, [1], [], 19), (90, [2], [], 0), (91, [2], [], 19), (90, [3], [], -2147483648), (91, [3], [], 2147483647), (0, [4], [], 285), (90, [5], [], 0), (91, [5], [], 19), (90, [6], [], 0), (91, [6], [], 19), (90, [7], [], -2147483648), (91, [7], [], 2147483647), (90, [8], [], 0), (91, [8], [], 24), (90, [9], [], -1), (91, [9], [], 3)], (90, [11], [], 0))
theorem c_307v_18_0 {q0 : Nat} : vOkm T0 (eP e_307v L_307v A_307v mu_307v (some q0)) 4 g_307v_18_0 := vOk_inI fun ρ η f0 f1 f2 f3 f4 f5 f6 f7 f8 f9 f10 f11 f12 f13 f14 f15 f16 f17 f18 f19 f20 f21 => q_307v_4 (q0 := q0) (n0 := ρ 9) (n1 := ρ 8) (n2 := ρ 7) (n3 := ρ 6) (n4 := ρ 5) (n5 := ρ 4) (n6 := ρ 3) (n7 := ρ 2) (n8 := ρ 1) (n9 := ρ 0) (n10 := ρ 10) (n11 := ρ 11) (H0 := η 0) (H1 := η 1) f21 f20 f19 f18 f17 f16 f15 f14 f13 f12 f11 f10 f9 f8 f7 f6 f5 f4 f3 f2 f1 f0
theorem q_307v_5 {q0 : Nat} {n0 n1 n2 n3 n4 n5 n6 n7 n8 n9 n10 n11 : Int} {H0 H1 : gH} (f0 : n0 ≤ 3) (f1 : (-1) ≤ n0) (f2 : n1 ≤ 24) (f3 : 0 ≤ n1) (f4 : n2 ≤ 2147483647) (f5 : (-2147483648) ≤ n2) (f6 : n3 ≤ 19) (f7 : 0 ≤ n3) (f8 : n4 ≤ 19) (f9 : 0 ≤ n4) (f10 : n5 = 285) (f11 : n6 ≤ 2147483647) (f12 : (-2147483648) ≤ n6) (f13 : n7 ≤ 19) (f14 : 0 ≤ n7) (f15 : n8 ≤ 19) (f16 : 0 ≤ n8) (f17 : n9 = 285) (f18 : (hLe T0 H0 H1 ∧ hFr s_307v.2.2.2.2 H0 H1 ∧ hWt T0 H1) ∧ (Ab_307v_18 n9 n8 n7 n6 n5 n4 n3 n2 n1 n0 H0 H1 ∧ preb_307v n9 n8 n7 n6 H0) ∧ some q0 = some (mub_307v_18 n9 n8 n7 n6 n5 n4 n3 n2 n1 n0 H0 H1)) (f19 : n10 = 1) (f20 : n10 < n0) (f21 : n11 = w32 (n1 + 1)) : n11 ≤ 25 := by
  have g4 := f18.2.1.1
  unfold Ab_307v_18 at g4
  have g3 := f18.2.1.2
  unfold preb_307v at g3
  have k0 := g4.1
  have k1 := g4.2.1
  have k2 := g4.2.2.1
  have y0 := g4.2.2.2.1
  have y1 := g4.2.2.2.2
  have p0 := g3.1
  have p1 := g3.2
  clear g3
  clear g4
  clear f18
  first
  | (have ix0 : n11 = n1 + 1 := Eq.trans f21 (w32_iv (Iad (Iat f3 f2) (IC 1)) (by decide)); subst ix0; clear f21)
  | (have ix0 : n11 = n1 + 1 := Eq.trans f21 (w32_id (by omega) (by omega)); subst ix0; clear f21)
  | (unfold w32 at f21; have ix0 : n11 = n1 + 1 := (by omega); subst ix0)
  | skip
  try unfold w32 at f21
  try subst k2
  try subst k1
  try subst k0
  omega
def g_307v_18_1 : vG := ([(10, [11, 8], [], 1), (44, [9, 10], [], 0), (0, [10], [], 1), (5000, [0, 1, 2, 3, 4, 5, 6, 7, 8, 9], [0, 1], 18), (0, [0], [], 285), (90, [1], [], 0), (91, [1], [], 19), (90, [2], [], 0), (91, [2], [], 19), (90, [3], [], -2147483648), (91, [3], [], 2147483647), (0, [4], [], 285), (90, [5], [], 0), (91, [5], [], 19), (90, [6], [], 0), (91, [6], [], 19), (90, [7], [], -2147483648), (91, [7], [], 2147483647), (90, [8], [], 0), (91, [8], [], 24), (90, [9], [], -1), (91, [9], [], 3)], (91, [11], [], 25))
theorem c_307v_18_1 {q0 : Nat} : vOkm T0 (eP e_307v L_307v A_307v mu_307v (some q0)) 4 g_307v_18_1 := vOk_inI fun ρ η f0 f1 f2 f3 f4 f5 f6 f7 f8 f9 f10 f11 f12 f13 f14 f15 f16 f17 f18 f19 f20 f21 => q_307v_5 (q0 := q0) (n0 := ρ 9) (n1 := ρ 8) (n2 := ρ 7) (n3 := ρ 6) (n4 := ρ 5) (n5 := ρ 4) (n6 := ρ 3) (n7 := ρ 2) (n8 := ρ 1) (n9 := ρ 0) (n10 := ρ 10) (n11 := ρ 11) (H0 := η 0) (H1 := η 1) f21 f20 f19 f18 f17 f16 f15 f14 f13 f12 f11 f10 f9 f8 f7 f6 f5 f4 f3 f2 f1 f0
theorem q_307v_6 {q0 : Nat} {n0 n1 n2 n3 n4 n5 n6 n7 n8 n9 n10 n11 : Int} {H0 H1 : gH} (f0 : n0 ≤ 3) (f1 : (-1) ≤ n0) (f2 : n1 ≤ 24) (f3 : 0 ≤ n1) (f4 : n2 ≤ 2147483647) (f5 : (-2147483648) ≤ n2) (f6 : n3 ≤ 19) (f7 : 0 ≤ n3) (f8 : n4 ≤ 19) (f9 : 0 ≤ n4) (f10 : n5 = 285) (f11 : n6 ≤ 2147483647) (f12 : (-2147483648) ≤ n6) (f13 : n7 ≤ 19) (f14 : 0 ≤ n7) (f15 : n8 ≤ 19) (f16 : 0 ≤ n8) (f17 : n9 = 285) (f18 : (hLe T0 H0 H1 ∧ hFr s_307v.2.2.2.2 H0 H1 ∧ hWt T0 H1) ∧ (Ab_307v_18 n9 n8 n7 n6 n5 n4 n3 n2 n1 n0 H0 H1 ∧ preb_307v n9 n8 n7 n6 H0) ∧ some q0 = some (mub_307v_18 n9 n8 n7 n6 n5 n4 n3 n2 n1 n0 H0 H1)) (f19 : n10 = 1) (f20 : n10 < n0) (f21 : n11 = w32 (n1 + 1)) : Ab_307v_8 n9 n8 n7 n6 n5 n4 n3 n2 n11 H0 H1 ∧ ∀ q, some q0 = some q → mub_307v_8 n9 n8 n7 n6 n5 n4 n3 n2 n11 H0 H1 < q := by
  have ga := f18.2.1.1
  unfold Ab_307v_18 at ga
  obtain ⟨k0_, k1_, k2_, y0, y1⟩ := ga
  have pz := f18.2.1.2
  unfold preb_307v at pz
  have u21 := f21
  unfold w32 at u21
  have g5 := Option.some.inj f18.2.2
  unfold mub_307v_18 at g5
  unfold Ab_307v_8 mub_307v_8
  refine ⟨⟨k0_, k1_, k2_, ?_⟩, fun q hq => ?_⟩
  · rw [y0, show (n11).toNat = (n1).toNat + 1 by omega]
    unfold fat
    rw [if_neg (by omega), if_neg (by omega)]
  · have g6 := Option.some.inj hq
    subst g6
    omega
def g_307v_18_2 : vG := ([(10, [11, 8], [], 1), (44, [9, 10], [], 0), (0, [10], [], 1), (5000, [0, 1, 2, 3, 4, 5, 6, 7, 8, 9], [0, 1], 18), (0, [0], [], 285), (90, [1], [], 0), (91, [1], [], 19), (90, [2], [], 0), (91, [2], [], 19), (90, [3], [], -2147483648), (91, [3], [], 2147483647), (0, [4], [], 285), (90, [5], [], 0), (91, [5], [], 19), (90, [6], [], 0), (91, [6], [], 19), (90, [7], [], -2147483648), (91, [7], [], 2147483647), (90, [8], [], 0), (91, [8], [], 24), (90, [9], [], -1), (91, [9], [], 3)], (4000, [4, 5, 6, 7, 11], [1], 8))
theorem c_307v_18_2 {q0 : Nat} : vOkm T0 (eP e_307v L_307v A_307v mu_307v (some q0)) 4 g_307v_18_2 := vOk_inI fun ρ η f0 f1 f2 f3 f4 f5 f6 f7 f8 f9 f10 f11 f12 f13 f14 f15 f16 f17 f18 f19 f20 f21 => q_307v_6 (q0 := q0) (n0 := ρ 9) (n1 := ρ 8) (n2 := ρ 7) (n3 := ρ 6) (n4 := ρ 5) (n5 := ρ 4) (n6 := ρ 3) (n7 := ρ 2) (n8 := ρ 1) (n9 := ρ 0) (n10 := ρ 10) (n11 := ρ 11) (H0 := η 0) (H1 := η 1) f21 f20 f19 f18 f17 f16 f15 f14 f13 f12 f11 f10 f9 f8 f7 f6 f5 f4 f3 f2 f1 f0
theorem q_307v_7 {q0 : Nat} {n0 n1 n2 n3 n4 n5 n6 n7 n8 n9 n10 : Int} {H0 H1 : gH} (f0 : n0 ≤ 3) (f1 : (-1) ≤ n0) (f2 : n1 ≤ 24) (f3 : 0 ≤ n1) (f4 : n2 ≤ 2147483647) (f5 : (-2147483648) ≤ n2) (f6 : n3 ≤ 19) (f7 : 0 ≤ n3) (f8 : n4 ≤ 19) (f9 : 0 ≤ n4) (f10 : n5 = 285) (f11 : n6 ≤ 2147483647) (f12 : (-2147483648) ≤ n6) (f13 : n7 ≤ 19) (f14 : 0 ≤ n7) (f15 : n8 ≤ 19) (f16 : 0 ≤ n8) (f17 : n9 = 285) (f18 : (hLe T0 H0 H1 ∧ hFr s_307v.2.2.2.2 H0 H1 ∧ hWt T0 H1) ∧ (Ab_307v_18 n9 n8 n7 n6 n5 n4 n3 n2 n1 n0 H0 H1 ∧ preb_307v n9 n8 n7 n6 H0) ∧ some q0 = some (mub_307v_18 n9 n8 n7 n6 n5 n4 n3 n2 n1 n0 H0 H1)) (f19 : n10 = 1) (f20 : n0 ≤ n10) : n0 ≤ 1 := by
  have g4 := f18.2.1.1
  unfold Ab_307v_18 at g4
  have g3 := f18.2.1.2
  unfold preb_307v at g3
  have k0 := g4.1
  have k1 := g4.2.1
  have k2 := g4.2.2.1
  have y0 := g4.2.2.2.1
  have y1 := g4.2.2.2.2
  have p0 := g3.1
  have p1 := g3.2
  clear g3
  clear g4
  clear f18
  try subst k2
  try subst k1
  try subst k0
  omega
def g_307v_18_3 : vG := ([(45, [9, 10], [], 0), (0, [10], [], 1), (5000, [0, 1, 2, 3, 4, 5, 6, 7, 8, 9], [0, 1], 18), (0, [0], [], 285), (90, [1], [], 0), (91, [1], [], 19), (90, [2], [], 0), (91, [2], [], 19), (90, [3], [], -2147483648), (91, [3], [], 2147483647), (0, [4], [], 285), (90, [5], [], 0), (91, [5], [], 19), (90, [6], [], 0), (91, [6], [], 19), (90, [7], [], -2147483648), (91, [7], [], 2147483647), (90, [8], [], 0), (91, [8], [], 24), (90, [9], [], -1), (91, [9], [], 3)], (91, [9], [], 1))
theorem c_307v_18_3 {q0 : Nat} : vOkm T0 (eP e_307v L_307v A_307v mu_307v (some q0)) 4 g_307v_18_3 := vOk_inI fun ρ η f0 f1 f2 f3 f4 f5 f6 f7 f8 f9 f10 f11 f12 f13 f14 f15 f16 f17 f18 f19 f20 => q_307v_7 (q0 := q0) (n0 := ρ 9) (n1 := ρ 8) (n2 := ρ 7) (n3 := ρ 6) (n4 := ρ 5) (n5 := ρ 4) (n6 := ρ 3) (n7 := ρ 2) (n8 := ρ 1) (n9 := ρ 0) (n10 := ρ 10) (H0 := η 0) (H1 := η 1) f20 f19 f18 f17 f16 f15 f14 f13 f12 f11 f10 f9 f8 f7 f6 f5 f4 f3 f2 f1 f0
theorem q_307v_8 {q0 : Nat} {n0 n1 n2 n3 n4 n5 n6 n7 n8 n9 n10 n11 : Int} {H0 H1 : gH} (f0 : n0 ≤ 3) (f1 : (-1) ≤ n0) (f2 : n1 ≤ 24) (f3 : 0 ≤ n1) (f4 : n2 ≤ 2147483647) (f5 : (-2147483648) ≤ n2) (f6 : n3 ≤ 19) (f7 : 0 ≤ n3) (f8 : n4 ≤ 19) (f9 : 0 ≤ n4) (f10 : n5 = 285) (f11 : n6 ≤ 2147483647) (f12 : (-2147483648) ≤ n6) (f13 : n7 ≤ 19) (f14 : 0 ≤ n7) (f15 : n8 ≤ 19) (f16 : 0 ≤ n8) (f17 : n9 = 285) (f18 : (hLe T0 H0 H1 ∧ hFr s_307v.2.2.2.2 H0 H1 ∧ hWt T0 H1) ∧ (Ab_307v_18 n9 n8 n7 n6 n5 n4 n3 n2 n1 n0 H0 H1 ∧ preb_307v n9 n8 n7 n6 H0) ∧ some q0 = some (mub_307v_18 n9 n8 n7 n6 n5 n4 n3 n2 n1 n0 H0 H1)) (f19 : n10 = 1) (f20 : n0 ≤ n10) (f21 : n11 = 0) : Ab_307v_27 n9 n8 n7 n6 n5 n4 n3 n2 n1 n0 n11 H0 H1 ∧ ∀ q, some q0 = some q → mub_307v_27 n9 n8 n7 n6 n5 n4 n3 n2 n1 n0 n11 H0 H1 < q := by
  have ga := f18.2.1.1
  unfold Ab_307v_18 at ga
  obtain ⟨k0_, k1_, k2_, y0, y1⟩ := ga
  have pz := f18.2.1.2
  unfold preb_307v at pz
  have g5 := Option.some.inj f18.2.2
  unfold mub_307v_18 at g5
  unfold Ab_307v_27 mub_307v_27
  refine ⟨⟨k0_, k1_, k2_, ?_, by omega⟩, fun q hq => ?_⟩
  · rw [y0, show (n11).toNat = 0 by omega]
    rfl
  · have g6 := Option.some.inj hq
    subst g6
    omega
def g_307v_18_4 : vG := ([(0, [11], [], 0), (45, [9, 10], [], 0), (0, [10], [], 1), (5000, [0, 1, 2, 3, 4, 5, 6, 7, 8, 9], [0, 1], 18), (0, [0], [], 285), (90, [1], [], 0), (91, [1], [], 19), (90, [2], [], 0), (91, [2], [], 19), (90, [3], [], -2147483648), (91, [3], [], 2147483647), (0, [4], [], 285), (90, [5], [], 0), (91, [5], [], 19), (90, [6], [], 0), (91, [6], [], 19), (90, [7], [], -2147483648), (91, [7], [], 2147483647), (90, [8], [], 0), (91, [8], [], 24), (90, [9], [], -1), (91, [9], [], 3)], (4000, [4, 5, 6, 7, 8, 9, 11], [1], 27))
theorem c_307v_18_4 {q0 : Nat} : vOkm T0 (eP e_307v L_307v A_307v mu_307v (some q0)) 4 g_307v_18_4 := vOk_inI fun ρ η f0 f1 f2 f3 f4 f5 f6 f7 f8 f9 f10 f11 f12 f13 f14 f15 f16 f17 f18 f19 f20 f21 => q_307v_8 (q0 := q0) (n0 := ρ 9) (n1 := ρ 8) (n2 := ρ 7) (n3 := ρ 6) (n4 := ρ 5) (n5 := ρ 4) (n6 := ρ 3) (n7 := ρ 2) (n8 := ρ 1) (n9 := ρ 0) (n10 := ρ 10) (n11 := ρ 11) (H0 := η 0) (H1 := η 1) f21 f20 f19 f18 f17 f16 f15 f14 f13 f12 f11 f10 f9 f8 f7 f6 f5 f4 f3 f2 f1 f0
def p_307v_18 : List vG := [g_307v_18_0,
  g_307v_18_1,
  g_307v_18_2,
  g_307v_18_3,
  g_307v_18_4]
theorem r_307v_18 : vCovO false (eRc e_307v L_307v cs_307v 2000 (18, [(0, (3, 12, 285, 0)), (1, (0, 0, 19, 0)), (2, (0, 0, 19, 0)), (3, (0, -2147483648, 2147483647, 0)), (4, (0, 0, 24, 0)), (5, (0, -1, 3, 0))])) p_307v_18 = true := by decide +kernel
theorem q_307v_9 {q0 : Nat} {n0 n1 n2 n3 n4 n5 n6 n7 n8 n9 n10 n11 n12 : Int} {H0 H1 : gH} (f0 : n0 ≤ 3) (f1 : 0 ≤ n0) (f2 : n1 ≤ 1) (f3 : (-1) ≤ n1) (f4 : n2 ≤ 24) (f5 : 0 ≤ n2) (f6 : n3 ≤ 2147483647) (f7 : (-2147483648) ≤ n3) (f8 : n4 ≤ 19) (f9 : 0 ≤ n4) (f10 : n5 ≤ 19) (f11 : 0 ≤ n5) (f12 : n6 = 285) (f13 : n7 ≤ 2147483647) (f14 : (-2147483648) ≤ n7) (f15 : n8 ≤ 19) (f16 : 0 ≤ n8) (f17 : n9 ≤ 19) (f18 : 0 ≤ n9) (f19 : n10 = 285) (f20 : (hLe T0 H0 H1 ∧ hFr s_307v.2.2.2.2 H0 H1 ∧ hWt T0 H1) ∧ (Ab_307v_27 n10 n9 n8 n7 n6 n5 n4 n3 n2 n1 n0 H0 H1 ∧ preb_307v n10 n9 n8 n7 H0) ∧ some q0 = some (mub_307v_27 n10 n9 n8 n7 n6 n5 n4 n3 n2 n1 n0 H0 H1)) (f21 : n11 = 3) (f22 : n11 ≤ n0) (f23 : n12 = w32 (n1 + 2)) : (-1) ≤ n12 := by
  have g4 := f20.2.1.1
  unfold Ab_307v_27 at g4
  have g3 := f20.2.1.2
  unfold preb_307v at g3
  have k0 := g4.1
  have k1 := g4.2.1
  have k2 := g4.2.2.1
  have y0 := g4.2.2.2.1
  have y1 := g4.2.2.2.2
  have p0 := g3.1
  have p1 := g3.2
  clear g3
  clear g4
  clear f20
  first
  | (have ix0 : n12 = n1 + 2 := Eq.trans f23 (w32_iv (Iad (Iat f3 f2) (IC 2)) (by decide)); subst ix0; clear f23)
  | (have ix0 : n12 = n1 + 2 := Eq.trans f23 (w32_id (by omega) (by omega)); subst ix0; clear f23)
  | (unfold w32 at f23; have ix0 : n12 = n1 + 2 := (by omega); subst ix0)
  | skip
  try unfold w32 at f23
  try subst k2
  try subst k1
  try subst k0
  omega
def g_307v_27_0 : vG := ([(10, [12, 9], [], 2), (43, [10, 11], [], 0), (0, [11], [], 3), (5000, [0, 1, 2, 3, 4, 5, 6, 7, 8, 9, 10], [0, 1], 27), (0, [0], [], 285), (90, [1], [], 0), (91, [1], [], 19), (90, [2], [], 0), (91, [2], [], 19), (90, [3], [], -2147483648), (91, [3], [], 2147483647), (0, [4], [], 285), (90, [5], [], 0), (91, [5], [], 19), (90, [6], [], 0), (91, [6], [], 19), (90, [7], [], -2147483648), (91, [7], [], 2147483647), (90, [8], [], 0), (91, [8], [], 24), (90, [9], [], -1), (91, [9], [], 1), (90, [10], [], 0), (91, [10], [], 3)], (90, [12], [], -1))
theorem c_307v_27_0 {q0 : Nat} : vOkm T0 (eP e_307v L_307v A_307v mu_307v (some q0)) 4 g_307v_27_0 := vOk_inI fun ρ η f0 f1 f2 f3 f4 f5 f6 f7 f8 f9 f10 f11 f12 f13 f14 f15 f16 f17 f18 f19 f20 f21 f22 f23 => q_307v_9 (q0 := q0) (n0 := ρ 10) (n1 := ρ 9) (n2 := ρ 8) (n3 := ρ 7) (n4 := ρ 6) (n5 := ρ 5) (n6 := ρ 4) (n7 := ρ 3) (n8 := ρ 2) (n9 := ρ 1) (n10 := ρ 0) (n11 := ρ 11) (n12 := ρ 12) (H0 := η 0) (H1 := η 1) f23 f22 f21 f20 f19 f18 f17 f16 f15 f14 f13 f12 f11 f10 f9 f8 f7 f6 f5 f4 f3 f2 f1 f0
theorem q_307v_10 {q0 : Nat} {n0 n1 n2 n3 n4 n5 n6 n7 n8 n9 n10 n11 n12 : Int} {H0 H1 : gH} (f0 : n0 ≤ 3) (f1 : 0 ≤ n0) (f2 : n1 ≤ 1) (f3 : (-1) ≤ n1) (f4 : n2 ≤ 24) (f5 : 0 ≤ n2) (f6 : n3 ≤ 2147483647) (f7 : (-2147483648) ≤ n3) (f8 : n4 ≤ 19) (f9 : 0 ≤ n4) (f10 : n5 ≤ 19) (f11 : 0 ≤ n5) (f12 : n6 = 285) (f13 : n7 ≤ 2147483647) (f14 : (-2147483648) ≤ n7) (f15 : n8 ≤ 19) (f16 : 0 ≤ n8) (f17 : n9 ≤ 19) (f18 : 0 ≤ n9) (f19 : n10 = 285) (f20 : (hLe T0 H0 H1 ∧ hFr s_307v.2.2.2.2 H0 H1 ∧ hWt T0 H1) ∧ (Ab_307v_27 n10 n9 n8 n7 n6 n5 n4 n3 n2 n1 n0 H0 H1 ∧ preb_307v n10 n9 n8 n7 H0) ∧ some q0 = some (mub_307v_27 n10 n9 n8 n7 n6 n5 n4 n3 n2 n1 n0 H0 H1)) (f21 : n11 = 3) (f22 : n11 ≤ n0) (f23 : n12 = w32 (n1 + 2)) : n12 ≤ 3 := by
  have g4 := f20.2.1.1
  unfold Ab_307v_27 at g4
  have g3 := f20.2.1.2
  unfold preb_307v at g3
  have k0 := g4.1
  have k1 := g4.2.1
  have k2 := g4.2.2.1
  have y0 := g4.2.2.2.1
  have y1 := g4.2.2.2.2
  have p0 := g3.1
  have p1 := g3.2
  clear g3
  clear g4
  clear f20
  first
  | (have ix0 : n12 = n1 + 2 := Eq.trans f23 (w32_iv (Iad (Iat f3 f2) (IC 2)) (by decide)); subst ix0; clear f23)
  | (have ix0 : n12 = n1 + 2 := Eq.trans f23 (w32_id (by omega) (by omega)); subst ix0; clear f23)
  | (unfold w32 at f23; have ix0 : n12 = n1 + 2 := (by omega); subst ix0)
  | skip
  try unfold w32 at f23
  try subst k2
  try subst k1
  try subst k0
  omega
def g_307v_27_1 : vG := ([(10, [12, 9], [], 2), (43, [10, 11], [], 0), (0, [11], [], 3), (5000, [0, 1, 2, 3, 4, 5, 6, 7, 8, 9, 10], [0, 1], 27), (0, [0], [], 285), (90, [1], [], 0), (91, [1], [], 19), (90, [2], [], 0), (91, [2], [], 19), (90, [3], [], -2147483648), (91, [3], [], 2147483647), (0, [4], [], 285), (90, [5], [], 0), (91, [5], [], 19), (90, [6], [], 0), (91, [6], [], 19), (90, [7], [], -2147483648), (91, [7], [], 2147483647), (90, [8], [], 0), (91, [8], [], 24), (90, [9], [], -1), (91, [9], [], 1), (90, [10], [], 0), (91, [10], [], 3)], (91, [12], [], 3))
theorem c_307v_27_1 {q0 : Nat} : vOkm T0 (eP e_307v L_307v A_307v mu_307v (some q0)) 4 g_307v_27_1 := vOk_inI fun ρ η f0 f1 f2 f3 f4 f5 f6 f7 f8 f9 f10 f11 f12 f13 f14 f15 f16 f17 f18 f19 f20 f21 f22 f23 => q_307v_10 (q0 := q0) (n0 := ρ 10) (n1 := ρ 9) (n2 := ρ 8) (n3 := ρ 7) (n4 := ρ 6) (n5 := ρ 5) (n6 := ρ 4) (n7 := ρ 3) (n8 := ρ 2) (n9 := ρ 1) (n10 := ρ 0) (n11 := ρ 11) (n12 := ρ 12) (H0 := η 0) (H1 := η 1) f23 f22 f21 f20 f19 f18 f17 f16 f15 f14 f13 f12 f11 f10 f9 f8 f7 f6 f5 f4 f3 f2 f1 f0
theorem q_307v_11 {q0 : Nat} {n0 n1 n2 n3 n4 n5 n6 n7 n8 n9 n10 n11 n12 : Int} {H0 H1 : gH} (f0 : n0 ≤ 3) (f1 : 0 ≤ n0) (f2 : n1 ≤ 1) (f3 : (-1) ≤ n1) (f4 : n2 ≤ 24) (f5 : 0 ≤ n2) (f6 : n3 ≤ 2147483647) (f7 : (-2147483648) ≤ n3) (f8 : n4 ≤ 19) (f9 : 0 ≤ n4) (f10 : n5 ≤ 19) (f11 : 0 ≤ n5) (f12 : n6 = 285) (f13 : n7 ≤ 2147483647) (f14 : (-2147483648) ≤ n7) (f15 : n8 ≤ 19) (f16 : 0 ≤ n8) (f17 : n9 ≤ 19) (f18 : 0 ≤ n9) (f19 : n10 = 285) (f20 : (hLe T0 H0 H1 ∧ hFr s_307v.2.2.2.2 H0 H1 ∧ hWt T0 H1) ∧ (Ab_307v_27 n10 n9 n8 n7 n6 n5 n4 n3 n2 n1 n0 H0 H1 ∧ preb_307v n10 n9 n8 n7 H0) ∧ some q0 = some (mub_307v_27 n10 n9 n8 n7 n6 n5 n4 n3 n2 n1 n0 H0 H1)) (f21 : n11 = 3) (f22 : n11 ≤ n0) (f23 : n12 = w32 (n1 + 2)) : Ab_307v_18 n10 n9 n8 n7 n6 n5 n4 n3 n2 n12 H0 H1 ∧ ∀ q, some q0 = some q → mub_307v_18 n10 n9 n8 n7 n6 n5 n4 n3 n2 n12 H0 H1 < q := by
  have ga := f20.2.1.1
  unfold Ab_307v_27 at ga
  obtain ⟨k0_, k1_, k2_, y0, y1⟩ := ga
  have pz := f20.2.1.2
  unfold preb_307v at pz
  have u23 := f23
  unfold w32 at u23
  have g5 := Option.some.inj f20.2.2
  unfold mub_307v_27 at g5
  unfold Ab_307v_18 mub_307v_18
  refine ⟨⟨k0_, k1_, k2_, ?_, by omega⟩, fun q hq => ?_⟩
  · rw [y0, show (n0).toNat = 3 by omega]
    rcases y1 with y1 | y1
    · rw [show n12 = 1 by omega, y1]
      unfold fat sgf
      rw [if_pos rfl, if_pos rfl, if_neg (by decide), if_pos rfl, Int.toNat_of_nonneg (by omega)]
      rfl
    · rw [show n12 = 3 by omega, y1]
      unfold fat sgf
      rw [if_neg (by decide), if_neg (by decide), if_pos rfl, if_neg (by decide), if_neg (by decide)]
      show _ = ftr _ (((n2).toNat : Nat) : Int) _
      rw [Int.toNat_of_nonneg (by omega)]
      rfl
  · have g6 := Option.some.inj hq
    subst g6
    omega
def g_307v_27_2 : vG := ([(10, [12, 9], [], 2), (43, [10, 11], [], 0), (0, [11], [], 3), (5000, [0, 1, 2, 3, 4, 5, 6, 7, 8, 9, 10], [0, 1], 27), (0, [0], [], 285), (90, [1], [], 0), (91, [1], [], 19), (90, [2], [], 0), (91, [2], [], 19), (90, [3], [], -2147483648), (91, [3], [], 2147483647), (0, [4], [], 285), (90, [5], [], 0), (91, [5], [], 19), (90, [6], [], 0), (91, [6], [], 19), (90, [7], [], -2147483648), (91, [7], [], 2147483647), (90, [8], [], 0), (91, [8], [], 24), (90, [9], [], -1), (91, [9], [], 1), (90, [10], [], 0), (91, [10], [], 3)], (4000, [4, 5, 6, 7, 8, 12], [1], 18))
theorem c_307v_27_2 {q0 : Nat} : vOkm T0 (eP e_307v L_307v A_307v mu_307v (some q0)) 4 g_307v_27_2 := vOk_inI fun ρ η f0 f1 f2 f3 f4 f5 f6 f7 f8 f9 f10 f11 f12 f13 f14 f15 f16 f17 f18 f19 f20 f21 f22 f23 => q_307v_11 (q0 := q0) (n0 := ρ 10) (n1 := ρ 9) (n2 := ρ 8) (n3 := ρ 7) (n4 := ρ 6) (n5 := ρ 5) (n6 := ρ 4) (n7 := ρ 3) (n8 := ρ 2) (n9 := ρ 1) (n10 := ρ 0) (n11 := ρ 11) (n12 := ρ 12) (H0 := η 0) (H1 := η 1) f23 f22 f21 f20 f19 f18 f17 f16 f15 f14 f13 f12 f11 f10 f9 f8 f7 f6 f5 f4 f3 f2 f1 f0
theorem q_307v_12 {q0 : Nat} {n0 n1 n2 n3 n4 n5 n6 n7 n8 n9 n10 n11 n12 n13 n14 : Int} {H0 H1 : gH} (f0 : n0 ≤ 3) (f1 : 0 ≤ n0) (f2 : n1 ≤ 1) (f3 : (-1) ≤ n1) (f4 : n2 ≤ 24) (f5 : 0 ≤ n2) (f6 : n3 ≤ 2147483647) (f7 : (-2147483648) ≤ n3) (f8 : n4 ≤ 19) (f9 : 0 ≤ n4) (f10 : n5 ≤ 19) (f11 : 0 ≤ n5) (f12 : n6 = 285) (f13 : n7 ≤ 2147483647) (f14 : (-2147483648) ≤ n7) (f15 : n8 ≤ 19) (f16 : 0 ≤ n8) (f17 : n9 ≤ 19) (f18 : 0 ≤ n9) (f19 : n10 = 285) (f20 : (hLe T0 H0 H1 ∧ hFr s_307v.2.2.2.2 H0 H1 ∧ hWt T0 H1) ∧ (Ab_307v_27 n10 n9 n8 n7 n6 n5 n4 n3 n2 n1 n0 H0 H1 ∧ preb_307v n10 n9 n8 n7 H0) ∧ some q0 = some (mub_307v_27 n10 n9 n8 n7 n6 n5 n4 n3 n2 n1 n0 H0 H1)) (f21 : n11 = 3) (f22 : n0 < n11) (f23 : n0 ≠ 0) (f24 : n12 = 1) (f25 : n0 ≠ n12) (f26 : n13 = 11) (f27 : n14 = w32 (n1 * n2)) : preb_306v n6 n5 n4 n3 n14 n13 H1 := by
  have ga := f20.2.1.1
  unfold Ab_307v_27 at ga
  obtain ⟨k0_, k1_, k2_, y0, y1⟩ := ga
  have pz := f20.2.1.2
  unfold preb_307v at pz
  have u27 := f27
  unfold w32 at u27
  unfold preb_306v
  rcases y1 with t | t <;> subst t <;> omega
def g_307v_27_3 : vG := ([(3, [14, 9, 8], [], 0), (0, [13], [], 11), (41, [10, 12], [], 0), (0, [12], [], 1), (31, [10], [], 0), (42, [10, 11], [], 0), (0, [11], [], 3), (5000, [0, 1, 2, 3, 4, 5, 6, 7, 8, 9, 10], [0, 1], 27), (0, [0], [], 285), (90, [1], [], 0), (91, [1], [], 19), (90, [2], [], 0), (91, [2], [], 19), (90, [3], [], -2147483648), (91, [3], [], 2147483647), (0, [4], [], 285), (90, [5], [], 0), (91, [5], [], 19), (90, [6], [], 0), (91, [6], [], 19), (90, [7], [], -2147483648), (91, [7], [], 2147483647), (90, [8], [], 0), (91, [8], [], 24), (90, [9], [], -1), (91, [9], [], 1), (90, [10], [], 0), (91, [10], [], 3)], (2306, [4, 5, 6, 7, 14, 13], [1], 0))
theorem c_307v_27_3 {q0 : Nat} : vOkm T0 (eP e_307v L_307v A_307v mu_307v (some q0)) 4 g_307v_27_3 := vOk_inI fun ρ η f0 f1 f2 f3 f4 f5 f6 f7 f8 f9 f10 f11 f12 f13 f14 f15 f16 f17 f18 f19 f20 f21 f22 f23 f24 f25 f26 f27 => q_307v_12 (q0 := q0) (n0 := ρ 10) (n1 := ρ 9) (n2 := ρ 8) (n3 := ρ 7) (n4 := ρ 6) (n5 := ρ 5) (n6 := ρ 4) (n7 := ρ 3) (n8 := ρ 2) (n9 := ρ 1) (n10 := ρ 0) (n11 := ρ 11) (n12 := ρ 12) (n13 := ρ 13) (n14 := ρ 14) (H0 := η 0) (H1 := η 1) f27 f26 f25 f24 f23 f22 f21 f20 f19 f18 f17 f16 f15 f14 f13 f12 f11 f10 f9 f8 f7 f6 f5 f4 f3 f2 f1 f0
theorem kF_306v_285_100 : vFree s_306v.2.2.2.2 285 100 = true := by decide +kernel
theorem q_307v_13 {q0 : Nat} {n0 n1 n2 n3 n4 n5 n6 n7 n8 n9 n10 n11 n12 n13 n14 n15 n16 n17 n18 n19 : Int} {H0 H1 H2 : gH} (f0 : n0 ≤ 3) (f1 : 0 ≤ n0) (f2 : n1 ≤ 1) (f3 : (-1) ≤ n1) (f4 : n2 ≤ 24) (f5 : 0 ≤ n2) (f6 : n3 ≤ 2147483647) (f7 : (-2147483648) ≤ n3) (f8 : n4 ≤ 19) (f9 : 0 ≤ n4) (f10 : n5 ≤ 19) (f11 : 0 ≤ n5) (f12 : n6 = 285) (f13 : n7 ≤ 2147483647) (f14 : (-2147483648) ≤ n7) (f15 : n8 ≤ 19) (f16 : 0 ≤ n8) (f17 : n9 ≤ 19) (f18 : 0 ≤ n9) (f19 : n10 = 285) (f20 : (hLe T0 H0 H1 ∧ hFr s_307v.2.2.2.2 H0 H1 ∧ hWt T0 H1) ∧ (Ab_307v_27 n10 n9 n8 n7 n6 n5 n4 n3 n2 n1 n0 H0 H1 ∧ preb_307v n10 n9 n8 n7 H0) ∧ some q0 = some (mub_307v_27 n10 n9 n8 n7 n6 n5 n4 n3 n2 n1 n0 H0 H1)) (f21 : n11 = 3) (f22 : n0 < n11) (f23 : n0 ≠ 0) (f24 : n12 = 1) (f25 : n0 ≠ n12) (f26 : n13 = 11) (f27 : n14 = w32 (n1 * n2)) (f28 : n15 ≤ 2147483647) (f29 : (-2147483648) ≤ n15) (f30 : (hLe T0 H1 H2 ∧ hFr s_306v.2.2.2.2 H1 H2 ∧ ((0 : Int) = 0 → H2.length = H1.length) ∧ hWt T0 H2) ∧ postb_306v n15 n6 n5 n4 n3 n14 n13 H1 H2) (f31 : n16 ≤ 2147483647) (f32 : (-2147483648) ≤ n16) (f33 : n16 = hV H2 (n6).toNat 100) (f34 : n17 = (-1)) (f35 : n16 = n17) (f36 : n18 = w32 (n1 * n2)) (f37 : n19 = w32 (n0 + 1)) : 0 ≤ n19 := by
  have g4 := f20.2.1.1
  unfold Ab_307v_27 at g4
  have g3 := f20.2.1.2
  unfold preb_307v at g3
  unfold postb_306v at f30
  have e1 : n16 = hV H1 285 100 := (by rw [f12] at f33; exact f33 : n16 = hV H2 285 100).trans ((f30.1.2.1.1 285 100 kF_306v_285_100))
  have k0 := g4.1
  have k1 := g4.2.1
  have k2 := g4.2.2.1
  have y0 := g4.2.2.2.1
  have y1 := g4.2.2.2.2
  have p0 := g3.1
  have p1 := g3.2
  have r0_0 := f30.2
  clear g3
  clear g4
  clear f33
  clear f20 f30
  subst e1
  first
  | (have ix0 : n19 = n0 + 1 := Eq.trans f37 (w32_iv (Iad (Iat f1 f0) (IC 1)) (by decide)); subst ix0; clear f37)
  | (have ix0 : n19 = n0 + 1 := Eq.trans f37 (w32_id (by omega) (by omega)); subst ix0; clear f37)
  | (unfold w32 at f37; have ix0 : n19 = n0 + 1 := (by omega); subst ix0)
  | skip
  try unfold w32 at f27
  try unfold w32 at f36
  try unfold w32 at f37
  try subst k2
  try subst k1
  try subst k0
  omega
def g_307v_27_4 : vG := ([(10, [22, 10], [], 1), (3, [19, 9, 8], [], 0), (40, [16, 17], [], 0), (0, [17], [], -1), (20, [16, 4], [2], 100), (90, [16], [], -2147483648), (91, [16], [], 2147483647), (1306, [15, 4, 5, 6, 7, 14, 13], [1, 2], 0), (90, [15], [], -2147483648), (91, [15], [], 2147483647), (3, [14, 9, 8], [], 0), (0, [13], [], 11), (41, [10, 12], [], 0), (0, [12], [], 1), (31, [10], [], 0), (42, [10, 11], [], 0), (0, [11], [], 3), (5000, [0, 1, 2, 3, 4, 5, 6, 7, 8, 9, 10], [0, 1], 27), (0, [0], [], 285), (90, [1], [], 0), (91, [1], [], 19), (90, [2], [], 0), (91, [2], [], 19), (90, [3], [], -2147483648), (91, [3], [], 2147483647), (0, [4], [], 285), (90, [5], [], 0), (91, [5], [], 19), (90, [6], [], 0), (91, [6], [], 19), (90, [7], [], -2147483648), (91, [7], [], 2147483647), (90, [8], [], 0), (91, [8], [], 24), (90, [9], [], -1), (91, [9], [], 1), (90, [10], [], 0), (91, [10], [], 3)], (90, [22], [], 0))
theorem c_307v_27_4 {q0 : Nat} : vOkm T0 (eP e_307v L_307v A_307v mu_307v (some q0)) 4 g_307v_27_4 := vOk_inI fun ρ η f0 f1 f2 f3 f4 f5 f6 f7 f8 f9 f10 f11 f12 f13 f14 f15 f16 f17 f18 f19 f20 f21 f22 f23 f24 f25 f26 f27 f28 f29 f30 f31 f32 f33 f34 f35 f36 f37 => q_307v_13 (q0 := q0) (n0 := ρ 10) (n1 := ρ 9) (n2 := ρ 8) (n3 := ρ 7) (n4 := ρ 6) (n5 := ρ 5) (n6 := ρ 4) (n7 := ρ 3) (n8 := ρ 2) (n9 := ρ 1) (n10 := ρ 0) (n11 := ρ 11) (n12 := ρ 12) (n13 := ρ 13) (n14 := ρ 14) (n15 := ρ 15) (n16 := ρ 16) (n17 := ρ 17) (n18 := ρ 19) (n19 := ρ 22) (H0 := η 0) (H1 := η 1) (H2 := η 2) f37 f36 f35 f34 f33 f32 f31 f30 f29 f28 f27 f26 f25 f24 f23 f22 f21 f20 f19 f18 f17 f16 f15 f14 f13 f12 f11 f10 f9 f8 f7 f6 f5 f4 f3 f2 f1 f0
theorem q_307v_14 {q0 : Nat} {n0 n1 n2 n3 n4 n5 n6 n7 n8 n9 n10 n11 n12 n13 n14 n15 n16 n17 n18 n19 : Int} {H0 H1 H2 : gH} (f0 : n0 ≤ 3) (f1 : 0 ≤ n0) (f2 : n1 ≤ 1) (f3 : (-1) ≤ n1) (f4 : n2 ≤ 24) (f5 : 0 ≤ n2) (f6 : n3 ≤ 2147483647) (f7 : (-2147483648) ≤ n3) (f8 : n4 ≤ 19) (f9 : 0 ≤ n4) (f10 : n5 ≤ 19) (f11 : 0 ≤ n5) (f12 : n6 = 285) (f13 : n7 ≤ 2147483647) (f14 : (-2147483648) ≤ n7) (f15 : n8 ≤ 19) (f16 : 0 ≤ n8) (f17 : n9 ≤ 19) (f18 : 0 ≤ n9) (f19 : n10 = 285) (f20 : (hLe T0 H0 H1 ∧ hFr s_307v.2.2.2.2 H0 H1 ∧ hWt T0 H1) ∧ (Ab_307v_27 n10 n9 n8 n7 n6 n5 n4 n3 n2 n1 n0 H0 H1 ∧ preb_307v n10 n9 n8 n7 H0) ∧ some q0 = some (mub_307v_27 n10 n9 n8 n7 n6 n5 n4 n3 n2 n1 n0 H0 H1)) (f21 : n11 = 3) (f22 : n0 < n11) (f23 : n0 ≠ 0) (f24 : n12 = 1) (f25 : n0 ≠ n12) (f26 : n13 = 11) (f27 : n14 = w32 (n1 * n2)) (f28 : n15 ≤ 2147483647) (f29 : (-2147483648) ≤ n15) (f30 : (hLe T0 H1 H2 ∧ hFr s_306v.2.2.2.2 H1 H2 ∧ ((0 : Int) = 0 → H2.length = H1.length) ∧ hWt T0 H2) ∧ postb_306v n15 n6 n5 n4 n3 n14 n13 H1 H2) (f31 : n16 ≤ 2147483647) (f32 : (-2147483648) ≤ n16) (f33 : n16 = hV H2 (n6).toNat 100) (f34 : n17 = (-1)) (f35 : n16 = n17) (f36 : n18 = w32 (n1 * n2)) (f37 : n19 = w32 (n0 + 1)) : n19 ≤ 3 := by
  have g4 := f20.2.1.1
  unfold Ab_307v_27 at g4
  have g3 := f20.2.1.2
  unfold preb_307v at g3
  unfold postb_306v at f30
  have e1 : n16 = hV H1 285 100 := (by rw [f12] at f33; exact f33 : n16 = hV H2 285 100).trans ((f30.1.2.1.1 285 100 kF_306v_285_100))
  have k0 := g4.1
  have k1 := g4.2.1
  have k2 := g4.2.2.1
  have y0 := g4.2.2.2.1
  have y1 := g4.2.2.2.2
  have p0 := g3.1
  have p1 := g3.2
  have r0_0 := f30.2
  clear g3
  clear g4
  clear f33
  clear f20 f30
  subst e1
  first
  | (have ix0 : n19 = n0 + 1 := Eq.trans f37 (w32_iv (Iad (Iat f1 f0) (IC 1)) (by decide)); subst ix0; clear f37)
  | (have ix0 : n19 = n0 + 1 := Eq.trans f37 (w32_id (by omega) (by omega)); subst ix0; clear f37)
  | (unfold w32 at f37; have ix0 : n19 = n0 + 1 := (by omega); subst ix0)
  | skip
  try unfold w32 at f27
  try unfold w32 at f36
  try unfold w32 at f37
  try subst k2
  try subst k1
  try subst k0
  omega
def g_307v_27_5 : vG := ([(10, [22, 10], [], 1), (3, [19, 9, 8], [], 0), (40, [16, 17], [], 0), (0, [17], [], -1), (20, [16, 4], [2], 100), (90, [16], [], -2147483648), (91, [16], [], 2147483647), (1306, [15, 4, 5, 6, 7, 14, 13], [1, 2], 0), (90, [15], [], -2147483648), (91, [15], [], 2147483647), (3, [14, 9, 8], [], 0), (0, [13], [], 11), (41, [10, 12], [], 0), (0, [12], [], 1), (31, [10], [], 0), (42, [10, 11], [], 0), (0, [11], [], 3), (5000, [0, 1, 2, 3, 4, 5, 6, 7, 8, 9, 10], [0, 1], 27), (0, [0], [], 285), (90, [1], [], 0), (91, [1], [], 19), (90, [2], [], 0), (91, [2], [], 19), (90, [3], [], -2147483648), (91, [3], [], 2147483647), (0, [4], [], 285), (90, [5], [], 0), (91, [5], [], 19), (90, [6], [], 0), (91, [6], [], 19), (90, [7], [], -2147483648), (91, [7], [], 2147483647), (90, [8], [], 0), (91, [8], [], 24), (90, [9], [], -1), (91, [9], [], 1), (90, [10], [], 0), (91, [10], [], 3)], (91, [22], [], 3))
theorem c_307v_27_5 {q0 : Nat} : vOkm T0 (eP e_307v L_307v A_307v mu_307v (some q0)) 4 g_307v_27_5 := vOk_inI fun ρ η f0 f1 f2 f3 f4 f5 f6 f7 f8 f9 f10 f11 f12 f13 f14 f15 f16 f17 f18 f19 f20 f21 f22 f23 f24 f25 f26 f27 f28 f29 f30 f31 f32 f33 f34 f35 f36 f37 => q_307v_14 (q0 := q0) (n0 := ρ 10) (n1 := ρ 9) (n2 := ρ 8) (n3 := ρ 7) (n4 := ρ 6) (n5 := ρ 5) (n6 := ρ 4) (n7 := ρ 3) (n8 := ρ 2) (n9 := ρ 1) (n10 := ρ 0) (n11 := ρ 11) (n12 := ρ 12) (n13 := ρ 13) (n14 := ρ 14) (n15 := ρ 15) (n16 := ρ 16) (n17 := ρ 17) (n18 := ρ 19) (n19 := ρ 22) (H0 := η 0) (H1 := η 1) (H2 := η 2) f37 f36 f35 f34 f33 f32 f31 f30 f29 f28 f27 f26 f25 f24 f23 f22 f21 f20 f19 f18 f17 f16 f15 f14 f13 f12 f11 f10 f9 f8 f7 f6 f5 f4 f3 f2 f1 f0
theorem q_307v_15 {q0 : Nat} {n0 n1 n2 n3 n4 n5 n6 n7 n8 n9 n10 n11 n12 n13 n14 n15 n16 n17 n18 n19 n20 n21 n22 : Int} {H0 H1 H2 H3 H4 H5 : gH} (f0 : n0 ≤ 3) (f1 : 0 ≤ n0) (f2 : n1 ≤ 1) (f3 : (-1) ≤ n1) (f4 : n2 ≤ 24) (f5 : 0 ≤ n2) (f6 : n3 ≤ 2147483647) (f7 : (-2147483648) ≤ n3) (f8 : n4 ≤ 19) (f9 : 0 ≤ n4) (f10 : n5 ≤ 19) (f11 : 0 ≤ n5) (f12 : n6 = 285) (f13 : n7 ≤ 2147483647) (f14 : (-2147483648) ≤ n7) (f15 : n8 ≤ 19) (f16 : 0 ≤ n8) (f17 : n9 ≤ 19) (f18 : 0 ≤ n9) (f19 : n10 = 285) (f20 : (hLe T0 H0 H1 ∧ hFr s_307v.2.2.2.2 H0 H1 ∧ hWt T0 H1) ∧ (Ab_307v_27 n10 n9 n8 n7 n6 n5 n4 n3 n2 n1 n0 H0 H1 ∧ preb_307v n10 n9 n8 n7 H0) ∧ some q0 = some (mub_307v_27 n10 n9 n8 n7 n6 n5 n4 n3 n2 n1 n0 H0 H1)) (f21 : n11 = 3) (f22 : n0 < n11) (f23 : n0 ≠ 0) (f24 : n12 = 1) (f25 : n0 ≠ n12) (f26 : n13 = 11) (f27 : n14 = w32 (n1 * n2)) (f28 : n15 ≤ 2147483647) (f29 : (-2147483648) ≤ n15) (f30 : (hLe T0 H1 H2 ∧ hFr s_306v.2.2.2.2 H1 H2 ∧ ((0 : Int) = 0 → H2.length = H1.length) ∧ hWt T0 H2) ∧ postb_306v n15 n6 n5 n4 n3 n14 n13 H1 H2) (f31 : n16 ≤ 2147483647) (f32 : (-2147483648) ≤ n16) (f33 : n16 = hV H2 (n6).toNat 100) (f34 : n17 = (-1)) (f35 : n16 = n17) (f36 : n18 = 100) (f37 : hUpd H3 H2 n6 n18 n15) (f38 : n19 = w32 (n1 * n2)) (f39 : n20 = 101) (f40 : hUpd H4 H3 n6 n20 n19) (f41 : n21 = 102) (f42 : hUpd H5 H4 n6 n21 n13) (f43 : n22 = w32 (n0 + 1)) : Ab_307v_27 n10 n9 n8 n7 n6 n5 n4 n3 n2 n1 n22 H0 H5 ∧ ∀ q, some q0 = some q → mub_307v_27 n10 n9 n8 n7 n6 n5 n4 n3 n2 n1 n22 H0 H5 < q := by
  have ga := f20.2.1.1
  unfold Ab_307v_27 at ga
  obtain ⟨k0_, k1_, k2_, y0, y1⟩ := ga
  have pz := f20.2.1.2
  unfold preb_307v at pz
  have u27 := f27
  unfold w32 at u27
  have u38 := f38
  unfold w32 at u38
  have u43 := f43
  unfold w32 at u43
  have pm := f30.2
  unfold postb_306v at pm
  have lf := lkR_fr (x := n9) (y := n8) (sl := n7) f20.1.2.1 (by decide +kernel) (by decide +kernel)
  rw [show n5 = n9 from k0_, show n4 = n8 from k1_, show n3 = n7 from k2_, lf] at pm
  have w100 : hV H5 285 100 = n15 := (uSlot f42 285 100 (by rw [f41]; decide)).trans ((uSlot f40 285 100 (by rw [f39]; decide)).trans (uSame f37 285 100 (by rw [f12]; rfl) (by rw [f36]; rfl)))
  have w101 : hV H5 285 101 = n19 := (uSlot f42 285 101 (by rw [f41]; decide)).trans (uSame f40 285 101 (by rw [f12]; rfl) (by rw [f39]; rfl))
  have w102 : hV H5 285 102 = n13 := uSame f42 285 102 (by rw [f12]; rfl) (by rw [f41]; rfl)
  have sg : n14 = sgf n1 n2 := by
    have z := f27
    unfold sgf
    rcases y1 with t | t <;> rw [t] at z ⊢ <;> unfold w32 at z
    · rw [if_pos rfl]
      omega
    · rw [if_neg (by decide)]
      omega
  rw [sg] at pm
  have rm0 := f33
  rw [f12] at rm0
  rw [show ((285 : Int)).toNat = 285 from rfl, show hV H2 285 100 = hV H1 285 100 from f30.1.2.1.1 285 100 kF_306v_285_100] at rm0
  have g5 := Option.some.inj f20.2.2
  unfold mub_307v_27 at g5
  unfold Ab_307v_27 mub_307v_27
  refine ⟨⟨k0_, k1_, k2_, ?_, y1⟩, fun q hq => ?_⟩
  · rw [show (n22).toNat = (n0).toNat + 1 by omega]
    have e3 : n0 = 0 ∨ n0 = 1 ∨ n0 = 2 := by omega
    have tt : ((n0).toNat = 0 ∧ n13 = 10) ∨ ((n0).toNat = 1 ∧ n13 = 9) ∨ ((n0).toNat = 2 ∧ n13 = 11) := by omega
    rw [gk_step tt, ← y0]
    unfold frs
    rw [← pm]
    dsimp only
    rw [w100, w101, w102]
    rw [if_neg (by omega), show n19 = n14 by omega, sg]
  · have g6 := Option.some.inj hq
    subst g6
    omega
def g_307v_27_6 : vG := ([(10, [22, 10], [], 1), (80, [4, 21, 13], [5, 4], 0), (0, [21], [], 102), (80, [4, 20, 19], [4, 3], 0), (0, [20], [], 101), (3, [19, 9, 8], [], 0), (80, [4, 18, 15], [3, 2], 0), (0, [18], [], 100), (40, [16, 17], [], 0), (0, [17], [], -1), (20, [16, 4], [2], 100), (90, [16], [], -2147483648), (91, [16], [], 2147483647), (1306, [15, 4, 5, 6, 7, 14, 13], [1, 2], 0), (90, [15], [], -2147483648), (91, [15], [], 2147483647), (3, [14, 9, 8], [], 0), (0, [13], [], 11), (41, [10, 12], [], 0), (0, [12], [], 1), (31, [10], [], 0), (42, [10, 11], [], 0), (0, [11], [], 3), (5000, [0, 1, 2, 3, 4, 5, 6, 7, 8, 9, 10], [0, 1], 27), (0, [0], [], 285), (90, [1], [], 0), (91, [1], [], 19), (90, [2], [], 0), (91, [2], [], 19), (90, [3], [], -2147483648), (91, [3], [], 2147483647), (0, [4], [], 285), (90, [5], [], 0), (91, [5], [], 19), (90, [6], [], 0), (91, [6], [], 19), (90, [7], [], -2147483648), (91, [7], [], 2147483647), (90, [8], [], 0), (91, [8], [], 24), (90, [9], [], -1), (91, [9], [], 1), (90, [10], [], 0), (91, [10], [], 3)], (4000, [4, 5, 6, 7, 8, 9, 22], [5], 27))
theorem c_307v_27_6 {q0 : Nat} : vOkm T0 (eP e_307v L_307v A_307v mu_307v (some q0)) 4 g_307v_27_6 := vOk_inI fun ρ η f0 f1 f2 f3 f4 f5 f6 f7 f8 f9 f10 f11 f12 f13 f14 f15 f16 f17 f18 f19 f20 f21 f22 f23 f24 f25 f26 f27 f28 f29 f30 f31 f32 f33 f34 f35 f36 f37 f38 f39 f40 f41 f42 f43 => q_307v_15 (q0 := q0) (n0 := ρ 10) (n1 := ρ 9) (n2 := ρ 8) (n3 := ρ 7) (n4 := ρ 6) (n5 := ρ 5) (n6 := ρ 4) (n7 := ρ 3) (n8 := ρ 2) (n9 := ρ 1) (n10 := ρ 0) (n11 := ρ 11) (n12 := ρ 12) (n13 := ρ 13) (n14 := ρ 14) (n15 := ρ 15) (n16 := ρ 16) (n17 := ρ 17) (n18 := ρ 18) (n19 := ρ 19) (n20 := ρ 20) (n21 := ρ 21) (n22 := ρ 22) (H0 := η 0) (H1 := η 1) (H2 := η 2) (H3 := η 3) (H4 := η 4) (H5 := η 5) f43 f42 f41 f40 f39 f38 f37 f36 f35 f34 f33 f32 f31 f30 f29 f28 f27 f26 f25 f24 f23 f22 f21 f20 f19 f18 f17 f16 f15 f14 f13 f12 f11 f10 f9 f8 f7 f6 f5 f4 f3 f2 f1 f0
theorem q_307v_16 {q0 : Nat} {n0 n1 n2 n3 n4 n5 n6 n7 n8 n9 n10 n11 n12 n13 n14 n15 n16 n17 n18 n19 n20 : Int} {H0 H1 H2 : gH} (f0 : n0 ≤ 3) (f1 : 0 ≤ n0) (f2 : n1 ≤ 1) (f3 : (-1) ≤ n1) (f4 : n2 ≤ 24) (f5 : 0 ≤ n2) (f6 : n3 ≤ 2147483647) (f7 : (-2147483648) ≤ n3) (f8 : n4 ≤ 19) (f9 : 0 ≤ n4) (f10 : n5 ≤ 19) (f11 : 0 ≤ n5) (f12 : n6 = 285) (f13 : n7 ≤ 2147483647) (f14 : (-2147483648) ≤ n7) (f15 : n8 ≤ 19) (f16 : 0 ≤ n8) (f17 : n9 ≤ 19) (f18 : 0 ≤ n9) (f19 : n10 = 285) (f20 : (hLe T0 H0 H1 ∧ hFr s_307v.2.2.2.2 H0 H1 ∧ hWt T0 H1) ∧ (Ab_307v_27 n10 n9 n8 n7 n6 n5 n4 n3 n2 n1 n0 H0 H1 ∧ preb_307v n10 n9 n8 n7 H0) ∧ some q0 = some (mub_307v_27 n10 n9 n8 n7 n6 n5 n4 n3 n2 n1 n0 H0 H1)) (f21 : n11 = 3) (f22 : n0 < n11) (f23 : n0 ≠ 0) (f24 : n12 = 1) (f25 : n0 ≠ n12) (f26 : n13 = 11) (f27 : n14 = w32 (n1 * n2)) (f28 : n15 ≤ 2147483647) (f29 : (-2147483648) ≤ n15) (f30 : (hLe T0 H1 H2 ∧ hFr s_306v.2.2.2.2 H1 H2 ∧ ((0 : Int) = 0 → H2.length = H1.length) ∧ hWt T0 H2) ∧ postb_306v n15 n6 n5 n4 n3 n14 n13 H1 H2) (f31 : n16 ≤ 2147483647) (f32 : (-2147483648) ≤ n16) (f33 : n16 = hV H2 (n6).toNat 100) (f34 : n17 = (-1)) (f35 : n16 ≠ n17) (f36 : n18 ≤ 2147483647) (f37 : (-2147483648) ≤ n18) (f38 : n18 = hV H2 (n6).toNat 100) (f39 : n15 < n18) (f40 : n19 = w32 (n1 * n2)) (f41 : n20 = w32 (n0 + 1)) : 0 ≤ n20 := by
  have g4 := f20.2.1.1
  unfold Ab_307v_27 at g4
  have g3 := f20.2.1.2
  unfold preb_307v at g3
  unfold postb_306v at f30
  have e1 : n16 = hV H1 285 100 := (by rw [f12] at f33; exact f33 : n16 = hV H2 285 100).trans ((f30.1.2.1.1 285 100 kF_306v_285_100))
  have e2 : n18 = hV H1 285 100 := (by rw [f12] at f38; exact f38 : n18 = hV H2 285 100).trans ((f30.1.2.1.1 285 100 kF_306v_285_100))
  have k0 := g4.1
  have k1 := g4.2.1
  have k2 := g4.2.2.1
  have y0 := g4.2.2.2.1
  have y1 := g4.2.2.2.2
  have p0 := g3.1
  have p1 := g3.2
  have r0_0 := f30.2
  clear g3
  clear g4
  clear f33 f38
  clear f20 f30
  subst e1
  subst e2
  first
  | (have ix0 : n20 = n0 + 1 := Eq.trans f41 (w32_iv (Iad (Iat f1 f0) (IC 1)) (by decide)); subst ix0; clear f41)
  | (have ix0 : n20 = n0 + 1 := Eq.trans f41 (w32_id (by omega) (by omega)); subst ix0; clear f41)
  | (unfold w32 at f41; have ix0 : n20 = n0 + 1 := (by omega); subst ix0)
  | skip
  try unfold w32 at f27
  try unfold w32 at f40
  try unfold w32 at f41
  try subst k2
  try subst k1
  try subst k0
  omega
def g_307v_27_7 : vG := ([(10, [23, 10], [], 1), (3, [20, 9, 8], [], 0), (42, [15, 18], [], 0), (20, [18, 4], [2], 100), (90, [18], [], -2147483648), (91, [18], [], 2147483647), (41, [16, 17], [], 0), (0, [17], [], -1), (20, [16, 4], [2], 100), (90, [16], [], -2147483648), (91, [16], [], 2147483647), (1306, [15, 4, 5, 6, 7, 14, 13], [1, 2], 0), (90, [15], [], -2147483648), (91, [15], [], 2147483647), (3, [14, 9, 8], [], 0), (0, [13], [], 11), (41, [10, 12], [], 0), (0, [12], [], 1), (31, [10], [], 0), (42, [10, 11], [], 0), (0, [11], [], 3), (5000, [0, 1, 2, 3, 4, 5, 6, 7, 8, 9, 10], [0, 1], 27), (0, [0], [], 285), (90, [1], [], 0), (91, [1], [], 19), (90, [2], [], 0), (91, [2], [], 19), (90, [3], [], -2147483648), (91, [3], [], 2147483647), (0, [4], [], 285), (90, [5], [], 0), (91, [5], [], 19), (90, [6], [], 0), (91, [6], [], 19), (90, [7], [], -2147483648), (91, [7], [], 2147483647), (90, [8], [], 0), (91, [8], [], 24), (90, [9], [], -1), (91, [9], [], 1), (90, [10], [], 0), (91, [10], [], 3)], (90, [23], [], 0))
theorem c_307v_27_7 {q0 : Nat} : vOkm T0 (eP e_307v L_307v A_307v mu_307v (some q0)) 4 g_307v_27_7 := vOk_inI fun ρ η f0 f1 f2 f3 f4 f5 f6 f7 f8 f9 f10 f11 f12 f13 f14 f15 f16 f17 f18 f19 f20 f21 f22 f23 f24 f25 f26 f27 f28 f29 f30 f31 f32 f33 f34 f35 f36 f37 f38 f39 f40 f41 => q_307v_16 (q0 := q0) (n0 := ρ 10) (n1 := ρ 9) (n2 := ρ 8) (n3 := ρ 7) (n4 := ρ 6) (n5 := ρ 5) (n6 := ρ 4) (n7 := ρ 3) (n8 := ρ 2) (n9 := ρ 1) (n10 := ρ 0) (n11 := ρ 11) (n12 := ρ 12) (n13 := ρ 13) (n14 := ρ 14) (n15 := ρ 15) (n16 := ρ 16) (n17 := ρ 17) (n18 := ρ 18) (n19 := ρ 20) (n20 := ρ 23) (H0 := η 0) (H1 := η 1) (H2 := η 2) f41 f40 f39 f38 f37 f36 f35 f34 f33 f32 f31 f30 f29 f28 f27 f26 f25 f24 f23 f22 f21 f20 f19 f18 f17 f16 f15 f14 f13 f12 f11 f10 f9 f8 f7 f6 f5 f4 f3 f2 f1 f0
theorem q_307v_17 {q0 : Nat} {n0 n1 n2 n3 n4 n5 n6 n7 n8 n9 n10 n11 n12 n13 n14 n15 n16 n17 n18 n19 n20 : Int} {H0 H1 H2 : gH} (f0 : n0 ≤ 3) (f1 : 0 ≤ n0) (f2 : n1 ≤ 1) (f3 : (-1) ≤ n1) (f4 : n2 ≤ 24) (f5 : 0 ≤ n2) (f6 : n3 ≤ 2147483647) (f7 : (-2147483648) ≤ n3) (f8 : n4 ≤ 19) (f9 : 0 ≤ n4) (f10 : n5 ≤ 19) (f11 : 0 ≤ n5) (f12 : n6 = 285) (f13 : n7 ≤ 2147483647) (f14 : (-2147483648) ≤ n7) (f15 : n8 ≤ 19) (f16 : 0 ≤ n8) (f17 : n9 ≤ 19) (f18 : 0 ≤ n9) (f19 : n10 = 285) (f20 : (hLe T0 H0 H1 ∧ hFr s_307v.2.2.2.2 H0 H1 ∧ hWt T0 H1) ∧ (Ab_307v_27 n10 n9 n8 n7 n6 n5 n4 n3 n2 n1 n0 H0 H1 ∧ preb_307v n10 n9 n8 n7 H0) ∧ some q0 = some (mub_307v_27 n10 n9 n8 n7 n6 n5 n4 n3 n2 n1 n0 H0 H1)) (f21 : n11 = 3) (f22 : n0 < n11) (f23 : n0 ≠ 0) (f24 : n12 = 1) (f25 : n0 ≠ n12) (f26 : n13 = 11) (f27 : n14 = w32 (n1 * n2)) (f28 : n15 ≤ 2147483647) (f29 : (-2147483648) ≤ n15) (f30 : (hLe T0 H1 H2 ∧ hFr s_306v.2.2.2.2 H1 H2 ∧ ((0 : Int) = 0 → H2.length = H1.length) ∧ hWt T0 H2) ∧ postb_306v n15 n6 n5 n4 n3 n14 n13 H1 H2) (f31 : n16 ≤ 2147483647) (f32 : (-2147483648) ≤ n16) (f33 : n16 = hV H2 (n6).toNat 100) (f34 : n17 = (-1)) (f35 : n16 ≠ n17) (f36 : n18 ≤ 2147483647) (f37 : (-2147483648) ≤ n18) (f38 : n18 = hV H2 (n6).toNat 100) (f39 : n15 < n18) (f40 : n19 = w32 (n1 * n2)) (f41 : n20 = w32 (n0 + 1)) : n20 ≤ 3 := by
  have g4 := f20.2.1.1
  unfold Ab_307v_27 at g4
  have g3 := f20.2.1.2
  unfold preb_307v at g3
  unfold postb_306v at f30
  have e1 : n16 = hV H1 285 100 := (by rw [f12] at f33; exact f33 : n16 = hV H2 285 100).trans ((f30.1.2.1.1 285 100 kF_306v_285_100))
  have e2 : n18 = hV H1 285 100 := (by rw [f12] at f38; exact f38 : n18 = hV H2 285 100).trans ((f30.1.2.1.1 285 100 kF_306v_285_100))
  have k0 := g4.1
  have k1 := g4.2.1
  have k2 := g4.2.2.1
  have y0 := g4.2.2.2.1
  have y1 := g4.2.2.2.2
  have p0 := g3.1
  have p1 := g3.2
  have r0_0 := f30.2
  clear g3
  clear g4
  clear f33 f38
  clear f20 f30
  subst e1
  subst e2
  first
  | (have ix0 : n20 = n0 + 1 := Eq.trans f41 (w32_iv (Iad (Iat f1 f0) (IC 1)) (by decide)); subst ix0; clear f41)
  | (have ix0 : n20 = n0 + 1 := Eq.trans f41 (w32_id (by omega) (by omega)); subst ix0; clear f41)
  | (unfold w32 at f41; have ix0 : n20 = n0 + 1 := (by omega); subst ix0)
  | skip
  try unfold w32 at f27
  try unfold w32 at f40
  try unfold w32 at f41
  try subst k2
  try subst k1
  try subst k0
  omega
def g_307v_27_8 : vG := ([(10, [23, 10], [], 1), (3, [20, 9, 8], [], 0), (42, [15, 18], [], 0), (20, [18, 4], [2], 100), (90, [18], [], -2147483648), (91, [18], [], 2147483647), (41, [16, 17], [], 0), (0, [17], [], -1), (20, [16, 4], [2], 100), (90, [16], [], -2147483648), (91, [16], [], 2147483647), (1306, [15, 4, 5, 6, 7, 14, 13], [1, 2], 0), (90, [15], [], -2147483648), (91, [15], [], 2147483647), (3, [14, 9, 8], [], 0), (0, [13], [], 11), (41, [10, 12], [], 0), (0, [12], [], 1), (31, [10], [], 0), (42, [10, 11], [], 0), (0, [11], [], 3), (5000, [0, 1, 2, 3, 4, 5, 6, 7, 8, 9, 10], [0, 1], 27), (0, [0], [], 285), (90, [1], [], 0), (91, [1], [], 19), (90, [2], [], 0), (91, [2], [], 19), (90, [3], [], -2147483648), (91, [3], [], 2147483647), (0, [4], [], 285), (90, [5], [], 0), (91, [5], [], 19), (90, [6], [], 0), (91, [6], [], 19), (90, [7], [], -2147483648), (91, [7], [], 2147483647), (90, [8], [], 0), (91, [8], [], 24), (90, [9], [], -1), (91, [9], [], 1), (90, [10], [], 0), (91, [10], [], 3)], (91, [23], [], 3))
theorem c_307v_27_8 {q0 : Nat} : vOkm T0 (eP e_307v L_307v A_307v mu_307v (some q0)) 4 g_307v_27_8 := vOk_inI fun ρ η f0 f1 f2 f3 f4 f5 f6 f7 f8 f9 f10 f11 f12 f13 f14 f15 f16 f17 f18 f19 f20 f21 f22 f23 f24 f25 f26 f27 f28 f29 f30 f31 f32 f33 f34 f35 f36 f37 f38 f39 f40 f41 => q_307v_17 (q0 := q0) (n0 := ρ 10) (n1 := ρ 9) (n2 := ρ 8) (n3 := ρ 7) (n4 := ρ 6) (n5 := ρ 5) (n6 := ρ 4) (n7 := ρ 3) (n8 := ρ 2) (n9 := ρ 1) (n10 := ρ 0) (n11 := ρ 11) (n12 := ρ 12) (n13 := ρ 13) (n14 := ρ 14) (n15 := ρ 15) (n16 := ρ 16) (n17 := ρ 17) (n18 := ρ 18) (n19 := ρ 20) (n20 := ρ 23) (H0 := η 0) (H1 := η 1) (H2 := η 2) f41 f40 f39 f38 f37 f36 f35 f34 f33 f32 f31 f30 f29 f28 f27 f26 f25 f24 f23 f22 f21 f20 f19 f18 f17 f16 f15 f14 f13 f12 f11 f10 f9 f8 f7 f6 f5 f4 f3 f2 f1 f0
theorem q_307v_18 {q0 : Nat} {n0 n1 n2 n3 n4 n5 n6 n7 n8 n9 n10 n11 n12 n13 n14 n15 n16 n17 n18 n19 n20 n21 n22 n23 : Int} {H0 H1 H2 H3 H4 H5 : gH} (f0 : n0 ≤ 3) (f1 : 0 ≤ n0) (f2 : n1 ≤ 1) (f3 : (-1) ≤ n1) (f4 : n2 ≤ 24) (f5 : 0 ≤ n2) (f6 : n3 ≤ 2147483647) (f7 : (-2147483648) ≤ n3) (f8 : n4 ≤ 19) (f9 : 0 ≤ n4) (f10 : n5 ≤ 19) (f11 : 0 ≤ n5) (f12 : n6 = 285) (f13 : n7 ≤ 2147483647) (f14 : (-2147483648) ≤ n7) (f15 : n8 ≤ 19) (f16 : 0 ≤ n8) (f17 : n9 ≤ 19) (f18 : 0 ≤ n9) (f19 : n10 = 285) (f20 : (hLe T0 H0 H1 ∧ hFr s_307v.2.2.2.2 H0 H1 ∧ hWt T0 H1) ∧ (Ab_307v_27 n10 n9 n8 n7 n6 n5 n4 n3 n2 n1 n0 H0 H1 ∧ preb_307v n10 n9 n8 n7 H0) ∧ some q0 = some (mub_307v_27 n10 n9 n8 n7 n6 n5 n4 n3 n2 n1 n0 H0 H1)) (f21 : n11 = 3) (f22 : n0 < n11) (f23 : n0 ≠ 0) (f24 : n12 = 1) (f25 : n0 ≠ n12) (f26 : n13 = 11) (f27 : n14 = w32 (n1 * n2)) (f28 : n15 ≤ 2147483647) (f29 : (-2147483648) ≤ n15) (f30 : (hLe T0 H1 H2 ∧ hFr s_306v.2.2.2.2 H1 H2 ∧ ((0 : Int) = 0 → H2.length = H1.length) ∧ hWt T0 H2) ∧ postb_306v n15 n6 n5 n4 n3 n14 n13 H1 H2) (f31 : n16 ≤ 2147483647) (f32 : (-2147483648) ≤ n16) (f33 : n16 = hV H2 (n6).toNat 100) (f34 : n17 = (-1)) (f35 : n16 ≠ n17) (f36 : n18 ≤ 2147483647) (f37 : (-2147483648) ≤ n18) (f38 : n18 = hV H2 (n6).toNat 100) (f39 : n15 < n18) (f40 : n19 = 100) (f41 : hUpd H3 H2 n6 n19 n15) (f42 : n20 = w32 (n1 * n2)) (f43 : n21 = 101) (f44 : hUpd H4 H3 n6 n21 n20) (f45 : n22 = 102) (f46 : hUpd H5 H4 n6 n22 n13) (f47 : n23 = w32 (n0 + 1)) : Ab_307v_27 n10 n9 n8 n7 n6 n5 n4 n3 n2 n1 n23 H0 H5 ∧ ∀ q, some q0 = some q → mub_307v_27 n10 n9 n8 n7 n6 n5 n4 n3 n2 n1 n23 H0 H5 < q := by
  have ga := f20.2.1.1
  unfold Ab_307v_27 at ga
  obtain ⟨k0_, k1_, k2_, y0, y1⟩ := ga
  have pz := f20.2.1.2
  unfold preb_307v at pz
  have u27 := f27
  unfold w32 at u27
  have u42 := f42
  unfold w32 at u42
  have u47 := f47
  unfold w32 at u47
  have pm := f30.2
  unfold postb_306v at pm
  have lf := lkR_fr (x := n9) (y := n8) (sl := n7) f20.1.2.1 (by decide +kernel) (by decide +kernel)
  rw [show n5 = n9 from k0_, show n4 = n8 from k1_, show n3 = n7 from k2_, lf] at pm
  have w100 : hV H5 285 100 = n15 := (uSlot f46 285 100 (by rw [f45]; decide)).trans ((uSlot f44 285 100 (by rw [f43]; decide)).trans (uSame f41 285 100 (by rw [f12]; rfl) (by rw [f40]; rfl)))
  have w101 : hV H5 285 101 = n20 := (uSlot f46 285 101 (by rw [f45]; decide)).trans (uSame f44 285 101 (by rw [f12]; rfl) (by rw [f43]; rfl))
  have w102 : hV H5 285 102 = n13 := uSame f46 285 102 (by rw [f12]; rfl) (by rw [f45]; rfl)
  have sg : n14 = sgf n1 n2 := by
    have z := f27
    unfold sgf
    rcases y1 with t | t <;> rw [t] at z ⊢ <;> unfold w32 at z
    · rw [if_pos rfl]
      omega
    · rw [if_neg (by decide)]
      omega
  rw [sg] at pm
  have rm0 := f33
  rw [f12] at rm0
  rw [show ((285 : Int)).toNat = 285 from rfl, show hV H2 285 100 = hV H1 285 100 from f30.1.2.1.1 285 100 kF_306v_285_100] at rm0
  have rm1 := f38
  rw [f12] at rm1
  rw [show ((285 : Int)).toNat = 285 from rfl, show hV H2 285 100 = hV H1 285 100 from f30.1.2.1.1 285 100 kF_306v_285_100] at rm1
  have g5 := Option.some.inj f20.2.2
  unfold mub_307v_27 at g5
  unfold Ab_307v_27 mub_307v_27
  refine ⟨⟨k0_, k1_, k2_, ?_, y1⟩, fun q hq => ?_⟩
  · rw [show (n23).toNat = (n0).toNat + 1 by omega]
    have e3 : n0 = 0 ∨ n0 = 1 ∨ n0 = 2 := by omega
    have tt : ((n0).toNat = 0 ∧ n13 = 10) ∨ ((n0).toNat = 1 ∧ n13 = 9) ∨ ((n0).toNat = 2 ∧ n13 = 11) := by omega
    rw [gk_step tt, ← y0]
    unfold frs
    rw [← pm]
    dsimp only
    rw [w100, w101, w102]
    rw [if_neg (by omega), show n20 = n14 by omega, sg]
  · have g6 := Option.some.inj hq
    subst g6
    omega
def g_307v_27_9 : vG := ([(10, [23, 10], [], 1), (80, [4, 22, 13], [5, 4], 0), (0, [22], [], 102), (80, [4, 21, 20], [4, 3], 0), (0, [21], [], 101), (3, [20, 9, 8], [], 0), (80, [4, 19, 15], [3, 2], 0), (0, [19], [], 100), (42, [15, 18], [], 0), (20, [18, 4], [2], 100), (90, [18], [], -2147483648), (91, [18], [], 2147483647), (41, [16, 17], [], 0), (0, [17], [], -1), (20, [16, 4], [2], 100), (90, [16], [], -2147483648), (91, [16], [], 2147483647), (1306, [15, 4, 5, 6, 7, 14, 13], [1, 2], 0), (90, [15], [], -2147483648), (91, [15], [], 2147483647), (3, [14, 9, 8], [], 0), (0, [13], [], 11), (41, [10, 12], [], 0), (0, [12], [], 1), (31, [10], [], 0), (42, [10, 11], [], 0), (0, [11], [], 3), (5000, [0, 1, 2, 3, 4, 5, 6, 7, 8, 9, 10], [0, 1], 27), (0, [0], [], 285), (90, [1], [], 0), (91, [1], [], 19), (90, [2], [], 0), (91, [2], [], 19), (90, [3], [], -2147483648), (91, [3], [], 2147483647), (0, [4], [], 285), (90, [5], [], 0), (91, [5], [], 19), (90, [6], [], 0), (91, [6], [], 19), (90, [7], [], -2147483648), (91, [7], [], 2147483647), (90, [8], [], 0), (91, [8], [], 24), (90, [9], [], -1), (91, [9], [], 1), (90, [10], [], 0), (91, [10], [], 3)], (4000, [4, 5, 6, 7, 8, 9, 23], [5], 27))
theorem c_307v_27_9 {q0 : Nat} : vOkm T0 (eP e_307v L_307v A_307v mu_307v (some q0)) 4 g_307v_27_9 := vOk_inI fun ρ η f0 f1 f2 f3 f4 f5 f6 f7 f8 f9 f10 f11 f12 f13 f14 f15 f16 f17 f18 f19 f20 f21 f22 f23 f24 f25 f26 f27 f28 f29 f30 f31 f32 f33 f34 f35 f36 f37 f38 f39 f40 f41 f42 f43 f44 f45 f46 f47 => q_307v_18 (q0 := q0) (n0 := ρ 10) (n1 := ρ 9) (n2 := ρ 8) (n3 := ρ 7) (n4 := ρ 6) (n5 := ρ 5) (n6 := ρ 4) (n7 := ρ 3) (n8 := ρ 2) (n9 := ρ 1) (n10 := ρ 0) (n11 := ρ 11) (n12 := ρ 12) (n13 := ρ 13) (n14 := ρ 14) (n15 := ρ 15) (n16 := ρ 16) (n17 := ρ 17) (n18 := ρ 18) (n19 := ρ 19) (n20 := ρ 20) (n21 := ρ 21) (n22 := ρ 22) (n23 := ρ 23) (H0 := η 0) (H1 := η 1) (H2 := η 2) (H3 := η 3) (H4 := η 4) (H5 := η 5) f47 f46 f45 f44 f43 f42 f41 f40 f39 f38 f37 f36 f35 f34 f33 f32 f31 f30 f29 f28 f27 f26 f25 f24 f23 f22 f21 f20 f19 f18 f17 f16 f15 f14 f13 f12 f11 f10 f9 f8 f7 f6 f5 f4 f3 f2 f1 f0
theorem q_307v_19 {q0 : Nat} {n0 n1 n2 n3 n4 n5 n6 n7 n8 n9 n10 n11 n12 n13 n14 n15 n16 n17 n18 n19 : Int} {H0 H1 H2 : gH} (f0 : n0 ≤ 3) (f1 : 0 ≤ n0) (f2 : n1 ≤ 1) (f3 : (-1) ≤ n1) (f4 : n2 ≤ 24) (f5 : 0 ≤ n2) (f6 : n3 ≤ 2147483647) (f7 : (-2147483648) ≤ n3) (f8 : n4 ≤ 19) (f9 : 0 ≤ n4) (f10 : n5 ≤ 19) (f11 : 0 ≤ n5) (f12 : n6 = 285) (f13 : n7 ≤ 2147483647) (f14 : (-2147483648) ≤ n7) (f15 : n8 ≤ 19) (f16 : 0 ≤ n8) (f17 : n9 ≤ 19) (f18 : 0 ≤ n9) (f19 : n10 = 285) (f20 : (hLe T0 H0 H1 ∧ hFr s_307v.2.2.2.2 H0 H1 ∧ hWt T0 H1) ∧ (Ab_307v_27 n10 n9 n8 n7 n6 n5 n4 n3 n2 n1 n0 H0 H1 ∧ preb_307v n10 n9 n8 n7 H0) ∧ some q0 = some (mub_307v_27 n10 n9 n8 n7 n6 n5 n4 n3 n2 n1 n0 H0 H1)) (f21 : n11 = 3) (f22 : n0 < n11) (f23 : n0 ≠ 0) (f24 : n12 = 1) (f25 : n0 ≠ n12) (f26 : n13 = 11) (f27 : n14 = w32 (n1 * n2)) (f28 : n15 ≤ 2147483647) (f29 : (-2147483648) ≤ n15) (f30 : (hLe T0 H1 H2 ∧ hFr s_306v.2.2.2.2 H1 H2 ∧ ((0 : Int) = 0 → H2.length = H1.length) ∧ hWt T0 H2) ∧ postb_306v n15 n6 n5 n4 n3 n14 n13 H1 H2) (f31 : n16 ≤ 2147483647) (f32 : (-2147483648) ≤ n16) (f33 : n16 = hV H2 (n6).toNat 100) (f34 : n17 = (-1)) (f35 : n16 ≠ n17) (f36 : n18 ≤ 2147483647) (f37 : (-2147483648) ≤ n18) (f38 : n18 = hV H2 (n6).toNat 100) (f39 : n18 ≤ n15) (f40 : n19 = w32 (n0 + 1)) : 0 ≤ n19 := by
  have g4 := f20.2.1.1
  unfold Ab_307v_27 at g4
  have g3 := f20.2.1.2
  unfold preb_307v at g3
  unfold postb_306v at f30
  have e1 : n16 = hV H1 285 100 := (by rw [f12] at f33; exact f33 : n16 = hV H2 285 100).trans ((f30.1.2.1.1 285 100 kF_306v_285_100))
  have e2 : n18 = hV H1 285 100 := (by rw [f12] at f38; exact f38 : n18 = hV H2 285 100).trans ((f30.1.2.1.1 285 100 kF_306v_285_100))
  have k0 := g4.1
  have k1 := g4.2.1
  have k2 := g4.2.2.1
  have y0 := g4.2.2.2.1
  have y1 := g4.2.2.2.2
  have p0 := g3.1
  have p1 := g3.2
  have r0_0 := f30.2
  clear g3
  clear g4
  clear f33 f38
  clear f20 f30
  subst e1
  subst e2
  first
  | (have ix0 : n19 = n0 + 1 := Eq.trans f40 (w32_iv (Iad (Iat f1 f0) (IC 1)) (by decide)); subst ix0; clear f40)
  | (have ix0 : n19 = n0 + 1 := Eq.trans f40 (w32_id (by omega) (by omega)); subst ix0; clear f40)
  | (unfold w32 at f40; have ix0 : n19 = n0 + 1 := (by omega); subst ix0)
  | skip
  try unfold w32 at f27
  try unfold w32 at f40
  try subst k2
  try subst k1
  try subst k0
  omega
def g_307v_27_10 : vG := ([(10, [19, 10], [], 1), (43, [15, 18], [], 0), (20, [18, 4], [2], 100), (90, [18], [], -2147483648), (91, [18], [], 2147483647), (41, [16, 17], [], 0), (0, [17], [], -1), (20, [16, 4], [2], 100), (90, [16], [], -2147483648), (91, [16], [], 2147483647), (1306, [15, 4, 5, 6, 7, 14, 13], [1, 2], 0), (90, [15], [], -2147483648), (91, [15], [], 2147483647), (3, [14, 9, 8], [], 0), (0, [13], [], 11), (41, [10, 12], [], 0), (0, [12], [], 1), (31, [10], [], 0), (42, [10, 11], [], 0), (0, [11], [], 3), (5000, [0, 1, 2, 3, 4, 5, 6, 7, 8, 9, 10], [0, 1], 27), (0, [0], [], 285), (90, [1], [], 0), (91, [1], [], 19), (90, [2], [], 0), (91, [2], [], 19), (90, [3], [], -2147483648), (91, [3], [], 2147483647), (0, [4], [], 285), (90, [5], [], 0), (91, [5], [], 19), (90, [6], [], 0), (91, [6], [], 19), (90, [7], [], -2147483648), (91, [7], [], 2147483647), (90, [8], [], 0), (91, [8], [], 24), (90, [9], [], -1), (91, [9], [], 1), (90, [10], [], 0), (91, [10], [], 3)], (90, [19], [], 0))
theorem c_307v_27_10 {q0 : Nat} : vOkm T0 (eP e_307v L_307v A_307v mu_307v (some q0)) 4 g_307v_27_10 := vOk_inI fun ρ η f0 f1 f2 f3 f4 f5 f6 f7 f8 f9 f10 f11 f12 f13 f14 f15 f16 f17 f18 f19 f20 f21 f22 f23 f24 f25 f26 f27 f28 f29 f30 f31 f32 f33 f34 f35 f36 f37 f38 f39 f40 => q_307v_19 (q0 := q0) (n0 := ρ 10) (n1 := ρ 9) (n2 := ρ 8) (n3 := ρ 7) (n4 := ρ 6) (n5 := ρ 5) (n6 := ρ 4) (n7 := ρ 3) (n8 := ρ 2) (n9 := ρ 1) (n10 := ρ 0) (n11 := ρ 11) (n12 := ρ 12) (n13 := ρ 13) (n14 := ρ 14) (n15 := ρ 15) (n16 := ρ 16) (n17 := ρ 17) (n18 := ρ 18) (n19 := ρ 19) (H0 := η 0) (H1 := η 1) (H2 := η 2) f40 f39 f38 f37 f36 f35 f34 f33 f32 f31 f30 f29 f28 f27 f26 f25 f24 f23 f22 f21 f20 f19 f18 f17 f16 f15 f14 f13 f12 f11 f10 f9 f8 f7 f6 f5 f4 f3 f2 f1 f0
theorem q_307v_20 {q0 : Nat} {n0 n1 n2 n3 n4 n5 n6 n7 n8 n9 n10 n11 n12 n13 n14 n15 n16 n17 n18 n19 : Int} {H0 H1 H2 : gH} (f0 : n0 ≤ 3) (f1 : 0 ≤ n0) (f2 : n1 ≤ 1) (f3 : (-1) ≤ n1) (f4 : n2 ≤ 24) (f5 : 0 ≤ n2) (f6 : n3 ≤ 2147483647) (f7 : (-2147483648) ≤ n3) (f8 : n4 ≤ 19) (f9 : 0 ≤ n4) (f10 : n5 ≤ 19) (f11 : 0 ≤ n5) (f12 : n6 = 285) (f13 : n7 ≤ 2147483647) (f14 : (-2147483648) ≤ n7) (f15 : n8 ≤ 19) (f16 : 0 ≤ n8) (f17 : n9 ≤ 19) (f18 : 0 ≤ n9) (f19 : n10 = 285) (f20 : (hLe T0 H0 H1 ∧ hFr s_307v.2.2.2.2 H0 H1 ∧ hWt T0 H1) ∧ (Ab_307v_27 n10 n9 n8 n7 n6 n5 n4 n3 n2 n1 n0 H0 H1 ∧ preb_307v n10 n9 n8 n7 H0) ∧ some q0 = some (mub_307v_27 n10 n9 n8 n7 n6 n5 n4 n3 n2 n1 n0 H0 H1)) (f21 : n11 = 3) (f22 : n0 < n11) (f23 : n0 ≠ 0) (f24 : n12 = 1) (f25 : n0 ≠ n12) (f26 : n13 = 11) (f27 : n14 = w32 (n1 * n2)) (f28 : n15 ≤ 2147483647) (f29 : (-2147483648) ≤ n15) (f30 : (hLe T0 H1 H2 ∧ hFr s_306v.2.2.2.2 H1 H2 ∧ ((0 : Int) = 0 → H2.length = H1.length) ∧ hWt T0 H2) ∧ postb_306v n15 n6 n5 n4 n3 n14 n13 H1 H2) (f31 : n16 ≤ 2147483647) (f32 : (-2147483648) ≤ n16) (f33 : n16 = hV H2 (n6).toNat 100) (f34 : n17 = (-1)) (f35 : n16 ≠ n17) (f36 : n18 ≤ 2147483647) (f37 : (-2147483648) ≤ n18) (f38 : n18 = hV H2 (n6).toNat 100) (f39 : n18 ≤ n15) (f40 : n19 = w32 (n0 + 1)) : n19 ≤ 3 := by
  have g4 := f20.2.1.1
  unfold Ab_307v_27 at g4
  have g3 := f20.2.1.2
  unfold preb_307v at g3
  unfold postb_306v at f30
  have e1 : n16 = hV H1 285 100 := (by rw [f12] at f33; exact f33 : n16 = hV H2 285 100).trans ((f30.1.2.1.1 285 100 kF_306v_285_100))
  have e2 : n18 = hV H1 285 100 := (by rw [f12] at f38; exact f38 : n18 = hV H2 285 100).trans ((f30.1.2.1.1 285 100 kF_306v_285_100))
  have k0 := g4.1
  have k1 := g4.2.1
  have k2 := g4.2.2.1
  have y0 := g4.2.2.2.1
  have y1 := g4.2.2.2.2
  have p0 := g3.1
  have p1 := g3.2
  have r0_0 := f30.2
  clear g3
  clear g4
  clear f33 f38
  clear f20 f30
  subst e1
  subst e2
  first
  | (have ix0 : n19 = n0 + 1 := Eq.trans f40 (w32_iv (Iad (Iat f1 f0) (IC 1)) (by decide)); subst ix0; clear f40)
  | (have ix0 : n19 = n0 + 1 := Eq.trans f40 (w32_id (by omega) (by omega)); subst ix0; clear f40)
  | (unfold w32 at f40; have ix0 : n19 = n0 + 1 := (by omega); subst ix0)
  | skip
  try unfold w32 at f27
  try unfold w32 at f40
  try subst k2
  try subst k1
  try subst k0
  omega
def g_307v_27_11 : vG := ([(10, [19, 10], [], 1), (43, [15, 18], [], 0), (20, [18, 4], [2], 100), (90, [18], [], -2147483648), (91, [18], [], 2147483647), (41, [16, 17], [], 0), (0, [17], [], -1), (20, [16, 4], [2], 100), (90, [16], [], -2147483648), (91, [16], [], 2147483647), (1306, [15, 4, 5, 6, 7, 14, 13], [1, 2], 0), (90, [15], [], -2147483648), (91, [15], [], 2147483647), (3, [14, 9, 8], [], 0), (0, [13], [], 11), (41, [10, 12], [], 0), (0, [12], [], 1), (31, [10], [], 0), (42, [10, 11], [], 0), (0, [11], [], 3), (5000, [0, 1, 2, 3, 4, 5, 6, 7, 8, 9, 10], [0, 1], 27), (0, [0], [], 285), (90, [1], [], 0), (91, [1], [], 19), (90, [2], [], 0), (91, [2], [], 19), (90, [3], [], -2147483648), (91, [3], [], 2147483647), (0, [4], [], 285), (90, [5], [], 0), (91, [5], [], 19), (90, [6], [], 0), (91, [6], [], 19), (90, [7], [], -2147483648), (91, [7], [], 2147483647), (90, [8], [], 0), (91, [8], [], 24), (90, [9], [], -1), (91, [9], [], 1), (90, [10], [], 0), (91, [10], [], 3)], (91, [19], [], 3))
theorem c_307v_27_11 {q0 : Nat} : vOkm T0 (eP e_307v L_307v A_307v mu_307v (some q0)) 4 g_307v_27_11 := vOk_inI fun ρ η f0 f1 f2 f3 f4 f5 f6 f7 f8 f9 f10 f11 f12 f13 f14 f15 f16 f17 f18 f19 f20 f21 f22 f23 f24 f25 f26 f27 f28 f29 f30 f31 f32 f33 f34 f35 f36 f37 f38 f39 f40 => q_307v_20 (q0 := q0) (n0 := ρ 10) (n1 := ρ 9) (n2 := ρ 8) (n3 := ρ 7) (n4 := ρ 6) (n5 := ρ 5) (n6 := ρ 4) (n7 := ρ 3) (n8 := ρ 2) (n9 := ρ 1) (n10 := ρ 0) (n11 := ρ 11) (n12 := ρ 12) (n13 := ρ 13) (n14 := ρ 14) (n15 := ρ 15) (n16 := ρ 16) (n17 := ρ 17) (n18 := ρ 18) (n19 := ρ 19) (H0 := η 0) (H1 := η 1) (H2 := η 2) f40 f39 f38 f37 f36 f35 f34 f33 f32 f31 f30 f29 f28 f27 f26 f25 f24 f23 f22 f21 f20 f19 f18 f17 f16 f15 f14 f13 f12 f11 f10 f9 f8 f7 f6 f5 f4 f3 f2 f1 f0
theorem kF_306v_285_101 : vFree s_306v.2.2.2.2 285 101 = true := by decide +kernel
theorem kF_306v_285_102 : vFree s_306v.2.2.2.2 285 102 = true := by decide +kernel
theorem q_307v_21 {q0 : Nat} {n0 n1 n2 n3 n4 n5 n6 n7 n8 n9 n10 n11 n12 n13 n14 n15 n16 n17 n18 n19 : Int} {H0 H1 H2 : gH} (f0 : n0 ≤ 3) (f1 : 0 ≤ n0) (f2 : n1 ≤ 1) (f3 : (-1) ≤ n1) (f4 : n2 ≤ 24) (f5 : 0 ≤ n2) (f6 : n3 ≤ 2147483647) (f7 : (-2147483648) ≤ n3) (f8 : n4 ≤ 19) (f9 : 0 ≤ n4) (f10 : n5 ≤ 19) (f11 : 0 ≤ n5) (f12 : n6 = 285) (f13 : n7 ≤ 2147483647) (f14 : (-2147483648) ≤ n7) (f15 : n8 ≤ 19) (f16 : 0 ≤ n8) (f17 : n9 ≤ 19) (f18 : 0 ≤ n9) (f19 : n10 = 285) (f20 : (hLe T0 H0 H1 ∧ hFr s_307v.2.2.2.2 H0 H1 ∧ hWt T0 H1) ∧ (Ab_307v_27 n10 n9 n8 n7 n6 n5 n4 n3 n2 n1 n0 H0 H1 ∧ preb_307v n10 n9 n8 n7 H0) ∧ some q0 = some (mub_307v_27 n10 n9 n8 n7 n6 n5 n4 n3 n2 n1 n0 H0 H1)) (f21 : n11 = 3) (f22 : n0 < n11) (f23 : n0 ≠ 0) (f24 : n12 = 1) (f25 : n0 ≠ n12) (f26 : n13 = 11) (f27 : n14 = w32 (n1 * n2)) (f28 : n15 ≤ 2147483647) (f29 : (-2147483648) ≤ n15) (f30 : (hLe T0 H1 H2 ∧ hFr s_306v.2.2.2.2 H1 H2 ∧ ((0 : Int) = 0 → H2.length = H1.length) ∧ hWt T0 H2) ∧ postb_306v n15 n6 n5 n4 n3 n14 n13 H1 H2) (f31 : n16 ≤ 2147483647) (f32 : (-2147483648) ≤ n16) (f33 : n16 = hV H2 (n6).toNat 100) (f34 : n17 = (-1)) (f35 : n16 ≠ n17) (f36 : n18 ≤ 2147483647) (f37 : (-2147483648) ≤ n18) (f38 : n18 = hV H2 (n6).toNat 100) (f39 : n18 ≤ n15) (f40 : n19 = w32 (n0 + 1)) : Ab_307v_27 n10 n9 n8 n7 n6 n5 n4 n3 n2 n1 n19 H0 H2 ∧ ∀ q, some q0 = some q → mub_307v_27 n10 n9 n8 n7 n6 n5 n4 n3 n2 n1 n19 H0 H2 < q := by
  have ga := f20.2.1.1
  unfold Ab_307v_27 at ga
  obtain ⟨k0_, k1_, k2_, y0, y1⟩ := ga
  have pz := f20.2.1.2
  unfold preb_307v at pz
  have u27 := f27
  unfold w32 at u27
  have u40 := f40
  unfold w32 at u40
  have pm := f30.2
  unfold postb_306v at pm
  have lf := lkR_fr (x := n9) (y := n8) (sl := n7) f20.1.2.1 (by decide +kernel) (by decide +kernel)
  rw [show n5 = n9 from k0_, show n4 = n8 from k1_, show n3 = n7 from k2_, lf] at pm
  have w100 : hV H2 285 100 = hV H1 285 100 := f30.1.2.1.1 285 100 kF_306v_285_100
  have w101 : hV H2 285 101 = hV H1 285 101 := f30.1.2.1.1 285 101 kF_306v_285_101
  have w102 : hV H2 285 102 = hV H1 285 102 := f30.1.2.1.1 285 102 kF_306v_285_102
  have sg : n14 = sgf n1 n2 := by
    have z := f27
    unfold sgf
    rcases y1 with t | t <;> rw [t] at z ⊢ <;> unfold w32 at z
    · rw [if_pos rfl]
      omega
    · rw [if_neg (by decide)]
      omega
  rw [sg] at pm
  have rm0 := f33
  rw [f12] at rm0
  rw [show ((285 : Int)).toNat = 285 from rfl, show hV H2 285 100 = hV H1 285 100 from f30.1.2.1.1 285 100 kF_306v_285_100] at rm0
  have rm1 := f38
  rw [f12] at rm1
  rw [show ((285 : Int)).toNat = 285 from rfl, show hV H2 285 100 = hV H1 285 100 from f30.1.2.1.1 285 100 kF_306v_285_100] at rm1
  have g5 := Option.some.inj f20.2.2
  unfold mub_307v_27 at g5
  unfold Ab_307v_27 mub_307v_27
  refine ⟨⟨k0_, k1_, k2_, ?_, y1⟩, fun q hq => ?_⟩
  · rw [show (n19).toNat = (n0).toNat + 1 by omega]
    have e3 : n0 = 0 ∨ n0 = 1 ∨ n0 = 2 := by omega
    have tt : ((n0).toNat = 0 ∧ n13 = 10) ∨ ((n0).toNat = 1 ∧ n13 = 9) ∨ ((n0).toNat = 2 ∧ n13 = 11) := by omega
    rw [gk_step tt, ← y0]
    unfold frs
    rw [← pm]
    dsimp only
    rw [w100, w101, w102]
    rw [if_pos (by omega)]
  · have g6 := Option.some.inj hq
    subst g6
    omega
def g_307v_27_12 : vG := ([(10, [19, 10], [], 1), (43, [15, 18], [], 0), (20, [18, 4], [2], 100), (90, [18], [], -2147483648), (91, [18], [], 2147483647), (41, [16, 17], [], 0), (0, [17], [], -1), (20, [16, 4], [2], 100), (90, [16], [], -2147483648), (91, [16], [], 2147483647), (1306, [15, 4, 5, 6, 7, 14, 13], [1, 2], 0), (90, [15], [], -2147483648), (91, [15], [], 2147483647), (3, [14, 9, 8], [], 0), (0, [13], [], 11), (41, [10, 12], [], 0), (0, [12], [], 1), (31, [10], [], 0), (42, [10, 11], [], 0), (0, [11], [], 3), (5000, [0, 1, 2, 3, 4, 5, 6, 7, 8, 9, 10], [0, 1], 27), (0, [0], [], 285), (90, [1], [], 0), (91, [1], [], 19), (90, [2], [], 0), (91, [2], [], 19), (90, [3], [], -2147483648), (91, [3], [], 2147483647), (0, [4], [], 285), (90, [5], [], 0), (91, [5], [], 19), (90, [6], [], 0), (91, [6], [], 19), (90, [7], [], -2147483648), (91, [7], [], 2147483647), (90, [8], [], 0), (91, [8], [], 24), (90, [9], [], -1), (91, [9], [], 1), (90, [10], [], 0), (91, [10], [], 3)], (4000, [4, 5, 6, 7, 8, 9, 19], [2], 27))
theorem c_307v_27_12 {q0 : Nat} : vOkm T0 (eP e_307v L_307v A_307v mu_307v (some q0)) 4 g_307v_27_12 := vOk_inI fun ρ η f0 f1 f2 f3 f4 f5 f6 f7 f8 f9 f10 f11 f12 f13 f14 f15 f16 f17 f18 f19 f20 f21 f22 f23 f24 f25 f26 f27 f28 f29 f30 f31 f32 f33 f34 f35 f36 f37 f38 f39 f40 => q_307v_21 (q0 := q0) (n0 := ρ 10) (n1 := ρ 9) (n2 := ρ 8) (n3 := ρ 7) (n4 := ρ 6) (n5 := ρ 5) (n6 := ρ 4) (n7 := ρ 3) (n8 := ρ 2) (n9 := ρ 1) (n10 := ρ 0) (n11 := ρ 11) (n12 := ρ 12) (n13 := ρ 13) (n14 := ρ 14) (n15 := ρ 15) (n16 := ρ 16) (n17 := ρ 17) (n18 := ρ 18) (n19 := ρ 19) (H0 := η 0) (H1 := η 1) (H2 := η 2) f40 f39 f38 f37 f36 f35 f34 f33 f32 f31 f30 f29 f28 f27 f26 f25 f24 f23 f22 f21 f20 f19 f18 f17 f16 f15 f14 f13 f12 f11 f10 f9 f8 f7 f6 f5 f4 f3 f2 f1 f0
theorem q_307v_22 {q0 : Nat} {n0 n1 n2 n3 n4 n5 n6 n7 n8 n9 n10 n11 n12 n13 n14 : Int} {H0 H1 : gH} (f0 : n0 ≤ 3) (f1 : 0 ≤ n0) (f2 : n1 ≤ 1) (f3 : (-1) ≤ n1) (f4 : n2 ≤ 24) (f5 : 0 ≤ n2) (f6 : n3 ≤ 2147483647) (f7 : (-2147483648) ≤ n3) (f8 : n4 ≤ 19) (f9 : 0 ≤ n4) (f10 : n5 ≤ 19) (f11 : 0 ≤ n5) (f12 : n6 = 285) (f13 : n7 ≤ 2147483647) (f14 : (-2147483648) ≤ n7) (f15 : n8 ≤ 19) (f16 : 0 ≤ n8) (f17 : n9 ≤ 19) (f18 : 0 ≤ n9) (f19 : n10 = 285) (f20 : (hLe T0 H0 H1 ∧ hFr s_307v.2.2.2.2 H0 H1 ∧ hWt T0 H1) ∧ (Ab_307v_27 n10 n9 n8 n7 n6 n5 n4 n3 n2 n1 n0 H0 H1 ∧ preb_307v n10 n9 n8 n7 H0) ∧ some q0 = some (mub_307v_27 n10 n9 n8 n7 n6 n5 n4 n3 n2 n1 n0 H0 H1)) (f21 : n11 = 3) (f22 : n0 < n11) (f23 : n0 ≠ 0) (f24 : n12 = 1) (f25 : n0 = n12) (f26 : n13 = 9) (f27 : n14 = w32 (n1 * n2)) : preb_306v n6 n5 n4 n3 n14 n13 H1 := by
  have ga := f20.2.1.1
  unfold Ab_307v_27 at ga
  obtain ⟨k0_, k1_, k2_, y0, y1⟩ := ga
  have pz := f20.2.1.2
  unfold preb_307v at pz
  have u27 := f27
  unfold w32 at u27
  unfold preb_306v
  rcases y1 with t | t <;> subst t <;> omega
def g_307v_27_13 : vG := ([(3, [14, 9, 8], [], 0), (0, [13], [], 9), (40, [10, 12], [], 0), (0, [12], [], 1), (31, [10], [], 0), (42, [10, 11], [], 0), (0, [11], [], 3), (5000, [0, 1, 2, 3, 4, 5, 6, 7, 8, 9, 10], [0, 1], 27), (0, [0], [], 285), (90, [1], [], 0), (91, [1], [], 19), (90, [2], [], 0), (91, [2], [], 19), (90, [3], [], -2147483648), (91, [3], [], 2147483647), (0, [4], [], 285), (90, [5], [], 0), (91, [5], [], 19), (90, [6], [], 0), (91, [6], [], 19), (90, [7], [], -2147483648), (91, [7], [], 2147483647), (90, [8], [], 0), (91, [8], [], 24), (90, [9], [], -1), (91, [9], [], 1), (90, [10], [], 0), (91, [10], [], 3)], (2306, [4, 5, 6, 7, 14, 13], [1], 0))
theorem c_307v_27_13 {q0 : Nat} : vOkm T0 (eP e_307v L_307v A_307v mu_307v (some q0)) 4 g_307v_27_13 := vOk_inI fun ρ η f0 f1 f2 f3 f4 f5 f6 f7 f8 f9 f10 f11 f12 f13 f14 f15 f16 f17 f18 f19 f20 f21 f22 f23 f24 f25 f26 f27 => q_307v_22 (q0 := q0) (n0 := ρ 10) (n1 := ρ 9) (n2 := ρ 8) (n3 := ρ 7) (n4 := ρ 6) (n5 := ρ 5) (n6 := ρ 4) (n7 := ρ 3) (n8 := ρ 2) (n9 := ρ 1) (n10 := ρ 0) (n11 := ρ 11) (n12 := ρ 12) (n13 := ρ 13) (n14 := ρ 14) (H0 := η 0) (H1 := η 1) f27 f26 f25 f24 f23 f22 f21 f20 f19 f18 f17 f16 f15 f14 f13 f12 f11 f10 f9 f8 f7 f6 f5 f4 f3 f2 f1 f0
theorem q_307v_23 {q0 : Nat} {n0 n1 n2 n3 n4 n5 n6 n7 n8 n9 n10 n11 n12 n13 n14 n15 n16 n17 n18 n19 : Int} {H0 H1 H2 : gH} (f0 : n0 ≤ 3) (f1 : 0 ≤ n0) (f2 : n1 ≤ 1) (f3 : (-1) ≤ n1) (f4 : n2 ≤ 24) (f5 : 0 ≤ n2) (f6 : n3 ≤ 2147483647) (f7 : (-2147483648) ≤ n3) (f8 : n4 ≤ 19) (f9 : 0 ≤ n4) (f10 : n5 ≤ 19) (f11 : 0 ≤ n5) (f12 : n6 = 285) (f13 : n7 ≤ 2147483647) (f14 : (-2147483648) ≤ n7) (f15 : n8 ≤ 19) (f16 : 0 ≤ n8) (f17 : n9 ≤ 19) (f18 : 0 ≤ n9) (f19 : n10 = 285) (f20 : (hLe T0 H0 H1 ∧ hFr s_307v.2.2.2.2 H0 H1 ∧ hWt T0 H1) ∧ (Ab_307v_27 n10 n9 n8 n7 n6 n5 n4 n3 n2 n1 n0 H0 H1 ∧ preb_307v n10 n9 n8 n7 H0) ∧ some q0 = some (mub_307v_27 n10 n9 n8 n7 n6 n5 n4 n3 n2 n1 n0 H0 H1)) (f21 : n11 = 3) (f22 : n0 < n11) (f23 : n0 ≠ 0) (f24 : n12 = 1) (f25 : n0 = n12) (f26 : n13 = 9) (f27 : n14 = w32 (n1 * n2)) (f28 : n15 ≤ 2147483647) (f29 : (-2147483648) ≤ n15) (f30 : (hLe T0 H1 H2 ∧ hFr s_306v.2.2.2.2 H1 H2 ∧ ((0 : Int) = 0 → H2.length = H1.length) ∧ hWt T0 H2) ∧ postb_306v n15 n6 n5 n4 n3 n14 n13 H1 H2) (f31 : n16 ≤ 2147483647) (f32 : (-2147483648) ≤ n16) (f33 : n16 = hV H2 (n6).toNat 100) (f34 : n17 = (-1)) (f35 : n16 = n17) (f36 : n18 = w32 (n1 * n2)) (f37 : n19 = w32 (n0 + 1)) : 0 ≤ n19 := by
  have g4 := f20.2.1.1
  unfold Ab_307v_27 at g4
  have g3 := f20.2.1.2
  unfold preb_307v at g3
  unfold postb_306v at f30
  have e1 : n16 = hV H1 285 100 := (by rw [f12] at f33; exact f33 : n16 = hV H2 285 100).trans ((f30.1.2.1.1 285 100 kF_306v_285_100))
  have k0 := g4.1
  have k1 := g4.2.1
  have k2 := g4.2.2.1
  have y0 := g4.2.2.2.1
  have y1 := g4.2.2.2.2
  have p0 := g3.1
  have p1 := g3.2
  have r0_0 := f30.2
  clear g3
  clear g4
  clear f33
  clear f20 f30
  subst e1
  first
  | (have ix0 : n19 = n0 + 1 := Eq.trans f37 (w32_iv (Iad (Iat f1 f0) (IC 1)) (by decide)); subst ix0; clear f37)
  | (have ix0 : n19 = n0 + 1 := Eq.trans f37 (w32_id (by omega) (by omega)); subst ix0; clear f37)
  | (unfold w32 at f37; have ix0 : n19 = n0 + 1 := (by omega); subst ix0)
  | skip
  try unfold w32 at f27
  try unfold w32 at f36
  try unfold w32 at f37
  try subst k2
  try subst k1
  try subst k0
  omega
def g_307v_27_14 : vG := ([(10, [22, 10], [], 1), (3, [19, 9, 8], [], 0), (40, [16, 17], [], 0), (0, [17], [], -1), (20, [16, 4], [2], 100), (90, [16], [], -2147483648), (91, [16], [], 2147483647), (1306, [15, 4, 5, 6, 7, 14, 13], [1, 2], 0), (90, [15], [], -2147483648), (91, [15], [], 2147483647), (3, [14, 9, 8], [], 0), (0, [13], [], 9), (40, [10, 12], [], 0), (0, [12], [], 1), (31, [10], [], 0), (42, [10, 11], [], 0), (0, [11], [], 3), (5000, [0, 1, 2, 3, 4, 5, 6, 7, 8, 9, 10], [0, 1], 27), (0, [0], [], 285), (90, [1], [], 0), (91, [1], [], 19), (90, [2], [], 0), (91, [2], [], 19), (90, [3], [], -2147483648), (91, [3], [], 2147483647), (0, [4], [], 285), (90, [5], [], 0), (91, [5], [], 19), (90, [6], [], 0), (91, [6], [], 19), (90, [7], [], -2147483648), (91, [7], [], 2147483647), (90, [8], [], 0), (91, [8], [], 24), (90, [9], [], -1), (91, [9], [], 1), (90, [10], [], 0), (91, [10], [], 3)], (90, [22], [], 0))
theorem c_307v_27_14 {q0 : Nat} : vOkm T0 (eP e_307v L_307v A_307v mu_307v (some q0)) 4 g_307v_27_14 := vOk_inI fun ρ η f0 f1 f2 f3 f4 f5 f6 f7 f8 f9 f10 f11 f12 f13 f14 f15 f16 f17 f18 f19 f20 f21 f22 f23 f24 f25 f26 f27 f28 f29 f30 f31 f32 f33 f34 f35 f36 f37 => q_307v_23 (q0 := q0) (n0 := ρ 10) (n1 := ρ 9) (n2 := ρ 8) (n3 := ρ 7) (n4 := ρ 6) (n5 := ρ 5) (n6 := ρ 4) (n7 := ρ 3) (n8 := ρ 2) (n9 := ρ 1) (n10 := ρ 0) (n11 := ρ 11) (n12 := ρ 12) (n13 := ρ 13) (n14 := ρ 14) (n15 := ρ 15) (n16 := ρ 16) (n17 := ρ 17) (n18 := ρ 19) (n19 := ρ 22) (H0 := η 0) (H1 := η 1) (H2 := η 2) f37 f36 f35 f34 f33 f32 f31 f30 f29 f28 f27 f26 f25 f24 f23 f22 f21 f20 f19 f18 f17 f16 f15 f14 f13 f12 f11 f10 f9 f8 f7 f6 f5 f4 f3 f2 f1 f0
theorem q_307v_24 {q0 : Nat} {n0 n1 n2 n3 n4 n5 n6 n7 n8 n9 n10 n11 n12 n13 n14 n15 n16 n17 n18 n19 : Int} {H0 H1 H2 : gH} (f0 : n0 ≤ 3) (f1 : 0 ≤ n0) (f2 : n1 ≤ 1) (f3 : (-1) ≤ n1) (f4 : n2 ≤ 24) (f5 : 0 ≤ n2) (f6 : n3 ≤ 2147483647) (f7 : (-2147483648) ≤ n3) (f8 : n4 ≤ 19) (f9 : 0 ≤ n4) (f10 : n5 ≤ 19) (f11 : 0 ≤ n5) (f12 : n6 = 285) (f13 : n7 ≤ 2147483647) (f14 : (-2147483648) ≤ n7) (f15 : n8 ≤ 19) (f16 : 0 ≤ n8) (f17 : n9 ≤ 19) (f18 : 0 ≤ n9) (f19 : n10 = 285) (f20 : (hLe T0 H0 H1 ∧ hFr s_307v.2.2.2.2 H0 H1 ∧ hWt T0 H1) ∧ (Ab_307v_27 n10 n9 n8 n7 n6 n5 n4 n3 n2 n1 n0 H0 H1 ∧ preb_307v n10 n9 n8 n7 H0) ∧ some q0 = some (mub_307v_27 n10 n9 n8 n7 n6 n5 n4 n3 n2 n1 n0 H0 H1)) (f21 : n11 = 3) (f22 : n0 < n11) (f23 : n0 ≠ 0) (f24 : n12 = 1) (f25 : n0 = n12) (f26 : n13 = 9) (f27 : n14 = w32 (n1 * n2)) (f28 : n15 ≤ 2147483647) (f29 : (-2147483648) ≤ n15) (f30 : (hLe T0 H1 H2 ∧ hFr s_306v.2.2.2.2 H1 H2 ∧ ((0 : Int) = 0 → H2.length = H1.length) ∧ hWt T0 H2) ∧ postb_306v n15 n6 n5 n4 n3 n14 n13 H1 H2) (f31 : n16 ≤ 2147483647) (f32 : (-2147483648) ≤ n16) (f33 : n16 = hV H2 (n6).toNat 100) (f34 : n17 = (-1)) (f35 : n16 = n17) (f36 : n18 = w32 (n1 * n2)) (f37 : n19 = w32 (n0 + 1)) : n19 ≤ 3 := by
  have g4 := f20.2.1.1
  unfold Ab_307v_27 at g4
  have g3 := f20.2.1.2
  unfold preb_307v at g3
  unfold postb_306v at f30
  have e1 : n16 = hV H1 285 100 := (by rw [f12] at f33; exact f33 : n16 = hV H2 285 100).trans ((f30.1.2.1.1 285 100 kF_306v_285_100))
  have k0 := g4.1
  have k1 := g4.2.1
  have k2 := g4.2.2.1
  have y0 := g4.2.2.2.1
  have y1 := g4.2.2.2.2
  have p0 := g3.1
  have p1 := g3.2
  have r0_0 := f30.2
  clear g3
  clear g4
  clear f33
  clear f20 f30
  subst e1
  first
  | (have ix0 : n19 = n0 + 1 := Eq.trans f37 (w32_iv (Iad (Iat f1 f0) (IC 1)) (by decide)); subst ix0; clear f37)
  | (have ix0 : n19 = n0 + 1 := Eq.trans f37 (w32_id (by omega) (by omega)); subst ix0; clear f37)
  | (unfold w32 at f37; have ix0 : n19 = n0 + 1 := (by omega); subst ix0)
  | skip
  try unfold w32 at f27
  try unfold w32 at f36
  try unfold w32 at f37
  try subst k2
  try subst k1
  try subst k0
  omega
def g_307v_27_15 : vG := ([(10, [22, 10], [], 1), (3, [19, 9, 8], [], 0), (40, [16, 17], [], 0), (0, [17], [], -1), (20, [16, 4], [2], 100), (90, [16], [], -2147483648), (91, [16], [], 2147483647), (1306, [15, 4, 5, 6, 7, 14, 13], [1, 2], 0), (90, [15], [], -2147483648), (91, [15], [], 2147483647), (3, [14, 9, 8], [], 0), (0, [13], [], 9), (40, [10, 12], [], 0), (0, [12], [], 1), (31, [10], [], 0), (42, [10, 11], [], 0), (0, [11], [], 3), (5000, [0, 1, 2, 3, 4, 5, 6, 7, 8, 9, 10], [0, 1], 27), (0, [0], [], 285), (90, [1], [], 0), (91, [1], [], 19), (90, [2], [], 0), (91, [2], [], 19), (90, [3], [], -2147483648), (91, [3], [], 2147483647), (0, [4], [], 285), (90, [5], [], 0), (91, [5], [], 19), (90, [6], [], 0), (91, [6], [], 19), (90, [7], [], -2147483648), (91, [7], [], 2147483647), (90, [8], [], 0), (91, [8], [], 24), (90, [9], [], -1), (91, [9], [], 1), (90, [10], [], 0), (91, [10], [], 3)], (91, [22], [], 3))
theorem c_307v_27_15 {q0 : Nat} : vOkm T0 (eP e_307v L_307v A_307v mu_307v (some q0)) 4 g_307v_27_15 := vOk_inI fun ρ η f0 f1 f2 f3 f4 f5 f6 f7 f8 f9 f10 f11 f12 f13 f14 f15 f16 f17 f18 f19 f20 f21 f22 f23 f24 f25 f26 f27 f28 f29 f30 f31 f32 f33 f34 f35 f36 f37 => q_307v_24 (q0 := q0) (n0 := ρ 10) (n1 := ρ 9) (n2 := ρ 8) (n3 := ρ 7) (n4 := ρ 6) (n5 := ρ 5) (n6 := ρ 4) (n7 := ρ 3) (n8 := ρ 2) (n9 := ρ 1) (n10 := ρ 0) (n11 := ρ 11) (n12 := ρ 12) (n13 := ρ 13) (n14 := ρ 14) (n15 := ρ 15) (n16 := ρ 16) (n17 := ρ 17) (n18 := ρ 19) (n19 := ρ 22) (H0 := η 0) (H1 := η 1) (H2 := η 2) f37 f36 f35 f34 f33 f32 f31 f30 f29 f28 f27 f26 f25 f24 f23 f22 f21 f20 f19 f18 f17 f16 f15 f14 f13 f12 f11 f10 f9 f8 f7 f6 f5 f4 f3 f2 f1 f0
theorem q_307v_25 {q0 : Nat} {n0 n1 n2 n3 n4 n5 n6 n7 n8 n9 n10 n11 n12 n13 n14 n15 n16 n17 n18 n19 n20 n21 n22 : Int} {H0 H1 H2 H3 H4 H5 : gH} (f0 : n0 ≤ 3) (f1 : 0 ≤ n0) (f2 : n1 ≤ 1) (f3 : (-1) ≤ n1) (f4 : n2 ≤ 24) (f5 : 0 ≤ n2) (f6 : n3 ≤ 2147483647) (f7 : (-2147483648) ≤ n3) (f8 : n4 ≤ 19) (f9 : 0 ≤ n4) (f10 : n5 ≤ 19) (f11 : 0 ≤ n5) (f12 : n6 = 285) (f13 : n7 ≤ 2147483647) (f14 : (-2147483648) ≤ n7) (f15 : n8 ≤ 19) (f16 : 0 ≤ n8) (f17 : n9 ≤ 19) (f18 : 0 ≤ n9) (f19 : n10 = 285) (f20 : (hLe T0 H0 H1 ∧ hFr s_307v.2.2.2.2 H0 H1 ∧ hWt T0 H1) ∧ (Ab_307v_27 n10 n9 n8 n7 n6 n5 n4 n3 n2 n1 n0 H0 H1 ∧ preb_307v n10 n9 n8 n7 H0) ∧ some q0 = some (mub_307v_27 n10 n9 n8 n7 n6 n5 n4 n3 n2 n1 n0 H0 H1)) (f21 : n11 = 3) (f22 : n0 < n11) (f23 : n0 ≠ 0) (f24 : n12 = 1) (f25 : n0 = n12) (f26 : n13 = 9) (f27 : n14 = w32 (n1 * n2)) (f28 : n15 ≤ 2147483647) (f29 : (-2147483648) ≤ n15) (f30 : (hLe T0 H1 H2 ∧ hFr s_306v.2.2.2.2 H1 H2 ∧ ((0 : Int) = 0 → H2.length = H1.length) ∧ hWt T0 H2) ∧ postb_306v n15 n6 n5 n4 n3 n14 n13 H1 H2) (f31 : n16 ≤ 2147483647) (f32 : (-2147483648) ≤ n16) (f33 : n16 = hV H2 (n6).toNat 100) (f34 : n17 = (-1)) (f35 : n16 = n17) (f36 : n18 = 100) (f37 : hUpd H3 H2 n6 n18 n15) (f38 : n19 = w32 (n1 * n2)) (f39 : n20 = 101) (f40 : hUpd H4 H3 n6 n20 n19) (f41 : n21 = 102) (f42 : hUpd H5 H4 n6 n21 n13) (f43 : n22 = w32 (n0 + 1)) : Ab_307v_27 n10 n9 n8 n7 n6 n5 n4 n3 n2 n1 n22 H0 H5 ∧ ∀ q, some q0 = some q → mub_307v_27 n10 n9 n8 n7 n6 n5 n4 n3 n2 n1 n22 H0 H5 < q := by
  have ga := f20.2.1.1
  unfold Ab_307v_27 at ga
  obtain ⟨k0_, k1_, k2_, y0, y1⟩ := ga
  have pz := f20.2.1.2
  unfold preb_307v at pz
  have u27 := f27
  unfold w32 at u27
  have u38 := f38
  unfold w32 at u38
  have u43 := f43
  unfold w32 at u43
  have pm := f30.2
  unfold postb_306v at pm
  have lf := lkR_fr (x := n9) (y := n8) (sl := n7) f20.1.2.1 (by decide +kernel) (by decide +kernel)
  rw [show n5 = n9 from k0_, show n4 = n8 from k1_, show n3 = n7 from k2_, lf] at pm
  have w100 : hV H5 285 100 = n15 := (uSlot f42 285 100 (by rw [f41]; decide)).trans ((uSlot f40 285 100 (by rw [f39]; decide)).trans (uSame f37 285 100 (by rw [f12]; rfl) (by rw [f36]; rfl)))
  have w101 : hV H5 285 101 = n19 := (uSlot f42 285 101 (by rw [f41]; decide)).trans (uSame f40 285 101 (by rw [f12]; rfl) (by rw [f39]; rfl))
  have w102 : hV H5 285 102 = n13 := uSame f42 285 102 (by rw [f12]; rfl) (by rw [f41]; rfl)
  have sg : n14 = sgf n1 n2 := by
    have z := f27
    unfold sgf
    rcases y1 with t | t <;> rw [t] at z ⊢ <;> unfold w32 at z
    · rw [if_pos rfl]
      omega
    · rw [if_neg (by decide)]
      omega
  rw [sg] at pm
  have rm0 := f33
  rw [f12] at rm0
  rw [show ((285 : Int)).toNat = 285 from rfl, show hV H2 285 100 = hV H1 285 100 from f30.1.2.1.1 285 100 kF_306v_285_100] at rm0
  have g5 := Option.some.inj f20.2.2
  unfold mub_307v_27 at g5
  unfold Ab_307v_27 mub_307v_27
  refine ⟨⟨k0_, k1_, k2_, ?_, y1⟩, fun q hq => ?_⟩
  · rw [show (n22).toNat = (n0).toNat + 1 by omega]
    have e3 : n0 = 0 ∨ n0 = 1 ∨ n0 = 2 := by omega
    have tt : ((n0).toNat = 0 ∧ n13 = 10) ∨ ((n0).toNat = 1 ∧ n13 = 9) ∨ ((n0).toNat = 2 ∧ n13 = 11) := by omega
    rw [gk_step tt, ← y0]
    unfold frs
    rw [← pm]
    dsimp only
    rw [w100, w101, w102]
    rw [if_neg (by omega), show n19 = n14 by omega, sg]
  · have g6 := Option.some.inj hq
    subst g6
    omega
def g_307v_27_16 : vG := ([(10, [22, 10], [], 1), (80, [4, 21, 13], [5, 4], 0), (0, [21], [], 102), (80, [4, 20, 19], [4, 3], 0), (0, [20], [], 101), (3, [19, 9, 8], [], 0), (80, [4, 18, 15], [3, 2], 0), (0, [18], [], 100), (40, [16, 17], [], 0), (0, [17], [], -1), (20, [16, 4], [2], 100), (90, [16], [], -2147483648), (91, [16], [], 2147483647), (1306, [15, 4, 5, 6, 7, 14, 13], [1, 2], 0), (90, [15], [], -2147483648), (91, [15], [], 2147483647), (3, [14, 9, 8], [], 0), (0, [13], [], 9), (40, [10, 12], [], 0), (0, [12], [], 1), (31, [10], [], 0), (42, [10, 11], [], 0), (0, [11], [], 3), (5000, [0, 1, 2, 3, 4, 5, 6, 7, 8, 9, 10], [0, 1], 27), (0, [0], [], 285), (90, [1], [], 0), (91, [1], [], 19), (90, [2], [], 0), (91, [2], [], 19), (90, [3], [], -2147483648), (91, [3], [], 2147483647), (0, [4], [], 285), (90, [5], [], 0), (91, [5], [], 19), (90, [6], [], 0), (91, [6], [], 19), (90, [7], [], -2147483648), (91, [7], [], 2147483647), (90, [8], [], 0), (91, [8], [], 24), (90, [9], [], -1), (91, [9], [], 1), (90, [10], [], 0), (91, [10], [], 3)], (4000, [4, 5, 6, 7, 8, 9, 22], [5], 27))
theorem c_307v_27_16 {q0 : Nat} : vOkm T0 (eP e_307v L_307v A_307v mu_307v (some q0)) 4 g_307v_27_16 := vOk_inI fun ρ η f0 f1 f2 f3 f4 f5 f6 f7 f8 f9 f10 f11 f12 f13 f14 f15 f16 f17 f18 f19 f20 f21 f22 f23 f24 f25 f26 f27 f28 f29 f30 f31 f32 f33 f34 f35 f36 f37 f38 f39 f40 f41 f42 f43 => q_307v_25 (q0 := q0) (n0 := ρ 10) (n1 := ρ 9) (n2 := ρ 8) (n3 := ρ 7) (n4 := ρ 6) (n5 := ρ 5) (n6 := ρ 4) (n7 := ρ 3) (n8 := ρ 2) (n9 := ρ 1) (n10 := ρ 0) (n11 := ρ 11) (n12 := ρ 12) (n13 := ρ 13) (n14 := ρ 14) (n15 := ρ 15) (n16 := ρ 16) (n17 := ρ 17) (n18 := ρ 18) (n19 := ρ 19) (n20 := ρ 20) (n21 := ρ 21) (n22 := ρ 22) (H0 := η 0) (H1 := η 1) (H2 := η 2) (H3 := η 3) (H4 := η 4) (H5 := η 5) f43 f42 f41 f40 f39 f38 f37 f36 f35 f34 f33 f32 f31 f30 f29 f28 f27 f26 f25 f24 f23 f22 f21 f20 f19 f18 f17 f16 f15 f14 f13 f12 f11 f10 f9 f8 f7 f6 f5 f4 f3 f2 f1 f0
theorem q_307v_26 {q0 : Nat} {n0 n1 n2 n3 n4 n5 n6 n7 n8 n9 n10 n11 n12 n13 n14 n15 n16 n17 n18 n19 n20 : Int} {H0 H1 H2 : gH} (f0 : n0 ≤ 3) (f1 : 0 ≤ n0) (f2 : n1 ≤ 1) (f3 : (-1) ≤ n1) (f4 : n2 ≤ 24) (f5 : 0 ≤ n2) (f6 : n3 ≤ 2147483647) (f7 : (-2147483648) ≤ n3) (f8 : n4 ≤ 19) (f9 : 0 ≤ n4) (f10 : n5 ≤ 19) (f11 : 0 ≤ n5) (f12 : n6 = 285) (f13 : n7 ≤ 2147483647) (f14 : (-2147483648) ≤ n7) (f15 : n8 ≤ 19) (f16 : 0 ≤ n8) (f17 : n9 ≤ 19) (f18 : 0 ≤ n9) (f19 : n10 = 285) (f20 : (hLe T0 H0 H1 ∧ hFr s_307v.2.2.2.2 H0 H1 ∧ hWt T0 H1) ∧ (Ab_307v_27 n10 n9 n8 n7 n6 n5 n4 n3 n2 n1 n0 H0 H1 ∧ preb_307v n10 n9 n8 n7 H0) ∧ some q0 = some (mub_307v_27 n10 n9 n8 n7 n6 n5 n4 n3 n2 n1 n0 H0 H1)) (f21 : n11 = 3) (f22 : n0 < n11) (f23 : n0 ≠ 0) (f24 : n12 = 1) (f25 : n0 = n12) (f26 : n13 = 9) (f27 : n14 = w32 (n1 * n2)) (f28 : n15 ≤ 2147483647) (f29 : (-2147483648) ≤ n15) (f30 : (hLe T0 H1 H2 ∧ hFr s_306v.2.2.2.2 H1 H2 ∧ ((0 : Int) = 0 → H2.length = H1.length) ∧ hWt T0 H2) ∧ postb_306v n15 n6 n5 n4 n3 n14 n13 H1 H2) (f31 : n16 ≤ 2147483647) (f32 : (-2147483648) ≤ n16) (f33 : n16 = hV H2 (n6).toNat 100) (f34 : n17 = (-1)) (f35 : n16 ≠ n17) (f36 : n18 ≤ 2147483647) (f37 : (-2147483648) ≤ n18) (f38 : n18 = hV H2 (n6).toNat 100) (f39 : n15 < n18) (f40 : n19 = w32 (n1 * n2)) (f41 : n20 = w32 (n0 + 1)) : 0 ≤ n20 := by
  have g4 := f20.2.1.1
  unfold Ab_307v_27 at g4
  have g3 := f20.2.1.2
  unfold preb_307v at g3
  unfold postb_306v at f30
  have e1 : n16 = hV H1 285 100 := (by rw [f12] at f33; exact f33 : n16 = hV H2 285 100).trans ((f30.1.2.1.1 285 100 kF_306v_285_100))
  have e2 : n18 = hV H1 285 100 := (by rw [f12] at f38; exact f38 : n18 = hV H2 285 100).trans ((f30.1.2.1.1 285 100 kF_306v_285_100))
  have k0 := g4.1
  have k1 := g4.2.1
  have k2 := g4.2.2.1
  have y0 := g4.2.2.2.1
  have y1 := g4.2.2.2.2
  have p0 := g3.1
  have p1 := g3.2
  have r0_0 := f30.2
  clear g3
  clear g4
  clear f33 f38
  clear f20 f30
  subst e1
  subst e2
  first
  | (have ix0 : n20 = n0 + 1 := Eq.trans f41 (w32_iv (Iad (Iat f1 f0) (IC 1)) (by decide)); subst ix0; clear f41)
  | (have ix0 : n20 = n0 + 1 := Eq.trans f41 (w32_id (by omega) (by omega)); subst ix0; clear f41)
  | (unfold w32 at f41; have ix0 : n20 = n0 + 1 := (by omega); subst ix0)
  | skip
  try unfold w32 at f27
  try unfold w32 at f40
  try unfold w32 at f41
  try subst k2
  try subst k1
  try subst k0
  omega
def g_307v_27_17 : vG := ([(10, [23, 10], [], 1), (3, [20, 9, 8], [], 0), (42, [15, 18], [], 0), (20, [18, 4], [2], 100), (90, [18], [], -2147483648), (91, [18], [], 2147483647), (41, [16, 17], [], 0), (0, [17], [], -1), (20, [16, 4], [2], 100), (90, [16], [], -2147483648), (91, [16], [], 2147483647), (1306, [15, 4, 5, 6, 7, 14, 13], [1, 2], 0), (90, [15], [], -2147483648), (91, [15], [], 2147483647), (3, [14, 9, 8], [], 0), (0, [13], [], 9), (40, [10, 12], [], 0), (0, [12], [], 1), (31, [10], [], 0), (42, [10, 11], [], 0), (0, [11], [], 3), (5000, [0, 1, 2, 3, 4, 5, 6, 7, 8, 9, 10], [0, 1], 27), (0, [0], [], 285), (90, [1], [], 0), (91, [1], [], 19), (90, [2], [], 0), (91, [2], [], 19), (90, [3], [], -2147483648), (91, [3], [], 2147483647), (0, [4], [], 285), (90, [5], [], 0), (91, [5], [], 19), (90, [6], [], 0), (91, [6], [], 19), (90, [7], [], -2147483648), (91, [7], [], 2147483647), (90, [8], [], 0), (91, [8], [], 24), (90, [9], [], -1), (91, [9], [], 1), (90, [10], [], 0), (91, [10], [], 3)], (90, [23], [], 0))
theorem c_307v_27_17 {q0 : Nat} : vOkm T0 (eP e_307v L_307v A_307v mu_307v (some q0)) 4 g_307v_27_17 := vOk_inI fun ρ η f0 f1 f2 f3 f4 f5 f6 f7 f8 f9 f10 f11 f12 f13 f14 f15 f16 f17 f18 f19 f20 f21 f22 f23 f24 f25 f26 f27 f28 f29 f30 f31 f32 f33 f34 f35 f36 f37 f38 f39 f40 f41 => q_307v_26 (q0 := q0) (n0 := ρ 10) (n1 := ρ 9) (n2 := ρ 8) (n3 := ρ 7) (n4 := ρ 6) (n5 := ρ 5) (n6 := ρ 4) (n7 := ρ 3) (n8 := ρ 2) (n9 := ρ 1) (n10 := ρ 0) (n11 := ρ 11) (n12 := ρ 12) (n13 := ρ 13) (n14 := ρ 14) (n15 := ρ 15) (n16 := ρ 16) (n17 := ρ 17) (n18 := ρ 18) (n19 := ρ 20) (n20 := ρ 23) (H0 := η 0) (H1 := η 1) (H2 := η 2) f41 f40 f39 f38 f37 f36 f35 f34 f33 f32 f31 f30 f29 f28 f27 f26 f25 f24 f23 f22 f21 f20 f19 f18 f17 f16 f15 f14 f13 f12 f11 f10 f9 f8 f7 f6 f5 f4 f3 f2 f1 f0
theorem q_307v_27 {q0 : Nat} {n0 n1 n2 n3 n4 n5 n6 n7 n8 n9 n10 n11 n12 n13 n14 n15 n16 n17 n18 n19 n20 : Int} {H0 H1 H2 : gH} (f0 : n0 ≤ 3) (f1 : 0 ≤ n0) (f2 : n1 ≤ 1) (f3 : (-1) ≤ n1) (f4 : n2 ≤ 24) (f5 : 0 ≤ n2) (f6 : n3 ≤ 2147483647) (f7 : (-2147483648) ≤ n3) (f8 : n4 ≤ 19) (f9 : 0 ≤ n4) (f10 : n5 ≤ 19) (f11 : 0 ≤ n5) (f12 : n6 = 285) (f13 : n7 ≤ 2147483647) (f14 : (-2147483648) ≤ n7) (f15 : n8 ≤ 19) (f16 : 0 ≤ n8) (f17 : n9 ≤ 19) (f18 : 0 ≤ n9) (f19 : n10 = 285) (f20 : (hLe T0 H0 H1 ∧ hFr s_307v.2.2.2.2 H0 H1 ∧ hWt T0 H1) ∧ (Ab_307v_27 n10 n9 n8 n7 n6 n5 n4 n3 n2 n1 n0 H0 H1 ∧ preb_307v n10 n9 n8 n7 H0) ∧ some q0 = some (mub_307v_27 n10 n9 n8 n7 n6 n5 n4 n3 n2 n1 n0 H0 H1)) (f21 : n11 = 3) (f22 : n0 < n11) (f23 : n0 ≠ 0) (f24 : n12 = 1) (f25 : n0 = n12) (f26 : n13 = 9) (f27 : n14 = w32 (n1 * n2)) (f28 : n15 ≤ 2147483647) (f29 : (-2147483648) ≤ n15) (f30 : (hLe T0 H1 H2 ∧ hFr s_306v.2.2.2.2 H1 H2 ∧ ((0 : Int) = 0 → H2.length = H1.length) ∧ hWt T0 H2) ∧ postb_306v n15 n6 n5 n4 n3 n14 n13 H1 H2) (f31 : n16 ≤ 2147483647) (f32 : (-2147483648) ≤ n16) (f33 : n16 = hV H2 (n6).toNat 100) (f34 : n17 = (-1)) (f35 : n16 ≠ n17) (f36 : n18 ≤ 2147483647) (f37 : (-2147483648) ≤ n18) (f38 : n18 = hV H2 (n6).toNat 100) (f39 : n15 < n18) (f40 : n19 = w32 (n1 * n2)) (f41 : n20 = w32 (n0 + 1)) : n20 ≤ 3 := by
  have g4 := f20.2.1.1
  unfold Ab_307v_27 at g4
  have g3 := f20.2.1.2
  unfold preb_307v at g3
  unfold postb_306v at f30
  have e1 : n16 = hV H1 285 100 := (by rw [f12] at f33; exact f33 : n16 = hV H2 285 100).trans ((f30.1.2.1.1 285 100 kF_306v_285_100))
  have e2 : n18 = hV H1 285 100 := (by rw [f12] at f38; exact f38 : n18 = hV H2 285 100).trans ((f30.1.2.1.1 285 100 kF_306v_285_100))
  have k0 := g4.1
  have k1 := g4.2.1
  have k2 := g4.2.2.1
  have y0 := g4.2.2.2.1
  have y1 := g4.2.2.2.2
  have p0 := g3.1
  have p1 := g3.2
  have r0_0 := f30.2
  clear g3
  clear g4
  clear f33 f38
  clear f20 f30
  subst e1
  subst e2
  first
  | (have ix0 : n20 = n0 + 1 := Eq.trans f41 (w32_iv (Iad (Iat f1 f0) (IC 1)) (by decide)); subst ix0; clear f41)
  | (have ix0 : n20 = n0 + 1 := Eq.trans f41 (w32_id (by omega) (by omega)); subst ix0; clear f41)
  | (unfold w32 at f41; have ix0 : n20 = n0 + 1 := (by omega); subst ix0)
  | skip
  try unfold w32 at f27
  try unfold w32 at f40
  try unfold w32 at f41
  try subst k2
  try subst k1
  try subst k0
  omega
def g_307v_27_18 : vG := ([(10, [23, 10], [], 1), (3, [20, 9, 8], [], 0), (42, [15, 18], [], 0), (20, [18, 4], [2], 100), (90, [18], [], -2147483648), (91, [18], [], 2147483647), (41, [16, 17], [], 0), (0, [17], [], -1), (20, [16, 4], [2], 100), (90, [16], [], -2147483648), (91, [16], [], 2147483647), (1306, [15, 4, 5, 6, 7, 14, 13], [1, 2], 0), (90, [15], [], -2147483648), (91, [15], [], 2147483647), (3, [14, 9, 8], [], 0), (0, [13], [], 9), (40, [10, 12], [], 0), (0, [12], [], 1), (31, [10], [], 0), (42, [10, 11], [], 0), (0, [11], [], 3), (5000, [0, 1, 2, 3, 4, 5, 6, 7, 8, 9, 10], [0, 1], 27), (0, [0], [], 285), (90, [1], [], 0), (91, [1], [], 19), (90, [2], [], 0), (91, [2], [], 19), (90, [3], [], -2147483648), (91, [3], [], 2147483647), (0, [4], [], 285), (90, [5], [], 0), (91, [5], [], 19), (90, [6], [], 0), (91, [6], [], 19), (90, [7], [], -2147483648), (91, [7], [], 2147483647), (90, [8], [], 0), (91, [8], [], 24), (90, [9], [], -1), (91, [9], [], 1), (90, [10], [], 0), (91, [10], [], 3)], (91, [23], [], 3))
theorem c_307v_27_18 {q0 : Nat} : vOkm T0 (eP e_307v L_307v A_307v mu_307v (some q0)) 4 g_307v_27_18 := vOk_inI fun ρ η f0 f1 f2 f3 f4 f5 f6 f7 f8 f9 f10 f11 f12 f13 f14 f15 f16 f17 f18 f19 f20 f21 f22 f23 f24 f25 f26 f27 f28 f29 f30 f31 f32 f33 f34 f35 f36 f37 f38 f39 f40 f41 => q_307v_27 (q0 := q0) (n0 := ρ 10) (n1 := ρ 9) (n2 := ρ 8) (n3 := ρ 7) (n4 := ρ 6) (n5 := ρ 5) (n6 := ρ 4) (n7 := ρ 3) (n8 := ρ 2) (n9 := ρ 1) (n10 := ρ 0) (n11 := ρ 11) (n12 := ρ 12) (n13 := ρ 13) (n14 := ρ 14) (n15 := ρ 15) (n16 := ρ 16) (n17 := ρ 17) (n18 := ρ 18) (n19 := ρ 20) (n20 := ρ 23) (H0 := η 0) (H1 := η 1) (H2 := η 2) f41 f40 f39 f38 f37 f36 f35 f34 f33 f32 f31 f30 f29 f28 f27 f26 f25 f24 f23 f22 f21 f20 f19 f18 f17 f16 f15 f14 f13 f12 f11 f10 f9 f8 f7 f6 f5 f4 f3 f2 f1 f0
theorem q_307v_28 {q0 : Nat} {n0 n1 n2 n3 n4 n5 n6 n7 n8 n9 n10 n11 n12 n13 n14 n15 n16 n17 n18 n19 n20 n21 n22 n23 : Int} {H0 H1 H2 H3 H4 H5 : gH} (f0 : n0 ≤ 3) (f1 : 0 ≤ n0) (f2 : n1 ≤ 1) (f3 : (-1) ≤ n1) (f4 : n2 ≤ 24) (f5 : 0 ≤ n2) (f6 : n3 ≤ 2147483647) (f7 : (-2147483648) ≤ n3) (f8 : n4 ≤ 19) (f9 : 0 ≤ n4) (f10 : n5 ≤ 19) (f11 : 0 ≤ n5) (f12 : n6 = 285) (f13 : n7 ≤ 2147483647) (f14 : (-2147483648) ≤ n7) (f15 : n8 ≤ 19) (f16 : 0 ≤ n8) (f17 : n9 ≤ 19) (f18 : 0 ≤ n9) (f19 : n10 = 285) (f20 : (hLe T0 H0 H1 ∧ hFr s_307v.2.2.2.2 H0 H1 ∧ hWt T0 H1) ∧ (Ab_307v_27 n10 n9 n8 n7 n6 n5 n4 n3 n2 n1 n0 H0 H1 ∧ preb_307v n10 n9 n8 n7 H0) ∧ some q0 = some (mub_307v_27 n10 n9 n8 n7 n6 n5 n4 n3 n2 n1 n0 H0 H1)) (f21 : n11 = 3) (f22 : n0 < n11) (f23 : n0 ≠ 0) (f24 : n12 = 1) (f25 : n0 = n12) (f26 : n13 = 9) (f27 : n14 = w32 (n1 * n2)) (f28 : n15 ≤ 2147483647) (f29 : (-2147483648) ≤ n15) (f30 : (hLe T0 H1 H2 ∧ hFr s_306v.2.2.2.2 H1 H2 ∧ ((0 : Int) = 0 → H2.length = H1.length) ∧ hWt T0 H2) ∧ postb_306v n15 n6 n5 n4 n3 n14 n13 H1 H2) (f31 : n16 ≤ 2147483647) (f32 : (-2147483648) ≤ n16) (f33 : n16 = hV H2 (n6).toNat 100) (f34 : n17 = (-1)) (f35 : n16 ≠ n17) (f36 : n18 ≤ 2147483647) (f37 : (-2147483648) ≤ n18) (f38 : n18 = hV H2 (n6).toNat 100) (f39 : n15 < n18) (f40 : n19 = 100) (f41 : hUpd H3 H2 n6 n19 n15) (f42 : n20 = w32 (n1 * n2)) (f43 : n21 = 101) (f44 : hUpd H4 H3 n6 n21 n20) (f45 : n22 = 102) (f46 : hUpd H5 H4 n6 n22 n13) (f47 : n23 = w32 (n0 + 1)) : Ab_307v_27 n10 n9 n8 n7 n6 n5 n4 n3 n2 n1 n23 H0 H5 ∧ ∀ q, some q0 = some q → mub_307v_27 n10 n9 n8 n7 n6 n5 n4 n3 n2 n1 n23 H0 H5 < q := by
  have ga := f20.2.1.1
  unfold Ab_307v_27 at ga
  obtain ⟨k0_, k1_, k2_, y0, y1⟩ := ga
  have pz := f20.2.1.2
  unfold preb_307v at pz
  have u27 := f27
  unfold w32 at u27
  have u42 := f42
  unfold w32 at u42
  have u47 := f47
  unfold w32 at u47
  have pm := f30.2
  unfold postb_306v at pm
  have lf := lkR_fr (x := n9) (y := n8) (sl := n7) f20.1.2.1 (by decide +kernel) (by decide +kernel)
  rw [show n5 = n9 from k0_, show n4 = n8 from k1_, show n3 = n7 from k2_, lf] at pm
  have w100 : hV H5 285 100 = n15 := (uSlot f46 285 100 (by rw [f45]; decide)).trans ((uSlot f44 285 100 (by rw [f43]; decide)).trans (uSame f41 285 100 (by rw [f12]; rfl) (by rw [f40]; rfl)))
  have w101 : hV H5 285 101 = n20 := (uSlot f46 285 101 (by rw [f45]; decide)).trans (uSame f44 285 101 (by rw [f12]; rfl) (by rw [f43]; rfl))
  have w102 : hV H5 285 102 = n13 := uSame f46 285 102 (by rw [f12]; rfl) (by rw [f45]; rfl)
  have sg : n14 = sgf n1 n2 := by
    have z := f27
    unfold sgf
    rcases y1 with t | t <;> rw [t] at z ⊢ <;> unfold w32 at z
    · rw [if_pos rfl]
      omega
    · rw [if_neg (by decide)]
      omega
  rw [sg] at pm
  have rm0 := f33
  rw [f12] at rm0
  rw [show ((285 : Int)).toNat = 285 from rfl, show hV H2 285 100 = hV H1 285 100 from f30.1.2.1.1 285 100 kF_306v_285_100] at rm0
  have rm1 := f38
  rw [f12] at rm1
  rw [show ((285 : Int)).toNat = 285 from rfl, show hV H2 285 100 = hV H1 285 100 from f30.1.2.1.1 285 100 kF_306v_285_100] at rm1
  have g5 := Option.some.inj f20.2.2
  unfold mub_307v_27 at g5
  unfold Ab_307v_27 mub_307v_27
  refine ⟨⟨k0_, k1_, k2_, ?_, y1⟩, fun q hq => ?_⟩
  · rw [show (n23).toNat = (n0).toNat + 1 by omega]
    have e3 : n0 = 0 ∨ n0 = 1 ∨ n0 = 2 := by omega
    have tt : ((n0).toNat = 0 ∧ n13 = 10) ∨ ((n0).toNat = 1 ∧ n13 = 9) ∨ ((n0).toNat = 2 ∧ n13 = 11) := by omega
    rw [gk_step tt, ← y0]
    unfold frs
    rw [← pm]
    dsimp only
    rw [w100, w101, w102]
    rw [if_neg (by omega), show n20 = n14 by omega, sg]
  · have g6 := Option.some.inj hq
    subst g6
    omega
def g_307v_27_19 : vG := ([(10, [23, 10], [], 1), (80, [4, 22, 13], [5, 4], 0), (0, [22], [], 102), (80, [4, 21, 20], [4, 3], 0), (0, [21], [], 101), (3, [20, 9, 8], [], 0), (80, [4, 19, 15], [3, 2], 0), (0, [19], [], 100), (42, [15, 18], [], 0), (20, [18, 4], [2], 100), (90, [18], [], -2147483648), (91, [18], [], 2147483647), (41, [16, 17], [], 0), (0, [17], [], -1), (20, [16, 4], [2], 100), (90, [16], [], -2147483648), (91, [16], [], 2147483647), (1306, [15, 4, 5, 6, 7, 14, 13], [1, 2], 0), (90, [15], [], -2147483648), (91, [15], [], 2147483647), (3, [14, 9, 8], [], 0), (0, [13], [], 9), (40, [10, 12], [], 0), (0, [12], [], 1), (31, [10], [], 0), (42, [10, 11], [], 0), (0, [11], [], 3), (5000, [0, 1, 2, 3, 4, 5, 6, 7, 8, 9, 10], [0, 1], 27), (0, [0], [], 285), (90, [1], [], 0), (91, [1], [], 19), (90, [2], [], 0), (91, [2], [], 19), (90, [3], [], -2147483648), (91, [3], [], 2147483647), (0, [4], [], 285), (90, [5], [], 0), (91, [5], [], 19), (90, [6], [], 0), (91, [6], [], 19), (90, [7], [], -2147483648), (91, [7], [], 2147483647), (90, [8], [], 0), (91, [8], [], 24), (90, [9], [], -1), (91, [9], [], 1), (90, [10], [], 0), (91, [10], [], 3)], (4000, [4, 5, 6, 7, 8, 9, 23], [5], 27))
theorem c_307v_27_19 {q0 : Nat} : vOkm T0 (eP e_307v L_307v A_307v mu_307v (some q0)) 4 g_307v_27_19 := vOk_inI fun ρ η f0 f1 f2 f3 f4 f5 f6 f7 f8 f9 f10 f11 f12 f13 f14 f15 f16 f17 f18 f19 f20 f21 f22 f23 f24 f25 f26 f27 f28 f29 f30 f31 f32 f33 f34 f35 f36 f37 f38 f39 f40 f41 f42 f43 f44 f45 f46 f47 => q_307v_28 (q0 := q0) (n0 := ρ 10) (n1 := ρ 9) (n2 := ρ 8) (n3 := ρ 7) (n4 := ρ 6) (n5 := ρ 5) (n6 := ρ 4) (n7 := ρ 3) (n8 := ρ 2) (n9 := ρ 1) (n10 := ρ 0) (n11 := ρ 11) (n12 := ρ 12) (n13 := ρ 13) (n14 := ρ 14) (n15 := ρ 15) (n16 := ρ 16) (n17 := ρ 17) (n18 := ρ 18) (n19 := ρ 19) (n20 := ρ 20) (n21 := ρ 21) (n22 := ρ 22) (n23 := ρ 23) (H0 := η 0) (H1 := η 1) (H2 := η 2) (H3 := η 3) (H4 := η 4) (H5 := η 5) f47 f46 f45 f44 f43 f42 f41 f40 f39 f38 f37 f36 f35 f34 f33 f32 f31 f30 f29 f28 f27 f26 f25 f24 f23 f22 f21 f20 f19 f18 f17 f16 f15 f14 f13 f12 f11 f10 f9 f8 f7 f6 f5 f4 f3 f2 f1 f0
theorem q_307v_29 {q0 : Nat} {n0 n1 n2 n3 n4 n5 n6 n7 n8 n9 n10 n11 n12 n13 n14 n15 n16 n17 n18 n19 : Int} {H0 H1 H2 : gH} (f0 : n0 ≤ 3) (f1 : 0 ≤ n0) (f2 : n1 ≤ 1) (f3 : (-1) ≤ n1) (f4 : n2 ≤ 24) (f5 : 0 ≤ n2) (f6 : n3 ≤ 2147483647) (f7 : (-2147483648) ≤ n3) (f8 : n4 ≤ 19) (f9 : 0 ≤ n4) (f10 : n5 ≤ 19) (f11 : 0 ≤ n5) (f12 : n6 = 285) (f13 : n7 ≤ 2147483647) (f14 : (-2147483648) ≤ n7) (f15 : n8 ≤ 19) (f16 : 0 ≤ n8) (f17 : n9 ≤ 19) (f18 : 0 ≤ n9) (f19 : n10 = 285) (f20 : (hLe T0 H0 H1 ∧ hFr s_307v.2.2.2.2 H0 H1 ∧ hWt T0 H1) ∧ (Ab_307v_27 n10 n9 n8 n7 n6 n5 n4 n3 n2 n1 n0 H0 H1 ∧ preb_307v n10 n9 n8 n7 H0) ∧ some q0 = some (mub_307v_27 n10 n9 n8 n7 n6 n5 n4 n3 n2 n1 n0 H0 H1)) (f21 : n11 = 3) (f22 : n0 < n11) (f23 : n0 ≠ 0) (f24 : n12 = 1) (f25 : n0 = n12) (f26 : n13 = 9) (f27 : n14 = w32 (n1 * n2)) (f28 : n15 ≤ 2147483647) (f29 : (-2147483648) ≤ n15) (f30 : (hLe T0 H1 H2 ∧ hFr s_306v.2.2.2.2 H1 H2 ∧ ((0 : Int) = 0 → H2.length = H1.length) ∧ hWt T0 H2) ∧ postb_306v n15 n6 n5 n4 n3 n14 n13 H1 H2) (f31 : n16 ≤ 2147483647) (f32 : (-2147483648) ≤ n16) (f33 : n16 = hV H2 (n6).toNat 100) (f34 : n17 = (-1)) (f35 : n16 ≠ n17) (f36 : n18 ≤ 2147483647) (f37 : (-2147483648) ≤ n18) (f38 : n18 = hV H2 (n6).toNat 100) (f39 : n18 ≤ n15) (f40 : n19 = w32 (n0 + 1)) : 0 ≤ n19 := by
  have g4 := f20.2.1.1
  unfold Ab_307v_27 at g4
  have g3 := f20.2.1.2
  unfold preb_307v at g3
  unfold postb_306v at f30
  have e1 : n16 = hV H1 285 100 := (by rw [f12] at f33; exact f33 : n16 = hV H2 285 100).trans ((f30.1.2.1.1 285 100 kF_306v_285_100))
  have e2 : n18 = hV H1 285 100 := (by rw [f12] at f38; exact f38 : n18 = hV H2 285 100).trans ((f30.1.2.1.1 285 100 kF_306v_285_100))
  have k0 := g4.1
  have k1 := g4.2.1
  have k2 := g4.2.2.1
  have y0 := g4.2.2.2.1
  have y1 := g4.2.2.2.2
  have p0 := g3.1
  have p1 := g3.2
  have r0_0 := f30.2
  clear g3
  clear g4
  clear f33 f38
  clear f20 f30
  subst e1
  subst e2
  first
  | (have ix0 : n19 = n0 + 1 := Eq.trans f40 (w32_iv (Iad (Iat f1 f0) (IC 1)) (by decide)); subst ix0; clear f40)
  | (have ix0 : n19 = n0 + 1 := Eq.trans f40 (w32_id (by omega) (by omega)); subst ix0; clear f40)
  | (unfold w32 at f40; have ix0 : n19 = n0 + 1 := (by omega); subst ix0)
  | skip
  try unfold w32 at f27
  try unfold w32 at f40
  try subst k2
  try subst k1
  try subst k0
  omega
def g_307v_27_20 : vG := ([(10, [19, 10], [], 1), (43, [15, 18], [], 0), (20, [18, 4], [2], 100), (90, [18], [], -2147483648), (91, [18], [], 2147483647), (41, [16, 17], [], 0), (0, [17], [], -1), (20, [16, 4], [2], 100), (90, [16], [], -2147483648), (91, [16], [], 2147483647), (1306, [15, 4, 5, 6, 7, 14, 13], [1, 2], 0), (90, [15], [], -2147483648), (91, [15], [], 2147483647), (3, [14, 9, 8], [], 0), (0, [13], [], 9), (40, [10, 12], [], 0), (0, [12], [], 1), (31, [10], [], 0), (42, [10, 11], [], 0), (0, [11], [], 3), (5000, [0, 1, 2, 3, 4, 5, 6, 7, 8, 9, 10], [0, 1], 27), (0, [0], [], 285), (90, [1], [], 0), (91, [1], [], 19), (90, [2], [], 0), (91, [2], [], 19), (90, [3], [], -2147483648), (91, [3], [], 2147483647), (0, [4], [], 285), (90, [5], [], 0), (91, [5], [], 19), (90, [6], [], 0), (91, [6], [], 19), (90, [7], [], -2147483648), (91, [7], [], 2147483647), (90, [8], [], 0), (91, [8], [], 24), (90, [9], [], -1), (91, [9], [], 1), (90, [10], [], 0), (91, [10], [], 3)], (90, [19], [], 0))
theorem c_307v_27_20 {q0 : Nat} : vOkm T0 (eP e_307v L_307v A_307v mu_307v (some q0)) 4 g_307v_27_20 := vOk_inI fun ρ η f0 f1 f2 f3 f4 f5 f6 f7 f8 f9 f10 f11 f12 f13 f14 f15 f16 f17 f18 f19 f20 f21 f22 f23 f24 f25 f26 f27 f28 f29 f30 f31 f32 f33 f34 f35 f36 f37 f38 f39 f40 => q_307v_29 (q0 := q0) (n0 := ρ 10) (n1 := ρ 9) (n2 := ρ 8) (n3 := ρ 7) (n4 := ρ 6) (n5 := ρ 5) (n6 := ρ 4) (n7 := ρ 3) (n8 := ρ 2) (n9 := ρ 1) (n10 := ρ 0) (n11 := ρ 11) (n12 := ρ 12) (n13 := ρ 13) (n14 := ρ 14) (n15 := ρ 15) (n16 := ρ 16) (n17 := ρ 17) (n18 := ρ 18) (n19 := ρ 19) (H0 := η 0) (H1 := η 1) (H2 := η 2) f40 f39 f38 f37 f36 f35 f34 f33 f32 f31 f30 f29 f28 f27 f26 f25 f24 f23 f22 f21 f20 f19 f18 f17 f16 f15 f14 f13 f12 f11 f10 f9 f8 f7 f6 f5 f4 f3 f2 f1 f0
theorem q_307v_30 {q0 : Nat} {n0 n1 n2 n3 n4 n5 n6 n7 n8 n9 n10 n11 n12 n13 n14 n15 n16 n17 n18 n19 : Int} {H0 H1 H2 : gH} (f0 : n0 ≤ 3) (f1 : 0 ≤ n0) (f2 : n1 ≤ 1) (f3 : (-1) ≤ n1) (f4 : n2 ≤ 24) (f5 : 0 ≤ n2) (f6 : n3 ≤ 2147483647) (f7 : (-2147483648) ≤ n3) (f8 : n4 ≤ 19) (f9 : 0 ≤ n4) (f10 : n5 ≤ 19) (f11 : 0 ≤ n5) (f12 : n6 = 285) (f13 : n7 ≤ 2147483647) (f14 : (-2147483648) ≤ n7) (f15 : n8 ≤ 19) (f16 : 0 ≤ n8) (f17 : n9 ≤ 19) (f18 : 0 ≤ n9) (f19 : n10 = 285) (f20 : (hLe T0 H0 H1 ∧ hFr s_307v.2.2.2.2 H0 H1 ∧ hWt T0 H1) ∧ (Ab_307v_27 n10 n9 n8 n7 n6 n5 n4 n3 n2 n1 n0 H0 H1 ∧ preb_307v n10 n9 n8 n7 H0) ∧ some q0 = some (mub_307v_27 n10 n9 n8 n7 n6 n5 n4 n3 n2 n1 n0 H0 H1)) (f21 : n11 = 3) (f22 : n0 < n11) (f23 : n0 ≠ 0) (f24 : n12 = 1) (f25 : n0 = n12) (f26 : n13 = 9) (f27 : n14 = w32 (n1 * n2)) (f28 : n15 ≤ 2147483647) (f29 : (-2147483648) ≤ n15) (f30 : (hLe T0 H1 H2 ∧ hFr s_306v.2.2.2.2 H1 H2 ∧ ((0 : Int) = 0 → H2.length = H1.length) ∧ hWt T0 H2) ∧ postb_306v n15 n6 n5 n4 n3 n14 n13 H1 H2) (f31 : n16 ≤ 2147483647) (f32 : (-2147483648) ≤ n16) (f33 : n16 = hV H2 (n6).toNat 100) (f34 : n17 = (-1)) (f35 : n16 ≠ n17) (f36 : n18 ≤ 2147483647) (f37 : (-2147483648) ≤ n18) (f38 : n18 = hV H2 (n6).toNat 100) (f39 : n18 ≤ n15) (f40 : n19 = w32 (n0 + 1)) : n19 ≤ 3 := by
  have g4 := f20.2.1.1
  unfold Ab_307v_27 at g4
  have g3 := f20.2.1.2
  unfold preb_307v at g3
  unfold postb_306v at f30
  have e1 : n16 = hV H1 285 100 := (by rw [f12] at f33; exact f33 : n16 = hV H2 285 100).trans ((f30.1.2.1.1 285 100 kF_306v_285_100))
  have e2 : n18 = hV H1 285 100 := (by rw [f12] at f38; exact f38 : n18 = hV H2 285 100).trans ((f30.1.2.1.1 285 100 kF_306v_285_100))
  have k0 := g4.1
  have k1 := g4.2.1
  have k2 := g4.2.2.1
  have y0 := g4.2.2.2.1
  have y1 := g4.2.2.2.2
  have p0 := g3.1
  have p1 := g3.2
  have r0_0 := f30.2
  clear g3
  clear g4
  clear f33 f38
  clear f20 f30
  subst e1
  subst e2
  first
  | (have ix0 : n19 = n0 + 1 := Eq.trans f40 (w32_iv (Iad (Iat f1 f0) (IC 1)) (by decide)); subst ix0; clear f40)
  | (have ix0 : n19 = n0 + 1 := Eq.trans f40 (w32_id (by omega) (by omega)); subst ix0; clear f40)
  | (unfold w32 at f40; have ix0 : n19 = n0 + 1 := (by omega); subst ix0)
  | skip
  try unfold w32 at f27
  try unfold w32 at f40
  try subst k2
  try subst k1
  try subst k0
  omega
def g_307v_27_21 : vG := ([(10, [19, 10], [], 1), (43, [15, 18], [], 0), (20, [18, 4], [2], 100), (90, [18], [], -2147483648), (91, [18], [], 2147483647), (41, [16, 17], [], 0), (0, [17], [], -1), (20, [16, 4], [2], 100), (90, [16], [], -2147483648), (91, [16], [], 2147483647), (1306, [15, 4, 5, 6, 7, 14, 13], [1, 2], 0), (90, [15], [], -2147483648), (91, [15], [], 2147483647), (3, [14, 9, 8], [], 0), (0, [13], [], 9), (40, [10, 12], [], 0), (0, [12], [], 1), (31, [10], [], 0), (42, [10, 11], [], 0), (0, [11], [], 3), (5000, [0, 1, 2, 3, 4, 5, 6, 7, 8, 9, 10], [0, 1], 27), (0, [0], [], 285), (90, [1], [], 0), (91, [1], [], 19), (90, [2], [], 0), (91, [2], [], 19), (90, [3], [], -2147483648), (91, [3], [], 2147483647), (0, [4], [], 285), (90, [5], [], 0), (91, [5], [], 19), (90, [6], [], 0), (91, [6], [], 19), (90, [7], [], -2147483648), (91, [7], [], 2147483647), (90, [8], [], 0), (91, [8], [], 24), (90, [9], [], -1), (91, [9], [], 1), (90, [10], [], 0), (91, [10], [], 3)], (91, [19], [], 3))
theorem c_307v_27_21 {q0 : Nat} : vOkm T0 (eP e_307v L_307v A_307v mu_307v (some q0)) 4 g_307v_27_21 := vOk_inI fun ρ η f0 f1 f2 f3 f4 f5 f6 f7 f8 f9 f10 f11 f12 f13 f14 f15 f16 f17 f18 f19 f20 f21 f22 f23 f24 f25 f26 f27 f28 f29 f30 f31 f32 f33 f34 f35 f36 f37 f38 f39 f40 => q_307v_30 (q0 := q0) (n0 := ρ 10) (n1 := ρ 9) (n2 := ρ 8) (n3 := ρ 7) (n4 := ρ 6) (n5 := ρ 5) (n6 := ρ 4) (n7 := ρ 3) (n8 := ρ 2) (n9 := ρ 1) (n10 := ρ 0) (n11 := ρ 11) (n12 := ρ 12) (n13 := ρ 13) (n14 := ρ 14) (n15 := ρ 15) (n16 := ρ 16) (n17 := ρ 17) (n18 := ρ 18) (n19 := ρ 19) (H0 := η 0) (H1 := η 1) (H2 := η 2) f40 f39 f38 f37 f36 f35 f34 f33 f32 f31 f30 f29 f28 f27 f26 f25 f24 f23 f22 f21 f20 f19 f18 f17 f16 f15 f14 f13 f12 f11 f10 f9 f8 f7 f6 f5 f4 f3 f2 f1 f0
theorem q_307v_31 {q0 : Nat} {n0 n1 n2 n3 n4 n5 n6 n7 n8 n9 n10 n11 n12 n13 n14 n15 n16 n17 n18 n19 : Int} {H0 H1 H2 : gH} (f0 : n0 ≤ 3) (f1 : 0 ≤ n0) (f2 : n1 ≤ 1) (f3 : (-1) ≤ n1) (f4 : n2 ≤ 24) (f5 : 0 ≤ n2) (f6 : n3 ≤ 2147483647) (f7 : (-2147483648) ≤ n3) (f8 : n4 ≤ 19) (f9 : 0 ≤ n4) (f10 : n5 ≤ 19) (f11 : 0 ≤ n5) (f12 : n6 = 285) (f13 : n7 ≤ 2147483647) (f14 : (-2147483648) ≤ n7) (f15 : n8 ≤ 19) (f16 : 0 ≤ n8) (f17 : n9 ≤ 19) (f18 : 0 ≤ n9) (f19 : n10 = 285) (f20 : (hLe T0 H0 H1 ∧ hFr s_307v.2.2.2.2 H0 H1 ∧ hWt T0 H1) ∧ (Ab_307v_27 n10 n9 n8 n7 n6 n5 n4 n3 n2 n1 n0 H0 H1 ∧ preb_307v n10 n9 n8 n7 H0) ∧ some q0 = some (mub_307v_27 n10 n9 n8 n7 n6 n5 n4 n3 n2 n1 n0 H0 H1)) (f21 : n11 = 3) (f22 : n0 < n11) (f23 : n0 ≠ 0) (f24 : n12 = 1) (f25 : n0 = n12) (f26 : n13 = 9) (f27 : n14 = w32 (n1 * n2)) (f28 : n15 ≤ 2147483647) (f29 : (-2147483648) ≤ n15) (f30 : (hLe T0 H1 H2 ∧ hFr s_306v.2.2.2.2 H1 H2 ∧ ((0 : Int) = 0 → H2.length = H1.length) ∧ hWt T0 H2) ∧ postb_306v n15 n6 n5 n4 n3 n14 n13 H1 H2) (f31 : n16 ≤ 2147483647) (f32 : (-2147483648) ≤ n16) (f33 : n16 = hV H2 (n6).toNat 100) (f34 : n17 = (-1)) (f35 : n16 ≠ n17) (f36 : n18 ≤ 2147483647) (f37 : (-2147483648) ≤ n18) (f38 : n18 = hV H2 (n6).toNat 100) (f39 : n18 ≤ n15) (f40 : n19 = w32 (n0 + 1)) : Ab_307v_27 n10 n9 n8 n7 n6 n5 n4 n3 n2 n1 n19 H0 H2 ∧ ∀ q, some q0 = some q → mub_307v_27 n10 n9 n8 n7 n6 n5 n4 n3 n2 n1 n19 H0 H2 < q := by
  have ga := f20.2.1.1
  unfold Ab_307v_27 at ga
  obtain ⟨k0_, k1_, k2_, y0, y1⟩ := ga
  have pz := f20.2.1.2
  unfold preb_307v at pz
  have u27 := f27
  unfold w32 at u27
  have u40 := f40
  unfold w32 at u40
  have pm := f30.2
  unfold postb_306v at pm
  have lf := lkR_fr (x := n9) (y := n8) (sl := n7) f20.1.2.1 (by decide +kernel) (by decide +kernel)
  rw [show n5 = n9 from k0_, show n4 = n8 from k1_, show n3 = n7 from k2_, lf] at pm
  have w100 : hV H2 285 100 = hV H1 285 100 := f30.1.2.1.1 285 100 kF_306v_285_100
  have w101 : hV H2 285 101 = hV H1 285 101 := f30.1.2.1.1 285 101 kF_306v_285_101
  have w102 : hV H2 285 102 = hV H1 285 102 := f30.1.2.1.1 285 102 kF_306v_285_102
  have sg : n14 = sgf n1 n2 := by
    have z := f27
    unfold sgf
    rcases y1 with t | t <;> rw [t] at z ⊢ <;> unfold w32 at z
    · rw [if_pos rfl]
      omega
    · rw [if_neg (by decide)]
      omega
  rw [sg] at pm
  have rm0 := f33
  rw [f12] at rm0
  rw [show ((285 : Int)).toNat = 285 from rfl, show hV H2 285 100 = hV H1 285 100 from f30.1.2.1.1 285 100 kF_306v_285_100] at rm0
  have rm1 := f38
  rw [f12] at rm1
  rw [show ((285 : Int)).toNat = 285 from rfl, show hV H2 285 100 = hV H1 285 100 from f30.1.2.1.1 285 100 kF_306v_285_100] at rm1
  have g5 := Option.some.inj f20.2.2
  unfold mub_307v_27 at g5
  unfold Ab_307v_27 mub_307v_27
  refine ⟨⟨k0_, k1_, k2_, ?_, y1⟩, fun q hq => ?_⟩
  · rw [show (n19).toNat = (n0).toNat + 1 by omega]
    have e3 : n0 = 0 ∨ n0 = 1 ∨ n0 = 2 := by omega
    have tt : ((n0).toNat = 0 ∧ n13 = 10) ∨ ((n0).toNat = 1 ∧ n13 = 9) ∨ ((n0).toNat = 2 ∧ n13 = 11) := by omega
    rw [gk_step tt, ← y0]
    unfold frs
    rw [← pm]
    dsimp only
    rw [w100, w101, w102]
    rw [if_pos (by omega)]
  · have g6 := Option.some.inj hq
    subst g6
    omega
def g_307v_27_22 : vG := ([(10, [19, 10], [], 1), (43, [15, 18], [], 0), (20, [18, 4], [2], 100), (90, [18], [], -2147483648), (91, [18], [], 2147483647), (41, [16, 17], [], 0), (0, [17], [], -1), (20, [16, 4], [2], 100), (90, [16], [], -2147483648), (91, [16], [], 2147483647), (1306, [15, 4, 5, 6, 7, 14, 13], [1, 2], 0), (90, [15], [], -2147483648), (91, [15], [], 2147483647), (3, [14, 9, 8], [], 0), (0, [13], [], 9), (40, [10, 12], [], 0), (0, [12], [], 1), (31, [10], [], 0), (42, [10, 11], [], 0), (0, [11], [], 3), (5000, [0, 1, 2, 3, 4, 5, 6, 7, 8, 9, 10], [0, 1], 27), (0, [0], [], 285), (90, [1], [], 0), (91, [1], [], 19), (90, [2], [], 0), (91, [2], [], 19), (90, [3], [], -2147483648), (91, [3], [], 2147483647), (0, [4], [], 285), (90, [5], [], 0), (91, [5], [], 19), (90, [6], [], 0), (91, [6], [], 19), (90, [7], [], -2147483648), (91, [7], [], 2147483647), (90, [8], [], 0), (91, [8], [], 24), (90, [9], [], -1), (91, [9], [], 1), (90, [10], [], 0), (91, [10], [], 3)], (4000, [4, 5, 6, 7, 8, 9, 19], [2], 27))
theorem c_307v_27_22 {q0 : Nat} : vOkm T0 (eP e_307v L_307v A_307v mu_307v (some q0)) 4 g_307v_27_22 := vOk_inI fun ρ η f0 f1 f2 f3 f4 f5 f6 f7 f8 f9 f10 f11 f12 f13 f14 f15 f16 f17 f18 f19 f20 f21 f22 f23 f24 f25 f26 f27 f28 f29 f30 f31 f32 f33 f34 f35 f36 f37 f38 f39 f40 => q_307v_31 (q0 := q0) (n0 := ρ 10) (n1 := ρ 9) (n2 := ρ 8) (n3 := ρ 7) (n4 := ρ 6) (n5 := ρ 5) (n6 := ρ 4) (n7 := ρ 3) (n8 := ρ 2) (n9 := ρ 1) (n10 := ρ 0) (n11 := ρ 11) (n12 := ρ 12) (n13 := ρ 13) (n14 := ρ 14) (n15 := ρ 15) (n16 := ρ 16) (n17 := ρ 17) (n18 := ρ 18) (n19 := ρ 19) (H0 := η 0) (H1 := η 1) (H2 := η 2) f40 f39 f38 f37 f36 f35 f34 f33 f32 f31 f30 f29 f28 f27 f26 f25 f24 f23 f22 f21 f20 f19 f18 f17 f16 f15 f14 f13 f12 f11 f10 f9 f8 f7 f6 f5 f4 f3 f2 f1 f0
theorem q_307v_32 {q0 : Nat} {n0 n1 n2 n3 n4 n5 n6 n7 n8 n9 n10 n11 n12 n13 : Int} {H0 H1 : gH} (f0 : n0 ≤ 3) (f1 : 0 ≤ n0) (f2 : n1 ≤ 1) (f3 : (-1) ≤ n1) (f4 : n2 ≤ 24) (f5 : 0 ≤ n2) (f6 : n3 ≤ 2147483647) (f7 : (-2147483648) ≤ n3) (f8 : n4 ≤ 19) (f9 : 0 ≤ n4) (f10 : n5 ≤ 19) (f11 : 0 ≤ n5) (f12 : n6 = 285) (f13 : n7 ≤ 2147483647) (f14 : (-2147483648) ≤ n7) (f15 : n8 ≤ 19) (f16 : 0 ≤ n8) (f17 : n9 ≤ 19) (f18 : 0 ≤ n9) (f19 : n10 = 285) (f20 : (hLe T0 H0 H1 ∧ hFr s_307v.2.2.2.2 H0 H1 ∧ hWt T0 H1) ∧ (Ab_307v_27 n10 n9 n8 n7 n6 n5 n4 n3 n2 n1 n0 H0 H1 ∧ preb_307v n10 n9 n8 n7 H0) ∧ some q0 = some (mub_307v_27 n10 n9 n8 n7 n6 n5 n4 n3 n2 n1 n0 H0 H1)) (f21 : n11 = 3) (f22 : n0 < n11) (f23 : n0 = 0) (f24 : n12 = 10) (f25 : n13 = w32 (n1 * n2)) : preb_306v n6 n5 n4 n3 n13 n12 H1 := by
  have ga := f20.2.1.1
  unfold Ab_307v_27 at ga
  obtain ⟨k0_, k1_, k2_, y0, y1⟩ := ga
  have pz := f20.2.1.2
  unfold preb_307v at pz
  have u25 := f25
  unfold w32 at u25
  unfold preb_306v
  rcases y1 with t | t <;> subst t <;> omega
def g_307v_27_23 : vG := ([(3, [13, 9, 8], [], 0), (0, [12], [], 10), (30, [10], [], 0), (42, [10, 11], [], 0), (0, [11], [], 3), (5000, [0, 1, 2, 3, 4, 5, 6, 7, 8, 9, 10], [0, 1], 27), (0, [0], [], 285), (90, [1], [], 0), (91, [1], [], 19), (90, [2], [], 0), (91, [2], [], 19), (90, [3], [], -2147483648), (91, [3], [], 2147483647), (0, [4], [], 285), (90, [5], [], 0), (91, [5], [], 19), (90, [6], [], 0), (91, [6], [], 19), (90, [7], [], -2147483648), (91, [7], [], 2147483647), (90, [8], [], 0), (91, [8], [], 24), (90, [9], [], -1), (91, [9], [], 1), (90, [10], [], 0), (91, [10], [], 3)], (2306, [4, 5, 6, 7, 13, 12], [1], 0))
theorem c_307v_27_23 {q0 : Nat} : vOkm T0 (eP e_307v L_307v A_307v mu_307v (some q0)) 4 g_307v_27_23 := vOk_inI fun ρ η f0 f1 f2 f3 f4 f5 f6 f7 f8 f9 f10 f11 f12 f13 f14 f15 f16 f17 f18 f19 f20 f21 f22 f23 f24 f25 => q_307v_32 (q0 := q0) (n0 := ρ 10) (n1 := ρ 9) (n2 := ρ 8) (n3 := ρ 7) (n4 := ρ 6) (n5 := ρ 5) (n6 := ρ 4) (n7 := ρ 3) (n8 := ρ 2) (n9 := ρ 1) (n10 := ρ 0) (n11 := ρ 11) (n12 := ρ 12) (n13 := ρ 13) (H0 := η 0) (H1 := η 1) f25 f24 f23 f22 f21 f20 f19 f18 f17 f16 f15 f14 f13 f12 f11 f10 f9 f8 f7 f6 f5 f4 f3 f2 f1 f0
theorem q_307v_33 {q0 : Nat} {n0 n1 n2 n3 n4 n5 n6 n7 n8 n9 n10 n11 n12 n13 n14 n15 n16 n17 n18 : Int} {H0 H1 H2 : gH} (f0 : n0 ≤ 3) (f1 : 0 ≤ n0) (f2 : n1 ≤ 1) (f3 : (-1) ≤ n1) (f4 : n2 ≤ 24) (f5 : 0 ≤ n2) (f6 : n3 ≤ 2147483647) (f7 : (-2147483648) ≤ n3) (f8 : n4 ≤ 19) (f9 : 0 ≤ n4) (f10 : n5 ≤ 19) (f11 : 0 ≤ n5) (f12 : n6 = 285) (f13 : n7 ≤ 2147483647) (f14 : (-2147483648) ≤ n7) (f15 : n8 ≤ 19) (f16 : 0 ≤ n8) (f17 : n9 ≤ 19) (f18 : 0 ≤ n9) (f19 : n10 = 285) (f20 : (hLe T0 H0 H1 ∧ hFr s_307v.2.2.2.2 H0 H1 ∧ hWt T0 H1) ∧ (Ab_307v_27 n10 n9 n8 n7 n6 n5 n4 n3 n2 n1 n0 H0 H1 ∧ preb_307v n10 n9 n8 n7 H0) ∧ some q0 = some (mub_307v_27 n10 n9 n8 n7 n6 n5 n4 n3 n2 n1 n0 H0 H1)) (f21 : n11 = 3) (f22 : n0 < n11) (f23 : n0 = 0) (f24 : n12 = 10) (f25 : n13 = w32 (n1 * n2)) (f26 : n14 ≤ 2147483647) (f27 : (-2147483648) ≤ n14) (f28 : (hLe T0 H1 H2 ∧ hFr s_306v.2.2.2.2 H1 H2 ∧ ((0 : Int) = 0 → H2.length = H1.length) ∧ hWt T0 H2) ∧ postb_306v n14 n6 n5 n4 n3 n13 n12 H1 H2) (f29 : n15 ≤ 2147483647) (f30 : (-2147483648) ≤ n15) (f31 : n15 = hV H2 (n6).toNat 100) (f32 : n16 = (-1)) (f33 : n15 = n16) (f34 : n17 = w32 (n1 * n2)) (f35 : n18 = w32 (n0 + 1)) : 0 ≤ n18 := by
  have g4 := f20.2.1.1
  unfold Ab_307v_27 at g4
  have g3 := f20.2.1.2
  unfold preb_307v at g3
  unfold postb_306v at f28
  have e1 : n15 = hV H1 285 100 := (by rw [f12] at f31; exact f31 : n15 = hV H2 285 100).trans ((f28.1.2.1.1 285 100 kF_306v_285_100))
  have k0 := g4.1
  have k1 := g4.2.1
  have k2 := g4.2.2.1
  have y0 := g4.2.2.2.1
  have y1 := g4.2.2.2.2
  have p0 := g3.1
  have p1 := g3.2
  have r0_0 := f28.2
  clear g3
  clear g4
  clear f31
  clear f20 f28
  subst e1
  first
  | (have ix0 : n18 = n0 + 1 := Eq.trans f35 (w32_iv (Iad (Iat f1 f0) (IC 1)) (by decide)); subst ix0; clear f35)
  | (have ix0 : n18 = n0 + 1 := Eq.trans f35 (w32_id (by omega) (by omega)); subst ix0; clear f35)
  | (unfold w32 at f35; have ix0 : n18 = n0 + 1 := (by omega); subst ix0)
  | skip
  try unfold w32 at f25
  try unfold w32 at f34
  try unfold w32 at f35
  try subst k2
  try subst k1
  try subst k0
  omega
def g_307v_27_24 : vG := ([(10, [21, 10], [], 1), (3, [18, 9, 8], [], 0), (40, [15, 16], [], 0), (0, [16], [], -1), (20, [15, 4], [2], 100), (90, [15], [], -2147483648), (91, [15], [], 2147483647), (1306, [14, 4, 5, 6, 7, 13, 12], [1, 2], 0), (90, [14], [], -2147483648), (91, [14], [], 2147483647), (3, [13, 9, 8], [], 0), (0, [12], [], 10), (30, [10], [], 0), (42, [10, 11], [], 0), (0, [11], [], 3), (5000, [0, 1, 2, 3, 4, 5, 6, 7, 8, 9, 10], [0, 1], 27), (0, [0], [], 285), (90, [1], [], 0), (91, [1], [], 19), (90, [2], [], 0), (91, [2], [], 19), (90, [3], [], -2147483648), (91, [3], [], 2147483647), (0, [4], [], 285), (90, [5], [], 0), (91, [5], [], 19), (90, [6], [], 0), (91, [6], [], 19), (90, [7], [], -2147483648), (91, [7], [], 2147483647), (90, [8], [], 0), (91, [8], [], 24), (90, [9], [], -1), (91, [9], [], 1), (90, [10], [], 0), (91, [10], [], 3)], (90, [21], [], 0))
theorem c_307v_27_24 {q0 : Nat} : vOkm T0 (eP e_307v L_307v A_307v mu_307v (some q0)) 4 g_307v_27_24 := vOk_inI fun ρ η f0 f1 f2 f3 f4 f5 f6 f7 f8 f9 f10 f11 f12 f13 f14 f15 f16 f17 f18 f19 f20 f21 f22 f23 f24 f25 f26 f27 f28 f29 f30 f31 f32 f33 f34 f35 => q_307v_33 (q0 := q0) (n0 := ρ 10) (n1 := ρ 9) (n2 := ρ 8) (n3 := ρ 7) (n4 := ρ 6) (n5 := ρ 5) (n6 := ρ 4) (n7 := ρ 3) (n8 := ρ 2) (n9 := ρ 1) (n10 := ρ 0) (n11 := ρ 11) (n12 := ρ 12) (n13 := ρ 13) (n14 := ρ 14) (n15 := ρ 15) (n16 := ρ 16) (n17 := ρ 18) (n18 := ρ 21) (H0 := η 0) (H1 := η 1) (H2 := η 2) f35 f34 f33 f32 f31 f30 f29 f28 f27 f26 f25 f24 f23 f22 f21 f20 f19 f18 f17 f16 f15 f14 f13 f12 f11 f10 f9 f8 f7 f6 f5 f4 f3 f2 f1 f0
theorem q_307v_34 {q0 : Nat} {n0 n1 n2 n3 n4 n5 n6 n7 n8 n9 n10 n11 n12 n13 n14 n15 n16 n17 n18 : Int} {H0 H1 H2 : gH} (f0 : n0 ≤ 3) (f1 : 0 ≤ n0) (f2 : n1 ≤ 1) (f3 : (-1) ≤ n1) (f4 : n2 ≤ 24) (f5 : 0 ≤ n2) (f6 : n3 ≤ 2147483647) (f7 : (-2147483648) ≤ n3) (f8 : n4 ≤ 19) (f9 : 0 ≤ n4) (f10 : n5 ≤ 19) (f11 : 0 ≤ n5) (f12 : n6 = 285) (f13 : n7 ≤ 2147483647) (f14 : (-2147483648) ≤ n7) (f15 : n8 ≤ 19) (f16 : 0 ≤ n8) (f17 : n9 ≤ 19) (f18 : 0 ≤ n9) (f19 : n10 = 285) (f20 : (hLe T0 H0 H1 ∧ hFr s_307v.2.2.2.2 H0 H1 ∧ hWt T0 H1) ∧ (Ab_307v_27 n10 n9 n8 n7 n6 n5 n4 n3 n2 n1 n0 H0 H1 ∧ preb_307v n10 n9 n8 n7 H0) ∧ some q0 = some (mub_307v_27 n10 n9 n8 n7 n6 n5 n4 n3 n2 n1 n0 H0 H1)) (f21 : n11 = 3) (f22 : n0 < n11) (f23 : n0 = 0) (f24 : n12 = 10) (f25 : n13 = w32 (n1 * n2)) (f26 : n14 ≤ 2147483647) (f27 : (-2147483648) ≤ n14) (f28 : (hLe T0 H1 H2 ∧ hFr s_306v.2.2.2.2 H1 H2 ∧ ((0 : Int) = 0 → H2.length = H1.length) ∧ hWt T0 H2) ∧ postb_306v n14 n6 n5 n4 n3 n13 n12 H1 H2) (f29 : n15 ≤ 2147483647) (f30 : (-2147483648) ≤ n15) (f31 : n15 = hV H2 (n6).toNat 100) (f32 : n16 = (-1)) (f33 : n15 = n16) (f34 : n17 = w32 (n1 * n2)) (f35 : n18 = w32 (n0 + 1)) : n18 ≤ 3 := by
  have g4 := f20.2.1.1
  unfold Ab_307v_27 at g4
  have g3 := f20.2.1.2
  unfold preb_307v at g3
  unfold postb_306v at f28
  have e1 : n15 = hV H1 285 100 := (by rw [f12] at f31; exact f31 : n15 = hV H2 285 100).trans ((f28.1.2.1.1 285 100 kF_306v_285_100))
  have k0 := g4.1
  have k1 := g4.2.1
  have k2 := g4.2.2.1
  have y0 := g4.2.2.2.1
  have y1 := g4.2.2.2.2
  have p0 := g3.1
  have p1 := g3.2
  have r0_0 := f28.2
  clear g3
  clear g4
  clear f31
  clear f20 f28
  subst e1
  first
  | (have ix0 : n18 = n0 + 1 := Eq.trans f35 (w32_iv (Iad (Iat f1 f0) (IC 1)) (by decide)); subst ix0; clear f35)
  | (have ix0 : n18 = n0 + 1 := Eq.trans f35 (w32_id (by omega) (by omega)); subst ix0; clear f35)
  | (unfold w32 at f35; have ix0 : n18 = n0 + 1 := (by omega); subst ix0)
  | skip
  try unfold w32 at f25
  try unfold w32 at f34
  try unfold w32 at f35
  try subst k2
  try subst k1
  try subst k0
  omega
def g_307v_27_25 : vG := ([(10, [21, 10], [], 1), (3, [18, 9, 8], [], 0), (40, [15, 16], [], 0), (0, [16], [], -1), (20, [15, 4], [2], 100), (90, [15], [], -2147483648), (91, [15], [], 2147483647), (1306, [14, 4, 5, 6, 7, 13, 12], [1, 2], 0), (90, [14], [], -2147483648), (91, [14], [], 2147483647), (3, [13, 9, 8], [], 0), (0, [12], [], 10), (30, [10], [], 0), (42, [10, 11], [], 0), (0, [11], [], 3), (5000, [0, 1, 2, 3, 4, 5, 6, 7, 8, 9, 10], [0, 1], 27), (0, [0], [], 285), (90, [1], [], 0), (91, [1], [], 19), (90, [2], [], 0), (91, [2], [], 19), (90, [3], [], -2147483648), (91, [3], [], 2147483647), (0, [4], [], 285), (90, [5], [], 0), (91, [5], [], 19), (90, [6], [], 0), (91, [6], [], 19), (90, [7], [], -2147483648), (91, [7], [], 2147483647), (90, [8], [], 0), (91, [8], [], 24), (90, [9], [], -1), (91, [9], [], 1), (90, [10], [], 0), (91, [10], [], 3)], (91, [21], [], 3))
theorem c_307v_27_25 {q0 : Nat} : vOkm T0 (eP e_307v L_307v A_307v mu_307v (some q0)) 4 g_307v_27_25 := vOk_inI fun ρ η f0 f1 f2 f3 f4 f5 f6 f7 f8 f9 f10 f11 f12 f13 f14 f15 f16 f17 f18 f19 f20 f21 f22 f23 f24 f25 f26 f27 f28 f29 f30 f31 f32 f33 f34 f35 => q_307v_34 (q0 := q0) (n0 := ρ 10) (n1 := ρ 9) (n2 := ρ 8) (n3 := ρ 7) (n4 := ρ 6) (n5 := ρ 5) (n6 := ρ 4) (n7 := ρ 3) (n8 := ρ 2) (n9 := ρ 1) (n10 := ρ 0) (n11 := ρ 11) (n12 := ρ 12) (n13 := ρ 13) (n14 := ρ 14) (n15 := ρ 15) (n16 := ρ 16) (n17 := ρ 18) (n18 := ρ 21) (H0 := η 0) (H1 := η 1) (H2 := η 2) f35 f34 f33 f32 f31 f30 f29 f28 f27 f26 f25 f24 f23 f22 f21 f20 f19 f18 f17 f16 f15 f14 f13 f12 f11 f10 f9 f8 f7 f6 f5 f4 f3 f2 f1 f0
theorem q_307v_35 {q0 : Nat} {n0 n1 n2 n3 n4 n5 n6 n7 n8 n9 n10 n11 n12 n13 n14 n15 n16 n17 n18 n19 n20 n21 : Int} {H0 H1 H2 H3 H4 H5 : gH} (f0 : n0 ≤ 3) (f1 : 0 ≤ n0) (f2 : n1 ≤ 1) (f3 : (-1) ≤ n1) (f4 : n2 ≤ 24) (f5 : 0 ≤ n2) (f6 : n3 ≤ 2147483647) (f7 : (-2147483648) ≤ n3) (f8 : n4 ≤ 19) (f9 : 0 ≤ n4) (f10 : n5 ≤ 19) (f11 : 0 ≤ n5) (f12 : n6 = 285) (f13 : n7 ≤ 2147483647) (f14 : (-2147483648) ≤ n7) (f15 : n8 ≤ 19) (f16 : 0 ≤ n8) (f17 : n9 ≤ 19) (f18 : 0 ≤ n9) (f19 : n10 = 285) (f20 : (hLe T0 H0 H1 ∧ hFr s_307v.2.2.2.2 H0 H1 ∧ hWt T0 H1) ∧ (Ab_307v_27 n10 n9 n8 n7 n6 n5 n4 n3 n2 n1 n0 H0 H1 ∧ preb_307v n10 n9 n8 n7 H0) ∧ some q0 = some (mub_307v_27 n10 n9 n8 n7 n6 n5 n4 n3 n2 n1 n0 H0 H1)) (f21 : n11 = 3) (f22 : n0 < n11) (f23 : n0 = 0) (f24 : n12 = 10) (f25 : n13 = w32 (n1 * n2)) (f26 : n14 ≤ 2147483647) (f27 : (-2147483648) ≤ n14) (f28 : (hLe T0 H1 H2 ∧ hFr s_306v.2.2.2.2 H1 H2 ∧ ((0 : Int) = 0 → H2.length = H1.length) ∧ hWt T0 H2) ∧ postb_306v n14 n6 n5 n4 n3 n13 n12 H1 H2) (f29 : n15 ≤ 2147483647) (f30 : (-2147483648) ≤ n15) (f31 : n15 = hV H2 (n6).toNat 100) (f32 : n16 = (-1)) (f33 : n15 = n16) (f34 : n17 = 100) (f35 : hUpd H3 H2 n6 n17 n14) (f36 : n18 = w32 (n1 * n2)) (f37 : n19 = 101) (f38 : hUpd H4 H3 n6 n19 n18) (f39 : n20 = 102) (f40 : hUpd H5 H4 n6 n20 n12) (f41 : n21 = w32 (n0 + 1)) : Ab_307v_27 n10 n9 n8 n7 n6 n5 n4 n3 n2 n1 n21 H0 H5 ∧ ∀ q, some q0 = some q → mub_307v_27 n10 n9 n8 n7 n6 n5 n4 n3 n2 n1 n21 H0 H5 < q := by
  have ga := f20.2.1.1
  unfold Ab_307v_27 at ga
  obtain ⟨k0_, k1_, k2_, y0, y1⟩ := ga
  have pz := f20.2.1.2
  unfold preb_307v at pz
  have u25 := f25
  unfold w32 at u25
  have u36 := f36
  unfold w32 at u36
  have u41 := f41
  unfold w32 at u41
  have pm := f28.2
  unfold postb_306v at pm
  have lf := lkR_fr (x := n9) (y := n8) (sl := n7) f20.1.2.1 (by decide +kernel) (by decide +kernel)
  rw [show n5 = n9 from k0_, show n4 = n8 from k1_, show n3 = n7 from k2_, lf] at pm
  have w100 : hV H5 285 100 = n14 := (uSlot f40 285 100 (by rw [f39]; decide)).trans ((uSlot f38 285 100 (by rw [f37]; decide)).trans (uSame f35 285 100 (by rw [f12]; rfl) (by rw [f34]; rfl)))
  have w101 : hV H5 285 101 = n18 := (uSlot f40 285 101 (by rw [f39]; decide)).trans (uSame f38 285 101 (by rw [f12]; rfl) (by rw [f37]; rfl))
  have w102 : hV H5 285 102 = n12 := uSame f40 285 102 (by rw [f12]; rfl) (by rw [f39]; rfl)
  have sg : n13 = sgf n1 n2 := by
    have z := f25
    unfold sgf
    rcases y1 with t | t <;> rw [t] at z ⊢ <;> unfold w32 at z
    · rw [if_pos rfl]
      omega
    · rw [if_neg (by decide)]
      omega
  rw [sg] at pm
  have rm0 := f31
  rw [f12] at rm0
  rw [show ((285 : Int)).toNat = 285 from rfl, show hV H2 285 100 = hV H1 285 100 from f28.1.2.1.1 285 100 kF_306v_285_100] at rm0
  have g5 := Option.some.inj f20.2.2
  unfold mub_307v_27 at g5
  unfold Ab_307v_27 mub_307v_27
  refine ⟨⟨k0_, k1_, k2_, ?_, y1⟩, fun q hq => ?_⟩
  · rw [show (n21).toNat = (n0).toNat + 1 by omega]
    have e3 : n0 = 0 ∨ n0 = 1 ∨ n0 = 2 := by omega
    have tt : ((n0).toNat = 0 ∧ n12 = 10) ∨ ((n0).toNat = 1 ∧ n12 = 9) ∨ ((n0).toNat = 2 ∧ n12 = 11) := by omega
    rw [gk_step tt, ← y0]
    unfold frs
    rw [← pm]
    dsimp only
    rw [w100, w101, w102]
    rw [if_neg (by omega), show n18 = n13 by omega, sg]
  · have g6 := Option.some.inj hq
    subst g6
    omega
def g_307v_27_26 : vG := ([(10, [21, 10], [], 1), (80, [4, 20, 12], [5, 4], 0), (0, [20], [], 102), (80, [4, 19, 18], [4, 3], 0), (0, [19], [], 101), (3, [18, 9, 8], [], 0), (80, [4, 17, 14], [3, 2], 0), (0, [17], [], 100), (40, [15, 16], [], 0), (0, [16], [], -1), (20, [15, 4], [2], 100), (90, [15], [], -2147483648), (91, [15], [], 2147483647), (1306, [14, 4, 5, 6, 7, 13, 12], [1, 2], 0), (90, [14], [], -2147483648), (91, [14], [], 2147483647), (3, [13, 9, 8], [], 0), (0, [12], [], 10), (30, [10], [], 0), (42, [10, 11], [], 0), (0, [11], [], 3), (5000, [0, 1, 2, 3, 4, 5, 6, 7, 8, 9, 10], [0, 1], 27), (0, [0], [], 285), (90, [1], [], 0), (91, [1], [], 19), (90, [2], [], 0), (91, [2], [], 19), (90, [3], [], -2147483648), (91, [3], [], 2147483647), (0, [4], [], 285), (90, [5], [], 0), (91, [5], [], 19), (90, [6], [], 0), (91, [6], [], 19), (90, [7], [], -2147483648), (91, [7], [], 2147483647), (90, [8], [], 0), (91, [8], [], 24), (90, [9], [], -1), (91, [9], [], 1), (90, [10], [], 0), (91, [10], [], 3)], (4000, [4, 5, 6, 7, 8, 9, 21], [5], 27))
theorem c_307v_27_26 {q0 : Nat} : vOkm T0 (eP e_307v L_307v A_307v mu_307v (some q0)) 4 g_307v_27_26 := vOk_inI fun ρ η f0 f1 f2 f3 f4 f5 f6 f7 f8 f9 f10 f11 f12 f13 f14 f15 f16 f17 f18 f19 f20 f21 f22 f23 f24 f25 f26 f27 f28 f29 f30 f31 f32 f33 f34 f35 f36 f37 f38 f39 f40 f41 => q_307v_35 (q0 := q0) (n0 := ρ 10) (n1 := ρ 9) (n2 := ρ 8) (n3 := ρ 7) (n4 := ρ 6) (n5 := ρ 5) (n6 := ρ 4) (n7 := ρ 3) (n8 := ρ 2) (n9 := ρ 1) (n10 := ρ 0) (n11 := ρ 11) (n12 := ρ 12) (n13 := ρ 13) (n14 := ρ 14) (n15 := ρ 15) (n16 := ρ 16) (n17 := ρ 17) (n18 := ρ 18) (n19 := ρ 19) (n20 := ρ 20) (n21 := ρ 21) (H0 := η 0) (H1 := η 1) (H2 := η 2) (H3 := η 3) (H4 := η 4) (H5 := η 5) f41 f40 f39 f38 f37 f36 f35 f34 f33 f32 f31 f30 f29 f28 f27 f26 f25 f24 f23 f22 f21 f20 f19 f18 f17 f16 f15 f14 f13 f12 f11 f10 f9 f8 f7 f6 f5 f4 f3 f2 f1 f0
theorem q_307v_36 {q0 : Nat} {n0 n1 n2 n3 n4 n5 n6 n7 n8 n9 n10 n11 n12 n13 n14 n15 n16 n17 n18 n19 : Int} {H0 H1 H2 : gH} (f0 : n0 ≤ 3) (f1 : 0 ≤ n0) (f2 : n1 ≤ 1) (f3 : (-1) ≤ n1) (f4 : n2 ≤ 24) (f5 : 0 ≤ n2) (f6 : n3 ≤ 2147483647) (f7 : (-2147483648) ≤ n3) (f8 : n4 ≤ 19) (f9 : 0 ≤ n4) (f10 : n5 ≤ 19) (f11 : 0 ≤ n5) (f12 : n6 = 285) (f13 : n7 ≤ 2147483647) (f14 : (-2147483648) ≤ n7) (f15 : n8 ≤ 19) (f16 : 0 ≤ n8) (f17 : n9 ≤ 19) (f18 : 0 ≤ n9) (f19 : n10 = 285) (f20 : (hLe T0 H0 H1 ∧ hFr s_307v.2.2.2.2 H0 H1 ∧ hWt T0 H1) ∧ (Ab_307v_27 n10 n9 n8 n7 n6 n5 n4 n3 n2 n1 n0 H0 H1 ∧ preb_307v n10 n9 n8 n7 H0) ∧ some q0 = some (mub_307v_27 n10 n9 n8 n7 n6 n5 n4 n3 n2 n1 n0 H0 H1)) (f21 : n11 = 3) (f22 : n0 < n11) (f23 : n0 = 0) (f24 : n12 = 10) (f25 : n13 = w32 (n1 * n2)) (f26 : n14 ≤ 2147483647) (f27 : (-2147483648) ≤ n14) (f28 : (hLe T0 H1 H2 ∧ hFr s_306v.2.2.2.2 H1 H2 ∧ ((0 : Int) = 0 → H2.length = H1.length) ∧ hWt T0 H2) ∧ postb_306v n14 n6 n5 n4 n3 n13 n12 H1 H2) (f29 : n15 ≤ 2147483647) (f30 : (-2147483648) ≤ n15) (f31 : n15 = hV H2 (n6).toNat 100) (f32 : n16 = (-1)) (f33 : n15 ≠ n16) (f34 : n17 ≤ 2147483647) (f35 : (-2147483648) ≤ n17) (f36 : n17 = hV H2 (n6).toNat 100) (f37 : n14 < n17) (f38 : n18 = w32 (n1 * n2)) (f39 : n19 = w32 (n0 + 1)) : 0 ≤ n19 := by
  have g4 := f20.2.1.1
  unfold Ab_307v_27 at g4
  have g3 := f20.2.1.2
  unfold preb_307v at g3
  unfold postb_306v at f28
  have e1 : n15 = hV H1 285 100 := (by rw [f12] at f31; exact f31 : n15 = hV H2 285 100).trans ((f28.1.2.1.1 285 100 kF_306v_285_100))
  have e2 : n17 = hV H1 285 100 := (by rw [f12] at f36; exact f36 : n17 = hV H2 285 100).trans ((f28.1.2.1.1 285 100 kF_306v_285_100))
  have k0 := g4.1
  have k1 := g4.2.1
  have k2 := g4.2.2.1
  have y0 := g4.2.2.2.1
  have y1 := g4.2.2.2.2
  have p0 := g3.1
  have p1 := g3.2
  have r0_0 := f28.2
  clear g3
  clear g4
  clear f31 f36
  clear f20 f28
  subst e1
  subst e2
  first
  | (have ix0 : n19 = n0 + 1 := Eq.trans f39 (w32_iv (Iad (Iat f1 f0) (IC 1)) (by decide)); subst ix0; clear f39)
  | (have ix0 : n19 = n0 + 1 := Eq.trans f39 (w32_id (by omega) (by omega)); subst ix0; clear f39)
  | (unfold w32 at f39; have ix0 : n19 = n0 + 1 := (by omega); subst ix0)
  | skip
  try unfold w32 at f25
  try unfold w32 at f38
  try unfold w32 at f39
  try subst k2
  try subst k1
  try subst k0
  omega
def g_307v_27_27 : vG := ([(10, [22, 10], [], 1), (3, [19, 9, 8], [], 0), (42, [14, 17], [], 0), (20, [17, 4], [2], 100), (90, [17], [], -2147483648), (91, [17], [], 2147483647), (41, [15, 16], [], 0), (0, [16], [], -1), (20, [15, 4], [2], 100), (90, [15], [], -2147483648), (91, [15], [], 2147483647), (1306, [14, 4, 5, 6, 7, 13, 12], [1, 2], 0), (90, [14], [], -2147483648), (91, [14], [], 2147483647), (3, [13, 9, 8], [], 0), (0, [12], [], 10), (30, [10], [], 0), (42, [10, 11], [], 0), (0, [11], [], 3), (5000, [0, 1, 2, 3, 4, 5, 6, 7, 8, 9, 10], [0, 1], 27), (0, [0], [], 285), (90, [1], [], 0), (91, [1], [], 19), (90, [2], [], 0), (91, [2], [], 19), (90, [3], [], -2147483648), (91, [3], [], 2147483647), (0, [4], [], 285), (90, [5], [], 0), (91, [5], [], 19), (90, [6], [], 0), (91, [6], [], 19), (90, [7], [], -2147483648), (91, [7], [], 2147483647), (90, [8], [], 0), (91, [8], [], 24), (90, [9], [], -1), (91, [9], [], 1), (90, [10], [], 0), (91, [10], [], 3)], (90, [22], [], 0))
theorem c_307v_27_27 {q0 : Nat} : vOkm T0 (eP e_307v L_307v A_307v mu_307v (some q0)) 4 g_307v_27_27 := vOk_inI fun ρ η f0 f1 f2 f3 f4 f5 f6 f7 f8 f9 f10 f11 f12 f13 f14 f15 f16 f17 f18 f19 f20 f21 f22 f23 f24 f25 f26 f27 f28 f29 f30 f31 f32 f33 f34 f35 f36 f37 f38 f39 => q_307v_36 (q0 := q0) (n0 := ρ 10) (n1 := ρ 9) (n2 := ρ 8) (n3 := ρ 7) (n4 := ρ 6) (n5 := ρ 5) (n6 := ρ 4) (n7 := ρ 3) (n8 := ρ 2) (n9 := ρ 1) (n10 := ρ 0) (n11 := ρ 11) (n12 := ρ 12) (n13 := ρ 13) (n14 := ρ 14) (n15 := ρ 15) (n16 := ρ 16) (n17 := ρ 17) (n18 := ρ 19) (n19 := ρ 22) (H0 := η 0) (H1 := η 1) (H2 := η 2) f39 f38 f37 f36 f35 f34 f33 f32 f31 f30 f29 f28 f27 f26 f25 f24 f23 f22 f21 f20 f19 f18 f17 f16 f15 f14 f13 f12 f11 f10 f9 f8 f7 f6 f5 f4 f3 f2 f1 f0
theorem q_307v_37 {q0 : Nat} {n0 n1 n2 n3 n4 n5 n6 n7 n8 n9 n10 n11 n12 n13 n14 n15 n16 n17 n18 n19 : Int} {H0 H1 H2 : gH} (f0 : n0 ≤ 3) (f1 : 0 ≤ n0) (f2 : n1 ≤ 1) (f3 : (-1) ≤ n1) (f4 : n2 ≤ 24) (f5 : 0 ≤ n2) (f6 : n3 ≤ 2147483647) (f7 : (-2147483648) ≤ n3) (f8 : n4 ≤ 19) (f9 : 0 ≤ n4) (f10 : n5 ≤ 19) (f11 : 0 ≤ n5) (f12 : n6 = 285) (f13 : n7 ≤ 2147483647) (f14 : (-2147483648) ≤ n7) (f15 : n8 ≤ 19) (f16 : 0 ≤ n8) (f17 : n9 ≤ 19) (f18 : 0 ≤ n9) (f19 : n10 = 285) (f20 : (hLe T0 H0 H1 ∧ hFr s_307v.2.2.2.2 H0 H1 ∧ hWt T0 H1) ∧ (Ab_307v_27 n10 n9 n8 n7 n6 n5 n4 n3 n2 n1 n0 H0 H1 ∧ preb_307v n10 n9 n8 n7 H0) ∧ some q0 = some (mub_307v_27 n10 n9 n8 n7 n6 n5 n4 n3 n2 n1 n0 H0 H1)) (f21 : n11 = 3) (f22 : n0 < n11) (f23 : n0 = 0) (f24 : n12 = 10) (f25 : n13 = w32 (n1 * n2)) (f26 : n14 ≤ 2147483647) (f27 : (-2147483648) ≤ n14) (f28 : (hLe T0 H1 H2 ∧ hFr s_306v.2.2.2.2 H1 H2 ∧ ((0 : Int) = 0 → H2.length = H1.length) ∧ hWt T0 H2) ∧ postb_306v n14 n6 n5 n4 n3 n13 n12 H1 H2) (f29 : n15 ≤ 2147483647) (f30 : (-2147483648) ≤ n15) (f31 : n15 = hV H2 (n6).toNat 100) (f32 : n16 = (-1)) (f33 : n15 ≠ n16) (f34 : n17 ≤ 2147483647) (f35 : (-2147483648) ≤ n17) (f36 : n17 = hV H2 (n6).toNat 100) (f37 : n14 < n17) (f38 : n18 = w32 (n1 * n2)) (f39 : n19 = w32 (n0 + 1)) : n19 ≤ 3 := by
  have g4 := f20.2.1.1
  unfold Ab_307v_27 at g4
  have g3 := f20.2.1.2
  unfold preb_307v at g3
  unfold postb_306v at f28
  have e1 : n15 = hV H1 285 100 := (by rw [f12] at f31; exact f31 : n15 = hV H2 285 100).trans ((f28.1.2.1.1 285 100 kF_306v_285_100))
  have e2 : n17 = hV H1 285 100 := (by rw [f12] at f36; exact f36 : n17 = hV H2 285 100).trans ((f28.1.2.1.1 285 100 kF_306v_285_100))
  have k0 := g4.1
  have k1 := g4.2.1
  have k2 := g4.2.2.1
  have y0 := g4.2.2.2.1
  have y1 := g4.2.2.2.2
  have p0 := g3.1
  have p1 := g3.2
  have r0_0 := f28.2
  clear g3
  clear g4
  clear f31 f36
  clear f20 f28
  subst e1
  subst e2
  first
  | (have ix0 : n19 = n0 + 1 := Eq.trans f39 (w32_iv (Iad (Iat f1 f0) (IC 1)) (by decide)); subst ix0; clear f39)
  | (have ix0 : n19 = n0 + 1 := Eq.trans f39 (w32_id (by omega) (by omega)); subst ix0; clear f39)
  | (unfold w32 at f39; have ix0 : n19 = n0 + 1 := (by omega); subst ix0)
  | skip
  try unfold w32 at f25
  try unfold w32 at f38
  try unfold w32 at f39
  try subst k2
  try subst k1
  try subst k0
  omega
def g_307v_27_28 : vG := ([(10, [22, 10], [], 1), (3, [19, 9, 8], [], 0), (42, [14, 17], [], 0), (20, [17, 4], [2], 100), (90, [17], [], -2147483648), (91, [17], [], 2147483647), (41, [15, 16], [], 0), (0, [16], [], -1), (20, [15, 4], [2], 100), (90, [15], [], -2147483648), (91, [15], [], 2147483647), (1306, [14, 4, 5, 6, 7, 13, 12], [1, 2], 0), (90, [14], [], -2147483648), (91, [14], [], 2147483647), (3, [13, 9, 8], [], 0), (0, [12], [], 10), (30, [10], [], 0), (42, [10, 11], [], 0), (0, [11], [], 3), (5000, [0, 1, 2, 3, 4, 5, 6, 7, 8, 9, 10], [0, 1], 27), (0, [0], [], 285), (90, [1], [], 0), (91, [1], [], 19), (90, [2], [], 0), (91, [2], [], 19), (90, [3], [], -2147483648), (91, [3], [], 2147483647), (0, [4], [], 285), (90, [5], [], 0), (91, [5], [], 19), (90, [6], [], 0), (91, [6], [], 19), (90, [7], [], -2147483648), (91, [7], [], 2147483647), (90, [8], [], 0), (91, [8], [], 24), (90, [9], [], -1), (91, [9], [], 1), (90, [10], [], 0), (91, [10], [], 3)], (91, [22], [], 3))
theorem c_307v_27_28 {q0 : Nat} : vOkm T0 (eP e_307v L_307v A_307v mu_307v (some q0)) 4 g_307v_27_28 := vOk_inI fun ρ η f0 f1 f2 f3 f4 f5 f6 f7 f8 f9 f10 f11 f12 f13 f14 f15 f16 f17 f18 f19 f20 f21 f22 f23 f24 f25 f26 f27 f28 f29 f30 f31 f32 f33 f34 f35 f36 f37 f38 f39 => q_307v_37 (q0 := q0) (n0 := ρ 10) (n1 := ρ 9) (n2 := ρ 8) (n3 := ρ 7) (n4 := ρ 6) (n5 := ρ 5) (n6 := ρ 4) (n7 := ρ 3) (n8 := ρ 2) (n9 := ρ 1) (n10 := ρ 0) (n11 := ρ 11) (n12 := ρ 12) (n13 := ρ 13) (n14 := ρ 14) (n15 := ρ 15) (n16 := ρ 16) (n17 := ρ 17) (n18 := ρ 19) (n19 := ρ 22) (H0 := η 0) (H1 := η 1) (H2 := η 2) f39 f38 f37 f36 f35 f34 f33 f32 f31 f30 f29 f28 f27 f26 f25 f24 f23 f22 f21 f20 f19 f18 f17 f16 f15 f14 f13 f12 f11 f10 f9 f8 f7 f6 f5 f4 f3 f2 f1 f0
theorem q_307v_38 {q0 : Nat} {n0 n1 n2 n3 n4 n5 n6 n7 n8 n9 n10 n11 n12 n13 n14 n15 n16 n17 n18 n19 n20 n21 n22 : Int} {H0 H1 H2 H3 H4 H5 : gH} (f0 : n0 ≤ 3) (f1 : 0 ≤ n0) (f2 : n1 ≤ 1) (f3 : (-1) ≤ n1) (f4 : n2 ≤ 24) (f5 : 0 ≤ n2) (f6 : n3 ≤ 2147483647) (f7 : (-2147483648) ≤ n3) (f8 : n4 ≤ 19) (f9 : 0 ≤ n4) (f10 : n5 ≤ 19) (f11 : 0 ≤ n5) (f12 : n6 = 285) (f13 : n7 ≤ 2147483647) (f14 : (-2147483648) ≤ n7) (f15 : n8 ≤ 19) (f16 : 0 ≤ n8) (f17 : n9 ≤ 19) (f18 : 0 ≤ n9) (f19 : n10 = 285) (f20 : (hLe T0 H0 H1 ∧ hFr s_307v.2.2.2.2 H0 H1 ∧ hWt T0 H1) ∧ (Ab_307v_27 n10 n9 n8 n7 n6 n5 n4 n3 n2 n1 n0 H0 H1 ∧ preb_307v n10 n9 n8 n7 H0) ∧ some q0 = some (mub_307v_27 n10 n9 n8 n7 n6 n5 n4 n3 n2 n1 n0 H0 H1)) (f21 : n11 = 3) (f22 : n0 < n11) (f23 : n0 = 0) (f24 : n12 = 10) (f25 : n13 = w32 (n1 * n2)) (f26 : n14 ≤ 2147483647) (f27 : (-2147483648) ≤ n14) (f28 : (hLe T0 H1 H2 ∧ hFr s_306v.2.2.2.2 H1 H2 ∧ ((0 : Int) = 0 → H2.length = H1.length) ∧ hWt T0 H2) ∧ postb_306v n14 n6 n5 n4 n3 n13 n12 H1 H2) (f29 : n15 ≤ 2147483647) (f30 : (-2147483648) ≤ n15) (f31 : n15 = hV H2 (n6).toNat 100) (f32 : n16 = (-1)) (f33 : n15 ≠ n16) (f34 : n17 ≤ 2147483647) (f35 : (-2147483648) ≤ n17) (f36 : n17 = hV H2 (n6).toNat 100) (f37 : n14 < n17) (f38 : n18 = 100) (f39 : hUpd H3 H2 n6 n18 n14) (f40 : n19 = w32 (n1 * n2)) (f41 : n20 = 101) (f42 : hUpd H4 H3 n6 n20 n19) (f43 : n21 = 102) (f44 : hUpd H5 H4 n6 n21 n12) (f45 : n22 = w32 (n0 + 1)) : Ab_307v_27 n10 n9 n8 n7 n6 n5 n4 n3 n2 n1 n22 H0 H5 ∧ ∀ q, some q0 = some q → mub_307v_27 n10 n9 n8 n7 n6 n5 n4 n3 n2 n1 n22 H0 H5 < q := by
  have ga := f20.2.1.1
  unfold Ab_307v_27 at ga
  obtain ⟨k0_, k1_, k2_, y0, y1⟩ := ga
  have pz := f20.2.1.2
  unfold preb_307v at pz
  have u25 := f25
  unfold w32 at u25
  have u40 := f40
  unfold w32 at u40
  have u45 := f45
  unfold w32 at u45
  have pm := f28.2
  unfold postb_306v at pm
  have lf := lkR_fr (x := n9) (y := n8) (sl := n7) f20.1.2.1 (by decide +kernel) (by decide +kernel)
  rw [show n5 = n9 from k0_, show n4 = n8 from k1_, show n3 = n7 from k2_, lf] at pm
  have w100 : hV H5 285 100 = n14 := (uSlot f44 285 100 (by rw [f43]; decide)).trans ((uSlot f42 285 100 (by rw [f41]; decide)).trans (uSame f39 285 100 (by rw [f12]; rfl) (by rw [f38]; rfl)))
  have w101 : hV H5 285 101 = n19 := (uSlot f44 285 101 (by rw [f43]; decide)).trans (uSame f42 285 101 (by rw [f12]; rfl) (by rw [f41]; rfl))
  have w102 : hV H5 285 102 = n12 := uSame f44 285 102 (by rw [f12]; rfl) (by rw [f43]; rfl)
  have sg : n13 = sgf n1 n2 := by
    have z := f25
    unfold sgf
    rcases y1 with t | t <;> rw [t] at z ⊢ <;> unfold w32 at z
    · rw [if_pos rfl]
      omega
    · rw [if_neg (by decide)]
      omega
  rw [sg] at pm
  have rm0 := f31
  rw [f12] at rm0
  rw [show ((285 : Int)).toNat = 285 from rfl, show hV H2 285 100 = hV H1 285 100 from f28.1.2.1.1 285 100 kF_306v_285_100] at rm0
  have rm1 := f36
  rw [f12] at rm1
  rw [show ((285 : Int)).toNat = 285 from rfl, show hV H2 285 100 = hV H1 285 100 from f28.1.2.1.1 285 100 kF_306v_285_100] at rm1
  have g5 := Option.some.inj f20.2.2
  unfold mub_307v_27 at g5
  unfold Ab_307v_27 mub_307v_27
  refine ⟨⟨k0_, k1_, k2_, ?_, y1⟩, fun q hq => ?_⟩
  · rw [show (n22).toNat = (n0).toNat + 1 by omega]
    have e3 : n0 = 0 ∨ n0 = 1 ∨ n0 = 2 := by omega
    have tt : ((n0).toNat = 0 ∧ n12 = 10) ∨ ((n0).toNat = 1 ∧ n12 = 9) ∨ ((n0).toNat = 2 ∧ n12 = 11) := by omega
    rw [gk_step tt, ← y0]
    unfold frs
    rw [← pm]
    dsimp only
    rw [w100, w101, w102]
    rw [if_neg (by omega), show n19 = n13 by omega, sg]
  · have g6 := Option.some.inj hq
    subst g6
    omega
def g_307v_27_29 : vG := ([(10, [22, 10], [], 1), (80, [4, 21, 12], [5, 4], 0), (0, [21], [], 102), (80, [4, 20, 19], [4, 3], 0), (0, [20], [], 101), (3, [19, 9, 8], [], 0), (80, [4, 18, 14], [3, 2], 0), (0, [18], [], 100), (42, [14, 17], [], 0), (20, [17, 4], [2], 100), (90, [17], [], -2147483648), (91, [17], [], 2147483647), (41, [15, 16], [], 0), (0, [16], [], -1), (20, [15, 4], [2], 100), (90, [15], [], -2147483648), (91, [15], [], 2147483647), (1306, [14, 4, 5, 6, 7, 13, 12], [1, 2], 0), (90, [14], [], -2147483648), (91, [14], [], 2147483647), (3, [13, 9, 8], [], 0), (0, [12], [], 10), (30, [10], [], 0), (42, [10, 11], [], 0), (0, [11], [], 3), (5000, [0, 1, 2, 3, 4, 5, 6, 7, 8, 9, 10], [0, 1], 27), (0, [0], [], 285), (90, [1], [], 0), (91, [1], [], 19), (90, [2], [], 0), (91, [2], [], 19), (90, [3], [], -2147483648), (91, [3], [], 2147483647), (0, [4], [], 285), (90, [5], [], 0), (91, [5], [], 19), (90, [6], [], 0), (91, [6], [], 19), (90, [7], [], -2147483648), (91, [7], [], 2147483647), (90, [8], [], 0), (91, [8], [], 24), (90, [9], [], -1), (91, [9], [], 1), (90, [10], [], 0), (91, [10], [], 3)], (4000, [4, 5, 6, 7, 8, 9, 22], [5], 27))
theorem c_307v_27_29 {q0 : Nat} : vOkm T0 (eP e_307v L_307v A_307v mu_307v (some q0)) 4 g_307v_27_29 := vOk_inI fun ρ η f0 f1 f2 f3 f4 f5 f6 f7 f8 f9 f10 f11 f12 f13 f14 f15 f16 f17 f18 f19 f20 f21 f22 f23 f24 f25 f26 f27 f28 f29 f30 f31 f32 f33 f34 f35 f36 f37 f38 f39 f40 f41 f42 f43 f44 f45 => q_307v_38 (q0 := q0) (n0 := ρ 10) (n1 := ρ 9) (n2 := ρ 8) (n3 := ρ 7) (n4 := ρ 6) (n5 := ρ 5) (n6 := ρ 4) (n7 := ρ 3) (n8 := ρ 2) (n9 := ρ 1) (n10 := ρ 0) (n11 := ρ 11) (n12 := ρ 12) (n13 := ρ 13) (n14 := ρ 14) (n15 := ρ 15) (n16 := ρ 16) (n17 := ρ 17) (n18 := ρ 18) (n19 := ρ 19) (n20 := ρ 20) (n21 := ρ 21) (n22 := ρ 22) (H0 := η 0) (H1 := η 1) (H2 := η 2) (H3 := η 3) (H4 := η 4) (H5 := η 5) f45 f44 f43 f42 f41 f40 f39 f38 f37 f36 f35 f34 f33 f32 f31 f30 f29 f28 f27 f26 f25 f24 f23 f22 f21 f20 f19 f18 f17 f16 f15 f14 f13 f12 f11 f10 f9 f8 f7 f6 f5 f4 f3 f2 f1 f0
theorem q_307v_39 {q0 : Nat} {n0 n1 n2 n3 n4 n5 n6 n7 n8 n9 n10 n11 n12 n13 n14 n15 n16 n17 n18 : Int} {H0 H1 H2 : gH} (f0 : n0 ≤ 3) (f1 : 0 ≤ n0) (f2 : n1 ≤ 1) (f3 : (-1) ≤ n1) (f4 : n2 ≤ 24) (f5 : 0 ≤ n2) (f6 : n3 ≤ 2147483647) (f7 : (-2147483648) ≤ n3) (f8 : n4 ≤ 19) (f9 : 0 ≤ n4) (f10 : n5 ≤ 19) (f11 : 0 ≤ n5) (f12 : n6 = 285) (f13 : n7 ≤ 2147483647) (f14 : (-2147483648) ≤ n7) (f15 : n8 ≤ 19) (f16 : 0 ≤ n8) (f17 : n9 ≤ 19) (f18 : 0 ≤ n9) (f19 : n10 = 285) (f20 : (hLe T0 H0 H1 ∧ hFr s_307v.2.2.2.2 H0 H1 ∧ hWt T0 H1) ∧ (Ab_307v_27 n10 n9 n8 n7 n6 n5 n4 n3 n2 n1 n0 H0 H1 ∧ preb_307v n10 n9 n8 n7 H0) ∧ some q0 = some (mub_307v_27 n10 n9 n8 n7 n6 n5 n4 n3 n2 n1 n0 H0 H1)) (f21 : n11 = 3) (f22 : n0 < n11) (f23 : n0 = 0) (f24 : n12 = 10) (f25 : n13 = w32 (n1 * n2)) (f26 : n14 ≤ 2147483647) (f27 : (-2147483648) ≤ n14) (f28 : (hLe T0 H1 H2 ∧ hFr s_306v.2.2.2.2 H1 H2 ∧ ((0 : Int) = 0 → H2.length = H1.length) ∧ hWt T0 H2) ∧ postb_306v n14 n6 n5 n4 n3 n13 n12 H1 H2) (f29 : n15 ≤ 2147483647) (f30 : (-2147483648) ≤ n15) (f31 : n15 = hV H2 (n6).toNat 100) (f32 : n16 = (-1)) (f33 : n15 ≠ n16) (f34 : n17 ≤ 2147483647) (f35 : (-2147483648) ≤ n17) (f36 : n17 = hV H2 (n6).toNat 100) (f37 : n17 ≤ n14) (f38 : n18 = w32 (n0 + 1)) : 0 ≤ n18 := by
  have g4 := f20.2.1.1
  unfold Ab_307v_27 at g4
  have g3 := f20.2.1.2
  unfold preb_307v at g3
  unfold postb_306v at f28
  have e1 : n15 = hV H1 285 100 := (by rw [f12] at f31; exact f31 : n15 = hV H2 285 100).trans ((f28.1.2.1.1 285 100 kF_306v_285_100))
  have e2 : n17 = hV H1 285 100 := (by rw [f12] at f36; exact f36 : n17 = hV H2 285 100).trans ((f28.1.2.1.1 285 100 kF_306v_285_100))
  have k0 := g4.1
  have k1 := g4.2.1
  have k2 := g4.2.2.1
  have y0 := g4.2.2.2.1
  have y1 := g4.2.2.2.2
  have p0 := g3.1
  have p1 := g3.2
  have r0_0 := f28.2
  clear g3
  clear g4
  clear f31 f36
  clear f20 f28
  subst e1
  subst e2
  first
  | (have ix0 : n18 = n0 + 1 := Eq.trans f38 (w32_iv (Iad (Iat f1 f0) (IC 1)) (by decide)); subst ix0; clear f38)
  | (have ix0 : n18 = n0 + 1 := Eq.trans f38 (w32_id (by omega) (by omega)); subst ix0; clear f38)
  | (unfold w32 at f38; have ix0 : n18 = n0 + 1 := (by omega); subst ix0)
  | skip
  try unfold w32 at f25
  try unfold w32 at f38
  try subst k2
  try subst k1
  try subst k0
  omega
def g_307v_27_30 : vG := ([(10, [18, 10], [], 1), (43, [14, 17], [], 0), (20, [17, 4], [2], 100), (90, [17], [], -2147483648), (91, [17], [], 2147483647), (41, [15, 16], [], 0), (0, [16], [], -1), (20, [15, 4], [2], 100), (90, [15], [], -2147483648), (91, [15], [], 2147483647), (1306, [14, 4, 5, 6, 7, 13, 12], [1, 2], 0), (90, [14], [], -2147483648), (91, [14], [], 2147483647), (3, [13, 9, 8], [], 0), (0, [12], [], 10), (30, [10], [], 0), (42, [10, 11], [], 0), (0, [11], [], 3), (5000, [0, 1, 2, 3, 4, 5, 6, 7, 8, 9, 10], [0, 1], 27), (0, [0], [], 285), (90, [1], [], 0), (91, [1], [], 19), (90, [2], [], 0), (91, [2], [], 19), (90, [3], [], -2147483648), (91, [3], [], 2147483647), (0, [4], [], 285), (90, [5], [], 0), (91, [5], [], 19), (90, [6], [], 0), (91, [6], [], 19), (90, [7], [], -2147483648), (91, [7], [], 2147483647), (90, [8], [], 0), (91, [8], [], 24), (90, [9], [], -1), (91, [9], [], 1), (90, [10], [], 0), (91, [10], [], 3)], (90, [18], [], 0))
theorem c_307v_27_30 {q0 : Nat} : vOkm T0 (eP e_307v L_307v A_307v mu_307v (some q0)) 4 g_307v_27_30 := vOk_inI fun ρ η f0 f1 f2 f3 f4 f5 f6 f7 f8 f9 f10 f11 f12 f13 f14 f15 f16 f17 f18 f19 f20 f21 f22 f23 f24 f25 f26 f27 f28 f29 f30 f31 f32 f33 f34 f35 f36 f37 f38 => q_307v_39 (q0 := q0) (n0 := ρ 10) (n1 := ρ 9) (n2 := ρ 8) (n3 := ρ 7) (n4 := ρ 6) (n5 := ρ 5) (n6 := ρ 4) (n7 := ρ 3) (n8 := ρ 2) (n9 := ρ 1) (n10 := ρ 0) (n11 := ρ 11) (n12 := ρ 12) (n13 := ρ 13) (n14 := ρ 14) (n15 := ρ 15) (n16 := ρ 16) (n17 := ρ 17) (n18 := ρ 18) (H0 := η 0) (H1 := η 1) (H2 := η 2) f38 f37 f36 f35 f34 f33 f32 f31 f30 f29 f28 f27 f26 f25 f24 f23 f22 f21 f20 f19 f18 f17 f16 f15 f14 f13 f12 f11 f10 f9 f8 f7 f6 f5 f4 f3 f2 f1 f0
theorem q_307v_40 {q0 : Nat} {n0 n1 n2 n3 n4 n5 n6 n7 n8 n9 n10 n11 n12 n13 n14 n15 n16 n17 n18 : Int} {H0 H1 H2 : gH} (f0 : n0 ≤ 3) (f1 : 0 ≤ n0) (f2 : n1 ≤ 1) (f3 : (-1) ≤ n1) (f4 : n2 ≤ 24) (f5 : 0 ≤ n2) (f6 : n3 ≤ 2147483647) (f7 : (-2147483648) ≤ n3) (f8 : n4 ≤ 19) (f9 : 0 ≤ n4) (f10 : n5 ≤ 19) (f11 : 0 ≤ n5) (f12 : n6 = 285) (f13 : n7 ≤ 2147483647) (f14 : (-2147483648) ≤ n7) (f15 : n8 ≤ 19) (f16 : 0 ≤ n8) (f17 : n9 ≤ 19) (f18 : 0 ≤ n9) (f19 : n10 = 285) (f20 : (hLe T0 H0 H1 ∧ hFr s_307v.2.2.2.2 H0 H1 ∧ hWt T0 H1) ∧ (Ab_307v_27 n10 n9 n8 n7 n6 n5 n4 n3 n2 n1 n0 H0 H1 ∧ preb_307v n10 n9 n8 n7 H0) ∧ some q0 = some (mub_307v_27 n10 n9 n8 n7 n6 n5 n4 n3 n2 n1 n0 H0 H1)) (f21 : n11 = 3) (f22 : n0 < n11) (f23 : n0 = 0) (f24 : n12 = 10) (f25 : n13 = w32 (n1 * n2)) (f26 : n14 ≤ 2147483647) (f27 : (-2147483648) ≤ n14) (f28 : (hLe T0 H1 H2 ∧ hFr s_306v.2.2.2.2 H1 H2 ∧ ((0 : Int) = 0 → H2.length = H1.length) ∧ hWt T0 H2) ∧ postb_306v n14 n6 n5 n4 n3 n13 n12 H1 H2) (f29 : n15 ≤ 2147483647) (f30 : (-2147483648) ≤ n15) (f31 : n15 = hV H2 (n6).toNat 100) (f32 : n16 = (-1)) (f33 : n15 ≠ n16) (f34 : n17 ≤ 2147483647) (f35 : (-2147483648) ≤ n17) (f36 : n17 = hV H2 (n6).toNat 100) (f37 : n17 ≤ n14) (f38 : n18 = w32 (n0 + 1)) : n18 ≤ 3 := by
  have g4 := f20.2.1.1
  unfold Ab_307v_27 at g4
  have g3 := f20.2.1.2
  unfold preb_307v at g3
  unfold postb_306v at f28
  have e1 : n15 = hV H1 285 100 := (by rw [f12] at f31; exact f31 : n15 = hV H2 285 100).trans ((f28.1.2.1.1 285 100 kF_306v_285_100))
  have e2 : n17 = hV H1 285 100 := (by rw [f12] at f36; exact f36 : n17 = hV H2 285 100).trans ((f28.1.2.1.1 285 100 kF_306v_285_100))
  have k0 := g4.1
  have k1 := g4.2.1
  have k2 := g4.2.2.1
  have y0 := g4.2.2.2.1
  have y1 := g4.2.2.2.2
  have p0 := g3.1
  have p1 := g3.2
  have r0_0 := f28.2
  clear g3
  clear g4
  clear f31 f36
  clear f20 f28
  subst e1
  subst e2
  first
  | (have ix0 : n18 = n0 + 1 := Eq.trans f38 (w32_iv (Iad (Iat f1 f0) (IC 1)) (by decide)); subst ix0; clear f38)
  | (have ix0 : n18 = n0 + 1 := Eq.trans f38 (w32_id (by omega) (by omega)); subst ix0; clear f38)
  | (unfold w32 at f38; have ix0 : n18 = n0 + 1 := (by omega); subst ix0)
  | skip
  try unfold w32 at f25
  try unfold w32 at f38
  try subst k2
  try subst k1
  try subst k0
  omega
def g_307v_27_31 : vG := ([(10, [18, 10], [], 1), (43, [14, 17], [], 0), (20, [17, 4], [2], 100), (90, [17], [], -2147483648), (91, [17], [], 2147483647), (41, [15, 16], [], 0), (0, [16], [], -1), (20, [15, 4], [2], 100), (90, [15], [], -2147483648), (91, [15], [], 2147483647), (1306, [14, 4, 5, 6, 7, 13, 12], [1, 2], 0), (90, [14], [], -2147483648), (91, [14], [], 2147483647), (3, [13, 9, 8], [], 0), (0, [12], [], 10), (30, [10], [], 0), (42, [10, 11], [], 0), (0, [11], [], 3), (5000, [0, 1, 2, 3, 4, 5, 6, 7, 8, 9, 10], [0, 1], 27), (0, [0], [], 285), (90, [1], [], 0), (91, [1], [], 19), (90, [2], [], 0), (91, [2], [], 19), (90, [3], [], -2147483648), (91, [3], [], 2147483647), (0, [4], [], 285), (90, [5], [], 0), (91, [5], [], 19), (90, [6], [], 0), (91, [6], [], 19), (90, [7], [], -2147483648), (91, [7], [], 2147483647), (90, [8], [], 0), (91, [8], [], 24), (90, [9], [], -1), (91, [9], [], 1), (90, [10], [], 0), (91, [10], [], 3)], (91, [18], [], 3))
theorem c_307v_27_31 {q0 : Nat} : vOkm T0 (eP e_307v L_307v A_307v mu_307v (some q0)) 4 g_307v_27_31 := vOk_inI fun ρ η f0 f1 f2 f3 f4 f5 f6 f7 f8 f9 f10 f11 f12 f13 f14 f15 f16 f17 f18 f19 f20 f21 f22 f23 f24 f25 f26 f27 f28 f29 f30 f31 f32 f33 f34 f35 f36 f37 f38 => q_307v_40 (q0 := q0) (n0 := ρ 10) (n1 := ρ 9) (n2 := ρ 8) (n3 := ρ 7) (n4 := ρ 6) (n5 := ρ 5) (n6 := ρ 4) (n7 := ρ 3) (n8 := ρ 2) (n9 := ρ 1) (n10 := ρ 0) (n11 := ρ 11) (n12 := ρ 12) (n13 := ρ 13) (n14 := ρ 14) (n15 := ρ 15) (n16 := ρ 16) (n17 := ρ 17) (n18 := ρ 18) (H0 := η 0) (H1 := η 1) (H2 := η 2) f38 f37 f36 f35 f34 f33 f32 f31 f30 f29 f28 f27 f26 f25 f24 f23 f22 f21 f20 f19 f18 f17 f16 f15 f14 f13 f12 f11 f10 f9 f8 f7 f6 f5 f4 f3 f2 f1 f0
theorem q_307v_41 {q0 : Nat} {n0 n1 n2 n3 n4 n5 n6 n7 n8 n9 n10 n11 n12 n13 n14 n15 n16 n17 n18 : Int} {H0 H1 H2 : gH} (f0 : n0 ≤ 3) (f1 : 0 ≤ n0) (f2 : n1 ≤ 1) (f3 : (-1) ≤ n1) (f4 : n2 ≤ 24) (f5 : 0 ≤ n2) (f6 : n3 ≤ 2147483647) (f7 : (-2147483648) ≤ n3) (f8 : n4 ≤ 19) (f9 : 0 ≤ n4) (f10 : n5 ≤ 19) (f11 : 0 ≤ n5) (f12 : n6 = 285) (f13 : n7 ≤ 2147483647) (f14 : (-2147483648) ≤ n7) (f15 : n8 ≤ 19) (f16 : 0 ≤ n8) (f17 : n9 ≤ 19) (f18 : 0 ≤ n9) (f19 : n10 = 285) (f20 : (hLe T0 H0 H1 ∧ hFr s_307v.2.2.2.2 H0 H1 ∧ hWt T0 H1) ∧ (Ab_307v_27 n10 n9 n8 n7 n6 n5 n4 n3 n2 n1 n0 H0 H1 ∧ preb_307v n10 n9 n8 n7 H0) ∧ some q0 = some (mub_307v_27 n10 n9 n8 n7 n6 n5 n4 n3 n2 n1 n0 H0 H1)) (f21 : n11 = 3) (f22 : n0 < n11) (f23 : n0 = 0) (f24 : n12 = 10) (f25 : n13 = w32 (n1 * n2)) (f26 : n14 ≤ 2147483647) (f27 : (-2147483648) ≤ n14) (f28 : (hLe T0 H1 H2 ∧ hFr s_306v.2.2.2.2 H1 H2 ∧ ((0 : Int) = 0 → H2.length = H1.length) ∧ hWt T0 H2) ∧ postb_306v n14 n6 n5 n4 n3 n13 n12 H1 H2) (f29 : n15 ≤ 2147483647) (f30 : (-2147483648) ≤ n15) (f31 : n15 = hV H2 (n6).toNat 100) (f32 : n16 = (-1)) (f33 : n15 ≠ n16) (f34 : n17 ≤ 2147483647) (f35 : (-2147483648) ≤ n17) (f36 : n17 = hV H2 (n6).toNat 100) (f37 : n17 ≤ n14) (f38 : n18 = w32 (n0 + 1)) : Ab_307v_27 n10 n9 n8 n7 n6 n5 n4 n3 n2 n1 n18 H0 H2 ∧ ∀ q, some q0 = some q → mub_307v_27 n10 n9 n8 n7 n6 n5 n4 n3 n2 n1 n18 H0 H2 < q := by
  have ga := f20.2.1.1
  unfold Ab_307v_27 at ga
  obtain ⟨k0_, k1_, k2_, y0, y1⟩ := ga
  have pz := f20.2.1.2
  unfold preb_307v at pz
  have u25 := f25
  unfold w32 at u25
  have u38 := f38
  unfold w32 at u38
  have pm := f28.2
  unfold postb_306v at pm
  have lf := lkR_fr (x := n9) (y := n8) (sl := n7) f20.1.2.1 (by decide +kernel) (by decide +kernel)
  rw [show n5 = n9 from k0_, show n4 = n8 from k1_, show n3 = n7 from k2_, lf] at pm
  have w100 : hV H2 285 100 = hV H1 285 100 := f28.1.2.1.1 285 100 kF_306v_285_100
  have w101 : hV H2 285 101 = hV H1 285 101 := f28.1.2.1.1 285 101 kF_306v_285_101
  have w102 : hV H2 285 102 = hV H1 285 102 := f28.1.2.1.1 285 102 kF_306v_285_102
  have sg : n13 = sgf n1 n2 := by
    have z := f25
    unfold sgf
    rcases y1 with t | t <;> rw [t] at z ⊢ <;> unfold w32 at z
    · rw [if_pos rfl]
      omega
    · rw [if_neg (by decide)]
      omega
  rw [sg] at pm
  have rm0 := f31
  rw [f12] at rm0
  rw [show ((285 : Int)).toNat = 285 from rfl, show hV H2 285 100 = hV H1 285 100 from f28.1.2.1.1 285 100 kF_306v_285_100] at rm0
  have rm1 := f36
  rw [f12] at rm1
  rw [show ((285 : Int)).toNat = 285 from rfl, show hV H2 285 100 = hV H1 285 100 from f28.1.2.1.1 285 100 kF_306v_285_100] at rm1
  have g5 := Option.some.inj f20.2.2
  unfold mub_307v_27 at g5
  unfold Ab_307v_27 mub_307v_27
  refine ⟨⟨k0_, k1_, k2_, ?_, y1⟩, fun q hq => ?_⟩
  · rw [show (n18).toNat = (n0).toNat + 1 by omega]
    have e3 : n0 = 0 ∨ n0 = 1 ∨ n0 = 2 := by omega
    have tt : ((n0).toNat = 0 ∧ n12 = 10) ∨ ((n0).toNat = 1 ∧ n12 = 9) ∨ ((n0).toNat = 2 ∧ n12 = 11) := by omega
    rw [gk_step tt, ← y0]
    unfold frs
    rw [← pm]
    dsimp only
    rw [w100, w101, w102]
    rw [if_pos (by omega)]
  · have g6 := Option.some.inj hq
    subst g6
    omega
def g_307v_27_32 : vG := ([(10, [18, 10], [], 1), (43, [14, 17], [], 0), (20, [17, 4], [2], 100), (90, [17], [], -2147483648), (91, [17], [], 2147483647), (41, [15, 16], [], 0), (0, [16], [], -1), (20, [15, 4], [2], 100), (90, [15], [], -2147483648), (91, [15], [], 2147483647), (1306, [14, 4, 5, 6, 7, 13, 12], [1, 2], 0), (90, [14], [], -2147483648), (91, [14], [], 2147483647), (3, [13, 9, 8], [], 0), (0, [12], [], 10), (30, [10], [], 0), (42, [10, 11], [], 0), (0, [11], [], 3), (5000, [0, 1, 2, 3, 4, 5, 6, 7, 8, 9, 10], [0, 1], 27), (0, [0], [], 285), (90, [1], [], 0), (91, [1], [], 19), (90, [2], [], 0), (91, [2], [], 19), (90, [3], [], -2147483648), (91, [3], [], 2147483647), (0, [4], [], 285), (90, [5], [], 0), (91, [5], [], 19), (90, [6], [], 0), (91, [6], [], 19), (90, [7], [], -2147483648), (91, [7], [], 2147483647), (90, [8], [], 0), (91, [8], [], 24), (90, [9], [], -1), (91, [9], [], 1), (90, [10], [], 0), (91, [10], [], 3)], (4000, [4, 5, 6, 7, 8, 9, 18], [2], 27))
theorem c_307v_27_32 {q0 : Nat} : vOkm T0 (eP e_307v L_307v A_307v mu_307v (some q0)) 4 g_307v_27_32 := vOk_inI fun ρ η f0 f1 f2 f3 f4 f5 f6 f7 f8 f9 f10 f11 f12 f13 f14 f15 f16 f17 f18 f19 f20 f21 f22 f23 f24 f25 f26 f27 f28 f29 f30 f31 f32 f33 f34 f35 f36 f37 f38 => q_307v_41 (q0 := q0) (n0 := ρ 10) (n1 := ρ 9) (n2 := ρ 8) (n3 := ρ 7) (n4 := ρ 6) (n5 := ρ 5) (n6 := ρ 4) (n7 := ρ 3) (n8 := ρ 2) (n9 := ρ 1) (n10 := ρ 0) (n11 := ρ 11) (n12 := ρ 12) (n13 := ρ 13) (n14 := ρ 14) (n15 := ρ 15) (n16 := ρ 16) (n17 := ρ 17) (n18 := ρ 18) (H0 := η 0) (H1 := η 1) (H2 := η 2) f38 f37 f36 f35 f34 f33 f32 f31 f30 f29 f28 f27 f26 f25 f24 f23 f22 f21 f20 f19 f18 f17 f16 f15 f14 f13 f12 f11 f10 f9 f8 f7 f6 f5 f4 f3 f2 f1 f0
def p_307v_27 : List vG := [g_307v_27_0,
  g_307v_27_1,
  g_307v_27_2,
  g_307v_27_3,
  g_307v_27_4,
  g_307v_27_5,
  g_307v_27_6,
  g_307v_27_7,
  g_307v_27_8,
  g_307v_27_9,
  g_307v_27_10,
  g_307v_27_11,
  g_307v_27_12,
  g_307v_27_13,
  g_307v_27_14,
  g_307v_27_15,
  g_307v_27_16,
  g_307v_27_17,
  g_307v_27_18,
  g_307v_27_19,
  g_307v_27_20,
  g_307v_27_21,
  g_307v_27_22,
  g_307v_27_23,
  g_307v_27_24,
  g_307v_27_25,
  g_307v_27_26,
  g_307v_27_27,
  g_307v_27_28,
  g_307v_27_29,
  g_307v_27_30,
  g_307v_27_31,
  g_307v_27_32]
theorem r_307v_27 : vCovO false (eRc e_307v L_307v cs_307v 2000 (27, [(0, (3, 12, 285, 0)), (1, (0, 0, 19, 0)), (2, (0, 0, 19, 0)), (3, (0, -2147483648, 2147483647, 0)), (4, (0, 0, 24, 0)), (5, (0, -1, 1, 0)), (6, (0, 0, 3, 0))])) p_307v_27 = true := by decide +kernel
theorem m_307v (d : Nat) : eC e_307v (d + 2) := eC_ok (e := e_307v) (L := L_307v) (cs := cs_307v) (n := 2000) (d := d + 1) (A := A_307v) (μ := mu_307v) (tp := false) (p0 := p_307v_s) rfl ⟨m_306v d, trivial⟩ rfl (.inl rfl) (by decide +kernel) (fun z => nomatch z) r_307v_s (allC c_307v_s_0 allN) (allC (.inl ⟨p_307v_8, r_307v_8, fun q0 => (allC c_307v_8_0 (allC c_307v_8_1 (allC c_307v_8_2 allN)))⟩) (allC (.inl ⟨p_307v_18, r_307v_18, fun q0 => (allC c_307v_18_0 (allC c_307v_18_1 (allC c_307v_18_2 (allC c_307v_18_3 (allC c_307v_18_4 allN)))))⟩) (allC (.inl ⟨p_307v_27, r_307v_27, fun q0 => (allC c_307v_27_0 (allC c_307v_27_1 (allC c_307v_27_2 (allC c_307v_27_3 (allC c_307v_27_4 (allC c_307v_27_5 (allC c_307v_27_6 (allC c_307v_27_7 (allC c_307v_27_8 (allC c_307v_27_9 (allC c_307v_27_10 (allC c_307v_27_11 (allC c_307v_27_12 (allC c_307v_27_13 (allC c_307v_27_14 (allC c_307v_27_15 (allC c_307v_27_16 (allC c_307v_27_17 (allC c_307v_27_18 (allC c_307v_27_19 (allC c_307v_27_20 (allC c_307v_27_21 (allC c_307v_27_22 (allC c_307v_27_23 (allC c_307v_27_24 (allC c_307v_27_25 (allC c_307v_27_26 (allC c_307v_27_27 (allC c_307v_27_28 (allC c_307v_27_29 (allC c_307v_27_30 (allC c_307v_27_31 (allC c_307v_27_32 allN)))))))))))))))))))))))))))))))))⟩) allN)))
/- MixStageModel.isLine (I)Z -/
noncomputable def s_308v : vM := ([(3, 12, 285, 0), (0, -2147483648, 2147483647, 0)], (0, 0, 1, 0), 0, 0, [])
def postb_308v (r a0 a1 : Int) (h0 h : gH) : Prop := (r = 1 ∧ 0 ≤ a1 ∧ a1 < hV h 285 64 ∧ hV h 328 ((a1).toNat) = 2) ∨ (r = 0 ∧ ¬ (0 ≤ a1 ∧ a1 < hV h 285 64 ∧ hV h 328 ((a1).toNat) = 2))
def post_308v : List Int → gH → gH → Prop := fun xs h0 h => match xs with
  | [r, a0, a1] => postb_308v r a0 a1 h0 h
  | _ => True
noncomputable def e_308v : vE := (308, s_308v, pre0, post_308v)
noncomputable def L_308v : List vE := [e_250]
def cs_308v : List vC := []
def A_308v : Int → List Int → gH → gH → Prop := fun c xs h0 h => True
def mu_308v : Int → List Int → gH → gH → Nat := fun c xs h0 h => 0
theorem q_308v_0 {n0 n1 n2 n3 : Int} {H0 H1 : gH} (f0 : n0 ≤ 2147483647) (f1 : (-2147483648) ≤ n0) (f2 : n1 = 285) (f3 : hWt T0 H0 ∧ True) (f4 : n2 ≤ 1) (f5 : 0 ≤ n2) (f6 : (hLe T0 H0 H1 ∧ hFr s_250.2.2.2.2 H0 H1 ∧ ((0 : Int) = 0 → H1.length = H0.length) ∧ hWt T0 H1) ∧ postb_250 n2 n1 n0 H0 H1) (f7 : n2 = 0) (f8 : n3 = 0) : postb_308v n3 n1 n0 H0 H1 := by
  unfold postb_250 at f6
  unfold postb_308v
  have e1 : hV H1 285 64 = hV H0 285 64 := (f6.1.2.1.1 285 64 kF_250_285_64)
  have e2 : hV H1 328 = hV H0 328 := fRow f6.1.2.1 328 kR_250_328
  have e3 : (0 : Int) ≤ hV H0 285 64 ∧ hV H0 285 64 ≤ 20 := bTo e1 (f6.1.2.2.2 285 64 _ _ kW_285_64)
  try simp only [e1, e2]
  have r0_0 := f6.2
  try simp only [e1] at r0_0
  clear e1 e2
  clear f3 f6
  first | assumption | omega | trivial
def g_308v_s_0 : vG := ([(0, [3], [], 0), (30, [2], [], 0), (1250, [2, 0, 1], [0, 1], 0), (90, [2], [], 0), (91, [2], [], 1), (6000, [0, 1], [0], 0), (0, [0], [], 285), (90, [1], [], -2147483648), (91, [1], [], 2147483647)], (3000, [3], [1], 23))
theorem c_308v_s_0 : vOkm T0 (eP e_308v L_308v A_308v mu_308v none) 2 g_308v_s_0 := vOk_inI fun ρ η f0 f1 f2 f3 f4 f5 f6 f7 f8 => q_308v_0 (n0 := ρ 1) (n1 := ρ 0) (n2 := ρ 2) (n3 := ρ 3) (H0 := η 0) (H1 := η 1) f8 f7 f6 f5 f4 f3 f2 f1 f0
theorem q_308v_1 {n0 n1 n2 : Int} {H0 H1 : gH} (f0 : n0 ≤ 2147483647) (f1 : (-2147483648) ≤ n0) (f2 : n1 = 285) (f3 : hWt T0 H0 ∧ True) (f4 : n2 ≤ 1) (f5 : 0 ≤ n2) (f6 : (hLe T0 H0 H1 ∧ hFr s_250.2.2.2.2 H0 H1 ∧ ((0 : Int) = 0 → H1.length = H0.length) ∧ hWt T0 H1) ∧ postb_250 n2 n1 n0 H0 H1) (f7 : n2 ≠ 0) : 0 ≤ n0 ∧ n0 < 20 := by
  unfold postb_250 at f6
  have e1 : hV H1 285 64 = hV H0 285 64 := (f6.1.2.1.1 285 64 kF_250_285_64)
  have e2 : (0 : Int) ≤ hV H0 285 64 ∧ hV H0 285 64 ≤ 20 := bTo e1 (f6.1.2.2.2 285 64 _ _ kW_285_64)
  have r0_0 := f6.2
  try simp only [e1] at r0_0
  clear e1
  clear f3 f6
  omega
def g_308v_s_1 : vG := ([(31, [2], [], 0), (1250, [2, 0, 1], [0, 1], 0), (90, [2], [], 0), (91, [2], [], 1), (6000, [0, 1], [0], 0), (0, [0], [], 285), (90, [1], [], -2147483648), (91, [1], [], 2147483647)], (70, [1], [], 20))
theorem c_308v_s_1 : vOkm T0 (eP e_308v L_308v A_308v mu_308v none) 2 g_308v_s_1 := vOk_inI fun ρ η f0 f1 f2 f3 f4 f5 f6 f7 => q_308v_1 (n0 := ρ 1) (n1 := ρ 0) (n2 := ρ 2) (H0 := η 0) (H1 := η 1) f7 f6 f5 f4 f3 f2 f1 f0
theorem q_308v_2 {n0 n1 n2 n3 n4 n5 n6 : Int} {H0 H1 : gH} (f0 : n0 ≤ 2147483647) (f1 : (-2147483648) ≤ n0) (f2 : n1 = 285) (f3 : hWt T0 H0 ∧ True) (f4 : n2 ≤ 1) (f5 : 0 ≤ n2) (f6 : (hLe T0 H0 H1 ∧ hFr s_250.2.2.2.2 H0 H1 ∧ ((0 : Int) = 0 → H1.length = H0.length) ∧ hWt T0 H1) ∧ postb_250 n2 n1 n0 H0 H1) (f7 : n2 ≠ 0) (f8 : n3 = 328) (f9 : n3 = hV H1 (n1).toNat 66) (f10 : n4 ≤ 6) (f11 : 0 ≤ n4) (f12 : n4 = hV H1 (n3).toNat (n0).toNat) (f13 : n5 = 2) (f14 : n4 ≠ n5) (f15 : n6 = 0) : postb_308v n6 n1 n0 H0 H1 := by
  unfold postb_250 at f6
  unfold postb_308v
  have e0 : hV H1 328 = hV H0 328 := fRow f6.1.2.1 328 kR_250_328
  have e1 : n4 = hV H0 328 (n0).toNat := (by rw [f8] at f12; exact f12 : n4 = hV H1 328 (n0).toNat).trans ((congrFun e0 _))
  have e3 : hV H1 285 64 = hV H0 285 64 := (f6.1.2.1.1 285 64 kF_250_285_64)
  have e4 : (0 : Int) ≤ hV H0 285 64 ∧ hV H0 285 64 ≤ 20 := bTo e3 (f6.1.2.2.2 285 64 _ _ kW_285_64)
  try simp only [e3, e0]
  have r0_0 := f6.2
  try simp only [e3] at r0_0
  clear f9 f12 e0 e3
  clear f3 f6
  subst e1
  first | assumption | omega | trivial
def g_308v_s_2 : vG := ([(0, [6], [], 0), (41, [4, 5], [], 0), (0, [5], [], 2), (22, [4, 3, 1], [1], 0), (90, [4], [], 0), (91, [4], [], 6), (20, [3, 0], [1], 66), (0, [3], [], 328), (31, [2], [], 0), (1250, [2, 0, 1], [0, 1], 0), (90, [2], [], 0), (91, [2], [], 1), (6000, [0, 1], [0], 0), (0, [0], [], 285), (90, [1], [], -2147483648), (91, [1], [], 2147483647)], (3000, [6], [1], 23))
theorem c_308v_s_2 : vOkm T0 (eP e_308v L_308v A_308v mu_308v none) 2 g_308v_s_2 := vOk_inI fun ρ η f0 f1 f2 f3 f4 f5 f6 f7 f8 f9 f10 f11 f12 f13 f14 f15 => q_308v_2 (n0 := ρ 1) (n1 := ρ 0) (n2 := ρ 2) (n3 := ρ 3) (n4 := ρ 4) (n5 := ρ 5) (n6 := ρ 6) (H0 := η 0) (H1 := η 1) f15 f14 f13 f12 f11 f10 f9 f8 f7 f6 f5 f4 f3 f2 f1 f0
theorem q_308v_3 {n0 n1 n2 n3 n4 n5 n6 : Int} {H0 H1 : gH} (f0 : n0 ≤ 2147483647) (f1 : (-2147483648) ≤ n0) (f2 : n1 = 285) (f3 : hWt T0 H0 ∧ True) (f4 : n2 ≤ 1) (f5 : 0 ≤ n2) (f6 : (hLe T0 H0 H1 ∧ hFr s_250.2.2.2.2 H0 H1 ∧ ((0 : Int) = 0 → H1.length = H0.length) ∧ hWt T0 H1) ∧ postb_250 n2 n1 n0 H0 H1) (f7 : n2 ≠ 0) (f8 : n3 = 328) (f9 : n3 = hV H1 (n1).toNat 66) (f10 : n4 ≤ 6) (f11 : 0 ≤ n4) (f12 : n4 = hV H1 (n3).toNat (n0).toNat) (f13 : n5 = 2) (f14 : n4 = n5) (f15 : n6 = 1) : postb_308v n6 n1 n0 H0 H1 := by
  unfold postb_250 at f6
  unfold postb_308v
  have e0 : hV H1 328 = hV H0 328 := fRow f6.1.2.1 328 kR_250_328
  have e1 : n4 = hV H0 328 (n0).toNat := (by rw [f8] at f12; exact f12 : n4 = hV H1 328 (n0).toNat).trans ((congrFun e0 _))
  have e3 : hV H1 285 64 = hV H0 285 64 := (f6.1.2.1.1 285 64 kF_250_285_64)
  have e4 : (0 : Int) ≤ hV H0 285 64 ∧ hV H0 285 64 ≤ 20 := bTo e3 (f6.1.2.2.2 285 64 _ _ kW_285_64)
  try simp only [e3, e0]
  have r0_0 := f6.2
  try simp only [e3] at r0_0
  clear f9 f12 e0 e3
  clear f3 f6
  subst e1
  first | assumption | omega | trivial
def g_308v_s_3 : vG := ([(0, [6], [], 1), (40, [4, 5], [], 0), (0, [5], [], 2), (22, [4, 3, 1], [1], 0), (90, [4], [], 0), (91, [4], [], 6), (20, [3, 0], [1], 66), (0, [3], [], 328), (31, [2], [], 0), (1250, [2, 0, 1], [0, 1], 0), (90, [2], [], 0), (91, [2], [], 1), (6000, [0, 1], [0], 0), (0, [0], [], 285), (90, [1], [], -2147483648), (91, [1], [], 2147483647)], (3000, [6], [1], 23))
theorem c_308v_s_3 : vOkm T0 (eP e_308v L_308v A_308v mu_308v none) 2 g_308v_s_3 := vOk_inI fun ρ η f0 f1 f2 f3 f4 f5 f6 f7 f8 f9 f10 f11 f12 f13 f14 f15 => q_308v_3 (n0 := ρ 1) (n1 := ρ 0) (n2 := ρ 2) (n3 := ρ 3) (n4 := ρ 4) (n5 := ρ 5) (n6 := ρ 6) (H0 := η 0) (H1 := η 1) f15 f14 f13 f12 f11 f10 f9 f8 f7 f6 f5 f4 f3 f2 f1 f0
def p_308v_s : List vG := [g_308v_s_0,
  g_308v_s_1,
  g_308v_s_2,
  g_308v_s_3]
theorem r_308v_s : vCovO false (eR0 e_308v L_308v cs_308v 2000) p_308v_s = true := by decide +kernel
theorem m_308v (d : Nat) : eC e_308v (d + 2) := eC_ok (e := e_308v) (L := L_308v) (cs := cs_308v) (n := 2000) (d := d + 1) (A := A_308v) (μ := mu_308v) (tp := false) (p0 := p_308v_s) rfl ⟨m_250 d, trivial⟩ rfl (.inr pre0_ok) (by decide +kernel) (fun z => nomatch z) r_308v_s (allC c_308v_s_0 (allC c_308v_s_1 (allC c_308v_s_2 (allC c_308v_s_3 allN)))) allN
/- MixStageModel.fit (IIII)I -/
noncomputable def s_309v : vM := ([(3, 12, 285, 0), (0, -2147483648, 2147483647, 0), (0, -2147483648, 2147483647, 0), (0, -2147483648, 2147483647, 0), (0, -2147483648, 2147483647, 0)], (0, -2147483648, 2147483647, 0), 0, 0, [(12, 100), (12, 101), (12, 102)])
def postb_309v (r a0 a1 a2 a3 a4 : Int) (h0 h : gH) : Prop := (FTm h0 a1 a2 a3 a4 ∧ r = fitR (ffr (lkR h0 a1 a2 a3) 25 (-1, hV h0 285 101, hV h0 285 102)) a4) ∨ (¬ FTm h0 a1 a2 a3 a4 ∧ r = (if a4 = 1 then -100 else -1))
def post_309v : List Int → gH → gH → Prop := fun xs h0 h => match xs with
  | [r, a0, a1, a2, a3, a4] => postb_309v r a0 a1 a2 a3 a4 h0 h
  | _ => True
noncomputable def e_309v : vE := (309, s_309v, pre0, post_309v)
noncomputable def L_309v : List vE := [e_251, e_307v, e_308v]
def cs_309v : List vC := []
def A_309v : Int → List Int → gH → gH → Prop := fun c xs h0 h => True
def mu_309v : Int → List Int → gH → gH → Nat := fun c xs h0 h => 0
theorem kR_308v_328 : vFreeR s_308v.2.2.2.2 328 = true := by decide +kernel
theorem kF_308v_285_64 : vFree s_308v.2.2.2.2 285 64 = true := by decide +kernel
theorem q_309v_0 {n0 n1 n2 n3 n4 n5 n6 n7 : Int} {H0 H1 : gH} (f0 : n0 ≤ 2147483647) (f1 : (-2147483648) ≤ n0) (f2 : n1 ≤ 2147483647) (f3 : (-2147483648) ≤ n1) (f4 : n2 ≤ 2147483647) (f5 : (-2147483648) ≤ n2) (f6 : n3 ≤ 2147483647) (f7 : (-2147483648) ≤ n3) (f8 : n4 = 285) (f9 : hWt T0 H0 ∧ True) (f10 : n5 ≤ 1) (f11 : 0 ≤ n5) (f12 : (hLe T0 H0 H1 ∧ hFr s_308v.2.2.2.2 H0 H1 ∧ ((0 : Int) = 0 → H1.length = H0.length) ∧ hWt T0 H1) ∧ postb_308v n5 n4 n3 H0 H1) (f13 : n5 = 0) (f14 : n6 = 1) (f15 : n0 ≠ n6) (f16 : n7 = (-1)) : postb_309v n7 n4 n3 n2 n1 n0 H0 H1 := by
  unfold postb_308v at f12
  unfold postb_309v
  have e1 : hV H1 285 64 = hV H0 285 64 := (f12.1.2.1.1 285 64 kF_308v_285_64)
  have e2 : hV H1 328 = hV H0 328 := fRow f12.1.2.1 328 kR_308v_328
  have e3 : (0 : Int) ≤ hV H0 285 64 ∧ hV H0 285 64 ≤ 20 := bTo e1 (f12.1.2.2.2 285 64 _ _ kW_285_64)
  have r0_0 := f12.2
  try simp only [e1, e2] at r0_0
  clear e1 e2
  clear f9 f12

  unfold FTm
  first
  | (rw [if_pos (by omega)] <;> omega)
  | (rw [if_neg (by omega)] <;> omega)
def g_309v_s_0 : vG := ([(0, [7], [], -1), (41, [4, 6], [], 0), (0, [6], [], 1), (30, [5], [], 0), (1308, [5, 0, 1], [0, 1], 0), (90, [5], [], 0), (91, [5], [], 1), (6000, [0, 1, 2, 3, 4], [0], 0), (0, [0], [], 285), (90, [1], [], -2147483648), (91, [1], [], 2147483647), (90, [2], [], -2147483648), (91, [2], [], 2147483647), (90, [3], [], -2147483648), (91, [3], [], 2147483647), (90, [4], [], -2147483648), (91, [4], [], 2147483647)], (3000, [7], [1], 53))
theorem c_309v_s_0 : vOkm T0 (eP e_309v L_309v A_309v mu_309v none) 5 g_309v_s_0 := vOk_inI fun ρ η f0 f1 f2 f3 f4 f5 f6 f7 f8 f9 f10 f11 f12 f13 f14 f15 f16 => q_309v_0 (n0 := ρ 4) (n1 := ρ 3) (n2 := ρ 2) (n3 := ρ 1) (n4 := ρ 0) (n5 := ρ 5) (n6 := ρ 6) (n7 := ρ 7) (H0 := η 0) (H1 := η 1) f16 f15 f14 f13 f12 f11 f10 f9 f8 f7 f6 f5 f4 f3 f2 f1 f0
theorem q_309v_1 {n0 n1 n2 n3 n4 n5 n6 n7 : Int} {H0 H1 : gH} (f0 : n0 ≤ 2147483647) (f1 : (-2147483648) ≤ n0) (f2 : n1 ≤ 2147483647) (f3 : (-2147483648) ≤ n1) (f4 : n2 ≤ 2147483647) (f5 : (-2147483648) ≤ n2) (f6 : n3 ≤ 2147483647) (f7 : (-2147483648) ≤ n3) (f8 : n4 = 285) (f9 : hWt T0 H0 ∧ True) (f10 : n5 ≤ 1) (f11 : 0 ≤ n5) (f12 : (hLe T0 H0 H1 ∧ hFr s_308v.2.2.2.2 H0 H1 ∧ ((0 : Int) = 0 → H1.length = H0.length) ∧ hWt T0 H1) ∧ postb_308v n5 n4 n3 H0 H1) (f13 : n5 = 0) (f14 : n6 = 1) (f15 : n0 = n6) (f16 : n7 = (-100)) : postb_309v n7 n4 n3 n2 n1 n0 H0 H1 := by
  unfold postb_308v at f12
  unfold postb_309v
  have e1 : hV H1 285 64 = hV H0 285 64 := (f12.1.2.1.1 285 64 kF_308v_285_64)
  have e2 : hV H1 328 = hV H0 328 := fRow f12.1.2.1 328 kR_308v_328
  have e3 : (0 : Int) ≤ hV H0 285 64 ∧ hV H0 285 64 ≤ 20 := bTo e1 (f12.1.2.2.2 285 64 _ _ kW_285_64)
  have r0_0 := f12.2
  try simp only [e1, e2] at r0_0
  clear e1 e2
  clear f9 f12

  unfold FTm
  first
  | (rw [if_pos (by omega)] <;> omega)
  | (rw [if_neg (by omega)] <;> omega)
def g_309v_s_1 : vG := ([(0, [7], [], -100), (40, [4, 6], [], 0), (0, [6], [], 1), (30, [5], [], 0), (1308, [5, 0, 1], [0, 1], 0), (90, [5], [], 0), (91, [5], [], 1), (6000, [0, 1, 2, 3, 4], [0], 0), (0, [0], [], 285), (90, [1], [], -2147483648), (91, [1], [], 2147483647), (90, [2], [], -2147483648), (91, [2], [], 2147483647), (90, [3], [], -2147483648), (91, [3], [], 2147483647), (90, [4], [], -2147483648), (91, [4], [], 2147483647)], (3000, [7], [1], 53))
theorem c_309v_s_1 : vOkm T0 (eP e_309v L_309v A_309v mu_309v none) 5 g_309v_s_1 := vOk_inI fun ρ η f0 f1 f2 f3 f4 f5 f6 f7 f8 f9 f10 f11 f12 f13 f14 f15 f16 => q_309v_1 (n0 := ρ 4) (n1 := ρ 3) (n2 := ρ 2) (n3 := ρ 1) (n4 := ρ 0) (n5 := ρ 5) (n6 := ρ 6) (n7 := ρ 7) (H0 := η 0) (H1 := η 1) f16 f15 f14 f13 f12 f11 f10 f9 f8 f7 f6 f5 f4 f3 f2 f1 f0
theorem q_309v_2 {n0 n1 n2 n3 n4 n5 n6 n7 n8 : Int} {H0 H1 H2 : gH} (f0 : n0 ≤ 2147483647) (f1 : (-2147483648) ≤ n0) (f2 : n1 ≤ 2147483647) (f3 : (-2147483648) ≤ n1) (f4 : n2 ≤ 2147483647) (f5 : (-2147483648) ≤ n2) (f6 : n3 ≤ 2147483647) (f7 : (-2147483648) ≤ n3) (f8 : n4 = 285) (f9 : hWt T0 H0 ∧ True) (f10 : n5 ≤ 1) (f11 : 0 ≤ n5) (f12 : (hLe T0 H0 H1 ∧ hFr s_308v.2.2.2.2 H0 H1 ∧ ((0 : Int) = 0 → H1.length = H0.length) ∧ hWt T0 H1) ∧ postb_308v n5 n4 n3 H0 H1) (f13 : n5 ≠ 0) (f14 : n6 ≤ 1) (f15 : 0 ≤ n6) (f16 : (hLe T0 H1 H2 ∧ hFr s_308v.2.2.2.2 H1 H2 ∧ ((0 : Int) = 0 → H2.length = H1.length) ∧ hWt T0 H2) ∧ postb_308v n6 n4 n2 H1 H2) (f17 : n6 = 0) (f18 : n7 = 1) (f19 : n0 ≠ n7) (f20 : n8 = (-1)) : postb_309v n8 n4 n3 n2 n1 n0 H0 H2 := by
  unfold postb_308v at f12
  unfold postb_308v at f16
  unfold postb_309v
  have e1 : hV H1 285 64 = hV H0 285 64 := (f12.1.2.1.1 285 64 kF_308v_285_64)
  have e2 : hV H1 328 = hV H0 328 := fRow f12.1.2.1 328 kR_308v_328
  have e4 : hV H2 285 64 = hV H0 285 64 := ((f16.1.2.1.1 285 64 kF_308v_285_64)).trans (f12.1.2.1.1 285 64 kF_308v_285_64)
  have e6 : hV H2 328 = hV H0 328 := (fRow f16.1.2.1 328 kR_308v_328).trans e2
  have e7 : (0 : Int) ≤ hV H0 285 64 ∧ hV H0 285 64 ≤ 20 := bTo e1 (f12.1.2.2.2 285 64 _ _ kW_285_64)
  have r0_0 := f12.2
  have r1_0 := f16.2
  try simp only [e1, e2] at r0_0
  try simp only [e4, e6] at r1_0
  clear e1 e2 e4 e6
  clear f9 f12 f16

  unfold FTm
  first
  | (rw [if_pos (by omega)] <;> omega)
  | (rw [if_neg (by omega)] <;> omega)
def g_309v_s_2 : vG := ([(0, [8], [], -1), (41, [4, 7], [], 0), (0, [7], [], 1), (30, [6], [], 0), (1308, [6, 0, 2], [1, 2], 0), (90, [6], [], 0), (91, [6], [], 1), (31, [5], [], 0), (1308, [5, 0, 1], [0, 1], 0), (90, [5], [], 0), (91, [5], [], 1), (6000, [0, 1, 2, 3, 4], [0], 0), (0, [0], [], 285), (90, [1], [], -2147483648), (91, [1], [], 2147483647), (90, [2], [], -2147483648), (91, [2], [], 2147483647), (90, [3], [], -2147483648), (91, [3], [], 2147483647), (90, [4], [], -2147483648), (91, [4], [], 2147483647)], (3000, [8], [2], 53))
theorem c_309v_s_2 : vOkm T0 (eP e_309v L_309v A_309v mu_309v none) 5 g_309v_s_2 := vOk_inI fun ρ η f0 f1 f2 f3 f4 f5 f6 f7 f8 f9 f10 f11 f12 f13 f14 f15 f16 f17 f18 f19 f20 => q_309v_2 (n0 := ρ 4) (n1 := ρ 3) (n2 := ρ 2) (n3 := ρ 1) (n4 := ρ 0) (n5 := ρ 5) (n6 := ρ 6) (n7 := ρ 7) (n8 := ρ 8) (H0 := η 0) (H1 := η 1) (H2 := η 2) f20 f19 f18 f17 f16 f15 f14 f13 f12 f11 f10 f9 f8 f7 f6 f5 f4 f3 f2 f1 f0
theorem q_309v_3 {n0 n1 n2 n3 n4 n5 n6 n7 n8 : Int} {H0 H1 H2 : gH} (f0 : n0 ≤ 2147483647) (f1 : (-2147483648) ≤ n0) (f2 : n1 ≤ 2147483647) (f3 : (-2147483648) ≤ n1) (f4 : n2 ≤ 2147483647) (f5 : (-2147483648) ≤ n2) (f6 : n3 ≤ 2147483647) (f7 : (-2147483648) ≤ n3) (f8 : n4 = 285) (f9 : hWt T0 H0 ∧ True) (f10 : n5 ≤ 1) (f11 : 0 ≤ n5) (f12 : (hLe T0 H0 H1 ∧ hFr s_308v.2.2.2.2 H0 H1 ∧ ((0 : Int) = 0 → H1.length = H0.length) ∧ hWt T0 H1) ∧ postb_308v n5 n4 n3 H0 H1) (f13 : n5 ≠ 0) (f14 : n6 ≤ 1) (f15 : 0 ≤ n6) (f16 : (hLe T0 H1 H2 ∧ hFr s_308v.2.2.2.2 H1 H2 ∧ ((0 : Int) = 0 → H2.length = H1.length) ∧ hWt T0 H2) ∧ postb_308v n6 n4 n2 H1 H2) (f17 : n6 = 0) (f18 : n7 = 1) (f19 : n0 = n7) (f20 : n8 = (-100)) : postb_309v n8 n4 n3 n2 n1 n0 H0 H2 := by
  unfold postb_308v at f12
  unfold postb_308v at f16
  unfold postb_309v
  have e1 : hV H1 285 64 = hV H0 285 64 := (f12.1.2.1.1 285 64 kF_308v_285_64)
  have e2 : hV H1 328 = hV H0 328 := fRow f12.1.2.1 328 kR_308v_328
  have e4 : hV H2 285 64 = hV H0 285 64 := ((f16.1.2.1.1 285 64 kF_308v_285_64)).trans (f12.1.2.1.1 285 64 kF_308v_285_64)
  have e6 : hV H2 328 = hV H0 328 := (fRow f16.1.2.1 328 kR_308v_328).trans e2
  have e7 : (0 : Int) ≤ hV H0 285 64 ∧ hV H0 285 64 ≤ 20 := bTo e1 (f12.1.2.2.2 285 64 _ _ kW_285_64)
  have r0_0 := f12.2
  have r1_0 := f16.2
  try simp only [e1, e2] at r0_0
  try simp only [e4, e6] at r1_0
  clear e1 e2 e4 e6
  clear f9 f12 f16

  unfold FTm
  first
  | (rw [if_pos (by omega)] <;> omega)
  | (rw [if_neg (by omega)] <;> omega)
def g_309v_s_3 : vG := ([(0, [8], [], -100), (40, [4, 7], [], 0), (0, [7], [], 1), (30, [6], [], 0), (1308, [6, 0, 2], [1, 2], 0), (90, [6], [], 0), (91, [6], [], 1), (31, [5], [], 0), (1308, [5, 0, 1], [0, 1], 0), (90, [5], [], 0), (91, [5], [], 1), (6000, [0, 1, 2, 3, 4], [0], 0), (0, [0], [], 285), (90, [1], [], -2147483648), (91, [1], [], 2147483647), (90, [2], [], -2147483648), (91, [2], [], 2147483647), (90, [3], [], -2147483648), (91, [3], [], 2147483647), (90, [4], [], -2147483648), (91, [4], [], 2147483647)], (3000, [8], [2], 53))
theorem c_309v_s_3 : vOkm T0 (eP e_309v L_309v A_309v mu_309v none) 5 g_309v_s_3 := vOk_inI fun ρ η f0 f1 f2 f3 f4 f5 f6 f7 f8 f9 f10 f11 f12 f13 f14 f15 f16 f17 f18 f19 f20 => q_309v_3 (n0 := ρ 4) (n1 := ρ 3) (n2 := ρ 2) (n3 := ρ 1) (n4 := ρ 0) (n5 := ρ 5) (n6 := ρ 6) (n7 := ρ 7) (n8 := ρ 8) (H0 := η 0) (H1 := η 1) (H2 := η 2) f20 f19 f18 f17 f16 f15 f14 f13 f12 f11 f10 f9 f8 f7 f6 f5 f4 f3 f2 f1 f0
theorem q_309v_4 {n0 n1 n2 n3 n4 n5 n6 n7 n8 : Int} {H0 H1 H2 : gH} (f0 : n0 ≤ 2147483647) (f1 : (-2147483648) ≤ n0) (f2 : n1 ≤ 2147483647) (f3 : (-2147483648) ≤ n1) (f4 : n2 ≤ 2147483647) (f5 : (-2147483648) ≤ n2) (f6 : n3 ≤ 2147483647) (f7 : (-2147483648) ≤ n3) (f8 : n4 = 285) (f9 : hWt T0 H0 ∧ True) (f10 : n5 ≤ 1) (f11 : 0 ≤ n5) (f12 : (hLe T0 H0 H1 ∧ hFr s_308v.2.2.2.2 H0 H1 ∧ ((0 : Int) = 0 → H1.length = H0.length) ∧ hWt T0 H1) ∧ postb_308v n5 n4 n3 H0 H1) (f13 : n5 ≠ 0) (f14 : n6 ≤ 1) (f15 : 0 ≤ n6) (f16 : (hLe T0 H1 H2 ∧ hFr s_308v.2.2.2.2 H1 H2 ∧ ((0 : Int) = 0 → H2.length = H1.length) ∧ hWt T0 H2) ∧ postb_308v n6 n4 n2 H1 H2) (f17 : n6 ≠ 0) (f18 : n3 = n2) (f19 : n7 = 1) (f20 : n0 ≠ n7) (f21 : n8 = (-1)) : postb_309v n8 n4 n3 n2 n1 n0 H0 H2 := by
  unfold postb_308v at f12
  unfold postb_308v at f16
  unfold postb_309v
  have e1 : hV H1 285 64 = hV H0 285 64 := (f12.1.2.1.1 285 64 kF_308v_285_64)
  have e2 : hV H1 328 = hV H0 328 := fRow f12.1.2.1 328 kR_308v_328
  have e4 : hV H2 285 64 = hV H0 285 64 := ((f16.1.2.1.1 285 64 kF_308v_285_64)).trans (f12.1.2.1.1 285 64 kF_308v_285_64)
  have e6 : hV H2 328 = hV H0 328 := (fRow f16.1.2.1 328 kR_308v_328).trans e2
  have e7 : (0 : Int) ≤ hV H0 285 64 ∧ hV H0 285 64 ≤ 20 := bTo e1 (f12.1.2.2.2 285 64 _ _ kW_285_64)
  have r0_0 := f12.2
  have r1_0 := f16.2
  try simp only [e1, e2] at r0_0
  try simp only [e4, e6] at r1_0
  clear e1 e2 e4 e6
  clear f9 f12 f16

  unfold FTm
  first
  | (rw [if_pos (by omega)] <;> omega)
  | (rw [if_neg (by omega)] <;> omega)
def g_309v_s_4 : vG := ([(0, [8], [], -1), (41, [4, 7], [], 0), (0, [7], [], 1), (40, [1, 2], [], 0), (31, [6], [], 0), (1308, [6, 0, 2], [1, 2], 0), (90, [6], [], 0), (91, [6], [], 1), (31, [5], [], 0), (1308, [5, 0, 1], [0, 1], 0), (90, [5], [], 0), (91, [5], [], 1), (6000, [0, 1, 2, 3, 4], [0], 0), (0, [0], [], 285), (90, [1], [], -2147483648), (91, [1], [], 2147483647), (90, [2], [], -2147483648), (91, [2], [], 2147483647), (90, [3], [], -2147483648), (91, [3], [], 2147483647), (90, [4], [], -2147483648), (91, [4], [], 2147483647)], (3000, [8], [2], 53))
theorem c_309v_s_4 : vOkm T0 (eP e_309v L_309v A_309v mu_309v none) 5 g_309v_s_4 := vOk_inI fun ρ η f0 f1 f2 f3 f4 f5 f6 f7 f8 f9 f10 f11 f12 f13 f14 f15 f16 f17 f18 f19 f20 f21 => q_309v_4 (n0 := ρ 4) (n1 := ρ 3) (n2 := ρ 2) (n3 := ρ 1) (n4 := ρ 0) (n5 := ρ 5) (n6 := ρ 6) (n7 := ρ 7) (n8 := ρ 8) (H0 := η 0) (H1 := η 1) (H2 := η 2) f21 f20 f19 f18 f17 f16 f15 f14 f13 f12 f11 f10 f9 f8 f7 f6 f5 f4 f3 f2 f1 f0
theorem q_309v_5 {n0 n1 n2 n3 n4 n5 n6 n7 n8 : Int} {H0 H1 H2 : gH} (f0 : n0 ≤ 2147483647) (f1 : (-2147483648) ≤ n0) (f2 : n1 ≤ 2147483647) (f3 : (-2147483648) ≤ n1) (f4 : n2 ≤ 2147483647) (f5 : (-2147483648) ≤ n2) (f6 : n3 ≤ 2147483647) (f7 : (-2147483648) ≤ n3) (f8 : n4 = 285) (f9 : hWt T0 H0 ∧ True) (f10 : n5 ≤ 1) (f11 : 0 ≤ n5) (f12 : (hLe T0 H0 H1 ∧ hFr s_308v.2.2.2.2 H0 H1 ∧ ((0 : Int) = 0 → H1.length = H0.length) ∧ hWt T0 H1) ∧ postb_308v n5 n4 n3 H0 H1) (f13 : n5 ≠ 0) (f14 : n6 ≤ 1) (f15 : 0 ≤ n6) (f16 : (hLe T0 H1 H2 ∧ hFr s_308v.2.2.2.2 H1 H2 ∧ ((0 : Int) = 0 → H2.length = H1.length) ∧ hWt T0 H2) ∧ postb_308v n6 n4 n2 H1 H2) (f17 : n6 ≠ 0) (f18 : n3 = n2) (f19 : n7 = 1) (f20 : n0 = n7) (f21 : n8 = (-100)) : postb_309v n8 n4 n3 n2 n1 n0 H0 H2 := by
  unfold postb_308v at f12
  unfold postb_308v at f16
  unfold postb_309v
  have e1 : hV H1 285 64 = hV H0 285 64 := (f12.1.2.1.1 285 64 kF_308v_285_64)
  have e2 : hV H1 328 = hV H0 328 := fRow f12.1.2.1 328 kR_308v_328
  have e4 : hV H2 285 64 = hV H0 285 64 := ((f16.1.2.1.1 285 64 kF_308v_285_64)).trans (f12.1.2.1.1 285 64 kF_308v_285_64)
  have e6 : hV H2 328 = hV H0 328 := (fRow f16.1.2.1 328 kR_308v_328).trans e2
  have e7 : (0 : Int) ≤ hV H0 285 64 ∧ hV H0 285 64 ≤ 20 := bTo e1 (f12.1.2.2.2 285 64 _ _ kW_285_64)
  have r0_0 := f12.2
  have r1_0 := f16.2
  try simp only [e1, e2] at r0_0
  try simp only [e4, e6] at r1_0
  clear e1 e2 e4 e6
  clear f9 f12 f16

  unfold FTm
  first
  | (rw [if_pos (by omega)] <;> omega)
  | (rw [if_neg (by omega)] <;> omega)
def g_309v_s_5 : vG := ([(0, [8], [], -100), (40, [4, 7], [], 0), (0, [7], [], 1), (40, [1, 2], [], 0), (31, [6], [], 0), (1308, [6, 0, 2], [1, 2], 0), (90, [6], [], 0), (91, [6], [], 1), (31, [5], [], 0), (1308, [5, 0, 1], [0, 1], 0), (90, [5], [], 0), (91, [5], [], 1), (6000, [0, 1, 2, 3, 4], [0], 0), (0, [0], [], 285), (90, [1], [], -2147483648), (91, [1], [], 2147483647), (90, [2], [], -2147483648), (91, [2], [], 2147483647), (90, [3], [], -2147483648), (91, [3], [], 2147483647), (90, [4], [], -2147483648), (91, [4], [], 2147483647)], (3000, [8], [2], 53))
theorem c_309v_s_5 : vOkm T0 (eP e_309v L_309v A_309v mu_309v none) 5 g_309v_s_5 := vOk_inI fun ρ η f0 f1 f2 f3 f4 f5 f6 f7 f8 f9 f10 f11 f12 f13 f14 f15 f16 f17 f18 f19 f20 f21 => q_309v_5 (n0 := ρ 4) (n1 := ρ 3) (n2 := ρ 2) (n3 := ρ 1) (n4 := ρ 0) (n5 := ρ 5) (n6 := ρ 6) (n7 := ρ 7) (n8 := ρ 8) (H0 := η 0) (H1 := η 1) (H2 := η 2) f21 f20 f19 f18 f17 f16 f15 f14 f13 f12 f11 f10 f9 f8 f7 f6 f5 f4 f3 f2 f1 f0
theorem q_309v_6 {n0 n1 n2 n3 n4 n5 n6 n7 n8 n9 n10 n11 : Int} {H0 H1 H2 H3 : gH} (f0 : n0 ≤ 2147483647) (f1 : (-2147483648) ≤ n0) (f2 : n1 ≤ 2147483647) (f3 : (-2147483648) ≤ n1) (f4 : n2 ≤ 2147483647) (f5 : (-2147483648) ≤ n2) (f6 : n3 ≤ 2147483647) (f7 : (-2147483648) ≤ n3) (f8 : n4 = 285) (f9 : hWt T0 H0 ∧ True) (f10 : n5 ≤ 1) (f11 : 0 ≤ n5) (f12 : (hLe T0 H0 H1 ∧ hFr s_308v.2.2.2.2 H0 H1 ∧ ((0 : Int) = 0 → H1.length = H0.length) ∧ hWt T0 H1) ∧ postb_308v n5 n4 n3 H0 H1) (f13 : n5 ≠ 0) (f14 : n6 ≤ 1) (f15 : 0 ≤ n6) (f16 : (hLe T0 H1 H2 ∧ hFr s_308v.2.2.2.2 H1 H2 ∧ ((0 : Int) = 0 → H2.length = H1.length) ∧ hWt T0 H2) ∧ postb_308v n6 n4 n2 H1 H2) (f17 : n6 ≠ 0) (f18 : n3 ≠ n2) (f19 : n7 = 0) (f20 : n8 = 9) (f21 : n9 ≤ 1) (f22 : 0 ≤ n9) (f23 : (hLe T0 H2 H3 ∧ hFr s_251.2.2.2.2 H2 H3 ∧ ((0 : Int) = 0 → H3.length = H2.length) ∧ hWt T0 H3) ∧ postb_251 n9 n1 n7 n8 H2 H3) (f24 : n9 = 0) (f25 : n10 = 1) (f26 : n0 ≠ n10) (f27 : n11 = (-1)) : postb_309v n11 n4 n3 n2 n1 n0 H0 H3 := by
  unfold postb_308v at f12
  unfold postb_308v at f16
  unfold postb_251 at f23
  unfold postb_309v
  have e1 : hV H1 285 64 = hV H0 285 64 := (f12.1.2.1.1 285 64 kF_308v_285_64)
  have e2 : hV H1 328 = hV H0 328 := fRow f12.1.2.1 328 kR_308v_328
  have e4 : hV H2 285 64 = hV H0 285 64 := ((f16.1.2.1.1 285 64 kF_308v_285_64)).trans (f12.1.2.1.1 285 64 kF_308v_285_64)
  have e6 : hV H2 328 = hV H0 328 := (fRow f16.1.2.1 328 kR_308v_328).trans e2
  have e7 : (0 : Int) ≤ hV H0 285 64 ∧ hV H0 285 64 ≤ 20 := bTo e1 (f12.1.2.2.2 285 64 _ _ kW_285_64)
  have r0_0 := f12.2
  have r1_0 := f16.2
  have r2_0 := f23.2
  try simp only [e1, e2] at r0_0
  try simp only [e4, e6] at r1_0
  clear e1 e2 e4 e6
  clear f9 f12 f16 f23

  unfold FTm
  first
  | (rw [if_pos (by omega)] <;> omega)
  | (rw [if_neg (by omega)] <;> omega)
def g_309v_s_6 : vG := ([(0, [11], [], -1), (41, [4, 10], [], 0), (0, [10], [], 1), (30, [9], [], 0), (1251, [9, 3, 7, 8], [2, 3], 0), (90, [9], [], 0), (91, [9], [], 1), (0, [8], [], 9), (0, [7], [], 0), (41, [1, 2], [], 0), (31, [6], [], 0), (1308, [6, 0, 2], [1, 2], 0), (90, [6], [], 0), (91, [6], [], 1), (31, [5], [], 0), (1308, [5, 0, 1], [0, 1], 0), (90, [5], [], 0), (91, [5], [], 1), (6000, [0, 1, 2, 3, 4], [0], 0), (0, [0], [], 285), (90, [1], [], -2147483648), (91, [1], [], 2147483647), (90, [2], [], -2147483648), (91, [2], [], 2147483647), (90, [3], [], -2147483648), (91, [3], [], 2147483647), (90, [4], [], -2147483648), (91, [4], [], 2147483647)], (3000, [11], [3], 53))
theorem c_309v_s_6 : vOkm T0 (eP e_309v L_309v A_309v mu_309v none) 5 g_309v_s_6 := vOk_inI fun ρ η f0 f1 f2 f3 f4 f5 f6 f7 f8 f9 f10 f11 f12 f13 f14 f15 f16 f17 f18 f19 f20 f21 f22 f23 f24 f25 f26 f27 => q_309v_6 (n0 := ρ 4) (n1 := ρ 3) (n2 := ρ 2) (n3 := ρ 1) (n4 := ρ 0) (n5 := ρ 5) (n6 := ρ 6) (n7 := ρ 7) (n8 := ρ 8) (n9 := ρ 9) (n10 := ρ 10) (n11 := ρ 11) (H0 := η 0) (H1 := η 1) (H2 := η 2) (H3 := η 3) f27 f26 f25 f24 f23 f22 f21 f20 f19 f18 f17 f16 f15 f14 f13 f12 f11 f10 f9 f8 f7 f6 f5 f4 f3 f2 f1 f0
theorem q_309v_7 {n0 n1 n2 n3 n4 n5 n6 n7 n8 n9 n10 n11 : Int} {H0 H1 H2 H3 : gH} (f0 : n0 ≤ 2147483647) (f1 : (-2147483648) ≤ n0) (f2 : n1 ≤ 2147483647) (f3 : (-2147483648) ≤ n1) (f4 : n2 ≤ 2147483647) (f5 : (-2147483648) ≤ n2) (f6 : n3 ≤ 2147483647) (f7 : (-2147483648) ≤ n3) (f8 : n4 = 285) (f9 : hWt T0 H0 ∧ True) (f10 : n5 ≤ 1) (f11 : 0 ≤ n5) (f12 : (hLe T0 H0 H1 ∧ hFr s_308v.2.2.2.2 H0 H1 ∧ ((0 : Int) = 0 → H1.length = H0.length) ∧ hWt T0 H1) ∧ postb_308v n5 n4 n3 H0 H1) (f13 : n5 ≠ 0) (f14 : n6 ≤ 1) (f15 : 0 ≤ n6) (f16 : (hLe T0 H1 H2 ∧ hFr s_308v.2.2.2.2 H1 H2 ∧ ((0 : Int) = 0 → H2.length = H1.length) ∧ hWt T0 H2) ∧ postb_308v n6 n4 n2 H1 H2) (f17 : n6 ≠ 0) (f18 : n3 ≠ n2) (f19 : n7 = 0) (f20 : n8 = 9) (f21 : n9 ≤ 1) (f22 : 0 ≤ n9) (f23 : (hLe T0 H2 H3 ∧ hFr s_251.2.2.2.2 H2 H3 ∧ ((0 : Int) = 0 → H3.length = H2.length) ∧ hWt T0 H3) ∧ postb_251 n9 n1 n7 n8 H2 H3) (f24 : n9 = 0) (f25 : n10 = 1) (f26 : n0 = n10) (f27 : n11 = (-100)) : postb_309v n11 n4 n3 n2 n1 n0 H0 H3 := by
  unfold postb_308v at f12
  unfold postb_308v at f16
  unfold postb_251 at f23
  unfold postb_309v
  have e1 : hV H1 285 64 = hV H0 285 64 := (f12.1.2.1.1 285 64 kF_308v_285_64)
  have e2 : hV H1 328 = hV H0 328 := fRow f12.1.2.1 328 kR_308v_328
  have e4 : hV H2 285 64 = hV H0 285 64 := ((f16.1.2.1.1 285 64 kF_308v_285_64)).trans (f12.1.2.1.1 285 64 kF_308v_285_64)
  have e6 : hV H2 328 = hV H0 328 := (fRow f16.1.2.1 328 kR_308v_328).trans e2
  have e7 : (0 : Int) ≤ hV H0 285 64 ∧ hV H0 285 64 ≤ 20 := bTo e1 (f12.1.2.2.2 285 64 _ _ kW_285_64)
  have r0_0 := f12.2
  have r1_0 := f16.2
  have r2_0 := f23.2
  try simp only [e1, e2] at r0_0
  try simp only [e4, e6] at r1_0
  clear e1 e2 e4 e6
  clear f9 f12 f16 f23

  unfold FTm
  first
  | (rw [if_pos (by omega)] <;> omega)
  | (rw [if_neg (by omega)] <;> omega)
def g_309v_s_7 : vG := ([(0, [11], [], -100), (40, [4, 10], [], 0), (0, [10], [], 1), (30, [9], [], 0), (1251, [9, 3, 7, 8], [2, 3], 0), (90, [9], [], 0), (91, [9], [], 1), (0, [8], [], 9), (0, [7], [], 0), (41, [1, 2], [], 0), (31, [6], [], 0), (1308, [6, 0, 2], [1, 2], 0), (90, [6], [], 0), (91, [6], [], 1), (31, [5], [], 0), (1308, [5, 0, 1], [0, 1], 0), (90, [5], [], 0), (91, [5], [], 1), (6000, [0, 1, 2, 3, 4], [0], 0), (0, [0], [], 285), (90, [1], [], -2147483648), (91, [1], [], 2147483647), (90, [2], [], -2147483648), (91, [2], [], 2147483647), (90, [3], [], -2147483648), (91, [3], [], 2147483647), (90, [4], [], -2147483648), (91, [4], [], 2147483647)], (3000, [11], [3], 53))
theorem c_309v_s_7 : vOkm T0 (eP e_309v L_309v A_309v mu_309v none) 5 g_309v_s_7 := vOk_inI fun ρ η f0 f1 f2 f3 f4 f5 f6 f7 f8 f9 f10 f11 f12 f13 f14 f15 f16 f17 f18 f19 f20 f21 f22 f23 f24 f25 f26 f27 => q_309v_7 (n0 := ρ 4) (n1 := ρ 3) (n2 := ρ 2) (n3 := ρ 1) (n4 := ρ 0) (n5 := ρ 5) (n6 := ρ 6) (n7 := ρ 7) (n8 := ρ 8) (n9 := ρ 9) (n10 := ρ 10) (n11 := ρ 11) (H0 := η 0) (H1 := η 1) (H2 := η 2) (H3 := η 3) f27 f26 f25 f24 f23 f22 f21 f20 f19 f18 f17 f16 f15 f14 f13 f12 f11 f10 f9 f8 f7 f6 f5 f4 f3 f2 f1 f0
theorem q_309v_8 {n0 n1 n2 n3 n4 n5 n6 n7 n8 n9 n10 n11 n12 : Int} {H0 H1 H2 H3 H4 : gH} (f0 : n0 ≤ 2147483647) (f1 : (-2147483648) ≤ n0) (f2 : n1 ≤ 2147483647) (f3 : (-2147483648) ≤ n1) (f4 : n2 ≤ 2147483647) (f5 : (-2147483648) ≤ n2) (f6 : n3 ≤ 2147483647) (f7 : (-2147483648) ≤ n3) (f8 : n4 = 285) (f9 : hWt T0 H0 ∧ True) (f10 : n5 ≤ 1) (f11 : 0 ≤ n5) (f12 : (hLe T0 H0 H1 ∧ hFr s_308v.2.2.2.2 H0 H1 ∧ ((0 : Int) = 0 → H1.length = H0.length) ∧ hWt T0 H1) ∧ postb_308v n5 n4 n3 H0 H1) (f13 : n5 ≠ 0) (f14 : n6 ≤ 1) (f15 : 0 ≤ n6) (f16 : (hLe T0 H1 H2 ∧ hFr s_308v.2.2.2.2 H1 H2 ∧ ((0 : Int) = 0 → H2.length = H1.length) ∧ hWt T0 H2) ∧ postb_308v n6 n4 n2 H1 H2) (f17 : n6 ≠ 0) (f18 : n3 ≠ n2) (f19 : n7 = 0) (f20 : n8 = 9) (f21 : n9 ≤ 1) (f22 : 0 ≤ n9) (f23 : (hLe T0 H2 H3 ∧ hFr s_251.2.2.2.2 H2 H3 ∧ ((0 : Int) = 0 → H3.length = H2.length) ∧ hWt T0 H3) ∧ postb_251 n9 n1 n7 n8 H2 H3) (f24 : n9 ≠ 0) (f25 : n10 = 0) (f26 : n11 = 2) (f27 : n12 ≤ 1) (f28 : 0 ≤ n12) (f29 : (hLe T0 H3 H4 ∧ hFr s_251.2.2.2.2 H3 H4 ∧ ((0 : Int) = 0 → H4.length = H3.length) ∧ hWt T0 H4) ∧ postb_251 n12 n0 n10 n11 H3 H4) (f30 : n12 ≠ 0) : 0 ≤ n3 := by
  unfold postb_308v at f12
  unfold postb_308v at f16
  unfold postb_251 at f23
  unfold postb_251 at f29
  have e1 : hV H1 285 64 = hV H0 285 64 := (f12.1.2.1.1 285 64 kF_308v_285_64)
  have e2 : hV H1 328 = hV H0 328 := fRow f12.1.2.1 328 kR_308v_328
  have e4 : hV H2 285 64 = hV H0 285 64 := ((f16.1.2.1.1 285 64 kF_308v_285_64)).trans (f12.1.2.1.1 285 64 kF_308v_285_64)
  have e6 : hV H2 328 = hV H0 328 := (fRow f16.1.2.1 328 kR_308v_328).trans e2
  have e7 : (0 : Int) ≤ hV H0 285 64 ∧ hV H0 285 64 ≤ 20 := bTo e1 (f12.1.2.2.2 285 64 _ _ kW_285_64)
  have r0_0 := f12.2
  have r1_0 := f16.2
  have r2_0 := f23.2
  have r3_0 := f29.2
  try simp only [e1, e2] at r0_0
  try simp only [e4, e6] at r1_0
  clear e1 e2 e4 e6
  clear f9 f12 f16 f23 f29
  omega
def g_309v_s_8 : vG := ([(31, [12], [], 0), (1251, [12, 4, 10, 11], [3, 4], 0), (90, [12], [], 0), (91, [12], [], 1), (0, [11], [], 2), (0, [10], [], 0), (31, [9], [], 0), (1251, [9, 3, 7, 8], [2, 3], 0), (90, [9], [], 0), (91, [9], [], 1), (0, [8], [], 9), (0, [7], [], 0), (41, [1, 2], [], 0), (31, [6], [], 0), (1308, [6, 0, 2], [1, 2], 0), (90, [6], [], 0), (91, [6], [], 1), (31, [5], [], 0), (1308, [5, 0, 1], [0, 1], 0), (90, [5], [], 0), (91, [5], [], 1), (6000, [0, 1, 2, 3, 4], [0], 0), (0, [0], [], 285), (90, [1], [], -2147483648), (91, [1], [], 2147483647), (90, [2], [], -2147483648), (91, [2], [], 2147483647), (90, [3], [], -2147483648), (91, [3], [], 2147483647), (90, [4], [], -2147483648), (91, [4], [], 2147483647)], (90, [1], [], 0))
theorem c_309v_s_8 : vOkm T0 (eP e_309v L_309v A_309v mu_309v none) 5 g_309v_s_8 := vOk_inI fun ρ η f0 f1 f2 f3 f4 f5 f6 f7 f8 f9 f10 f11 f12 f13 f14 f15 f16 f17 f18 f19 f20 f21 f22 f23 f24 f25 f26 f27 f28 f29 f30 => q_309v_8 (n0 := ρ 4) (n1 := ρ 3) (n2 := ρ 2) (n3 := ρ 1) (n4 := ρ 0) (n5 := ρ 5) (n6 := ρ 6) (n7 := ρ 7) (n8 := ρ 8) (n9 := ρ 9) (n10 := ρ 10) (n11 := ρ 11) (n12 := ρ 12) (H0 := η 0) (H1 := η 1) (H2 := η 2) (H3 := η 3) (H4 := η 4) f30 f29 f28 f27 f26 f25 f24 f23 f22 f21 f20 f19 f18 f17 f16 f15 f14 f13 f12 f11 f10 f9 f8 f7 f6 f5 f4 f3 f2 f1 f0
theorem q_309v_9 {n0 n1 n2 n3 n4 n5 n6 n7 n8 n9 n10 n11 n12 : Int} {H0 H1 H2 H3 H4 : gH} (f0 : n0 ≤ 2147483647) (f1 : (-2147483648) ≤ n0) (f2 : n1 ≤ 2147483647) (f3 : (-2147483648) ≤ n1) (f4 : n2 ≤ 2147483647) (f5 : (-2147483648) ≤ n2) (f6 : n3 ≤ 2147483647) (f7 : (-2147483648) ≤ n3) (f8 : n4 = 285) (f9 : hWt T0 H0 ∧ True) (f10 : n5 ≤ 1) (f11 : 0 ≤ n5) (f12 : (hLe T0 H0 H1 ∧ hFr s_308v.2.2.2.2 H0 H1 ∧ ((0 : Int) = 0 → H1.length = H0.length) ∧ hWt T0 H1) ∧ postb_308v n5 n4 n3 H0 H1) (f13 : n5 ≠ 0) (f14 : n6 ≤ 1) (f15 : 0 ≤ n6) (f16 : (hLe T0 H1 H2 ∧ hFr s_308v.2.2.2.2 H1 H2 ∧ ((0 : Int) = 0 → H2.length = H1.length) ∧ hWt T0 H2) ∧ postb_308v n6 n4 n2 H1 H2) (f17 : n6 ≠ 0) (f18 : n3 ≠ n2) (f19 : n7 = 0) (f20 : n8 = 9) (f21 : n9 ≤ 1) (f22 : 0 ≤ n9) (f23 : (hLe T0 H2 H3 ∧ hFr s_251.2.2.2.2 H2 H3 ∧ ((0 : Int) = 0 → H3.length = H2.length) ∧ hWt T0 H3) ∧ postb_251 n9 n1 n7 n8 H2 H3) (f24 : n9 ≠ 0) (f25 : n10 = 0) (f26 : n11 = 2) (f27 : n12 ≤ 1) (f28 : 0 ≤ n12) (f29 : (hLe T0 H3 H4 ∧ hFr s_251.2.2.2.2 H3 H4 ∧ ((0 : Int) = 0 → H4.length = H3.length) ∧ hWt T0 H4) ∧ postb_251 n12 n0 n10 n11 H3 H4) (f30 : n12 ≠ 0) : n3 ≤ 19 := by
  unfold postb_308v at f12
  unfold postb_308v at f16
  unfold postb_251 at f23
  unfold postb_251 at f29
  have e1 : hV H1 285 64 = hV H0 285 64 := (f12.1.2.1.1 285 64 kF_308v_285_64)
  have e2 : hV H1 328 = hV H0 328 := fRow f12.1.2.1 328 kR_308v_328
  have e4 : hV H2 285 64 = hV H0 285 64 := ((f16.1.2.1.1 285 64 kF_308v_285_64)).trans (f12.1.2.1.1 285 64 kF_308v_285_64)
  have e6 : hV H2 328 = hV H0 328 := (fRow f16.1.2.1 328 kR_308v_328).trans e2
  have e7 : (0 : Int) ≤ hV H0 285 64 ∧ hV H0 285 64 ≤ 20 := bTo e1 (f12.1.2.2.2 285 64 _ _ kW_285_64)
  have r0_0 := f12.2
  have r1_0 := f16.2
  have r2_0 := f23.2
  have r3_0 := f29.2
  try simp only [e1, e2] at r0_0
  try simp only [e4, e6] at r1_0
  clear e1 e2 e4 e6
  clear f9 f12 f16 f23 f29
  omega
def g_309v_s_9 : vG := ([(31, [12], [], 0), (1251, [12, 4, 10, 11], [3, 4], 0), (90, [12], [], 0), (91, [12], [], 1), (0, [11], [], 2), (0, [10], [], 0), (31, [9], [], 0), (1251, [9, 3, 7, 8], [2, 3], 0), (90, [9], [], 0), (91, [9], [], 1), (0, [8], [], 9), (0, [7], [], 0), (41, [1, 2], [], 0), (31, [6], [], 0), (1308, [6, 0, 2], [1, 2], 0), (90, [6], [], 0), (91, [6], [], 1), (31, [5], [], 0), (1308, [5, 0, 1], [0, 1], 0), (90, [5], [], 0), (91, [5], [], 1), (6000, [0, 1, 2, 3, 4], [0], 0), (0, [0], [], 285), (90, [1], [], -2147483648), (91, [1], [], 2147483647), (90, [2], [], -2147483648), (91, [2], [], 2147483647), (90, [3], [], -2147483648), (91, [3], [], 2147483647), (90, [4], [], -2147483648), (91, [4], [], 2147483647)], (91, [1], [], 19))
theorem c_309v_s_9 : vOkm T0 (eP e_309v L_309v A_309v mu_309v none) 5 g_309v_s_9 := vOk_inI fun ρ η f0 f1 f2 f3 f4 f5 f6 f7 f8 f9 f10 f11 f12 f13 f14 f15 f16 f17 f18 f19 f20 f21 f22 f23 f24 f25 f26 f27 f28 f29 f30 => q_309v_9 (n0 := ρ 4) (n1 := ρ 3) (n2 := ρ 2) (n3 := ρ 1) (n4 := ρ 0) (n5 := ρ 5) (n6 := ρ 6) (n7 := ρ 7) (n8 := ρ 8) (n9 := ρ 9) (n10 := ρ 10) (n11 := ρ 11) (n12 := ρ 12) (H0 := η 0) (H1 := η 1) (H2 := η 2) (H3 := η 3) (H4 := η 4) f30 f29 f28 f27 f26 f25 f24 f23 f22 f21 f20 f19 f18 f17 f16 f15 f14 f13 f12 f11 f10 f9 f8 f7 f6 f5 f4 f3 f2 f1 f0
theorem q_309v_10 {n0 n1 n2 n3 n4 n5 n6 n7 n8 n9 n10 n11 n12 : Int} {H0 H1 H2 H3 H4 : gH} (f0 : n0 ≤ 2147483647) (f1 : (-2147483648) ≤ n0) (f2 : n1 ≤ 2147483647) (f3 : (-2147483648) ≤ n1) (f4 : n2 ≤ 2147483647) (f5 : (-2147483648) ≤ n2) (f6 : n3 ≤ 2147483647) (f7 : (-2147483648) ≤ n3) (f8 : n4 = 285) (f9 : hWt T0 H0 ∧ True) (f10 : n5 ≤ 1) (f11 : 0 ≤ n5) (f12 : (hLe T0 H0 H1 ∧ hFr s_308v.2.2.2.2 H0 H1 ∧ ((0 : Int) = 0 → H1.length = H0.length) ∧ hWt T0 H1) ∧ postb_308v n5 n4 n3 H0 H1) (f13 : n5 ≠ 0) (f14 : n6 ≤ 1) (f15 : 0 ≤ n6) (f16 : (hLe T0 H1 H2 ∧ hFr s_308v.2.2.2.2 H1 H2 ∧ ((0 : Int) = 0 → H2.length = H1.length) ∧ hWt T0 H2) ∧ postb_308v n6 n4 n2 H1 H2) (f17 : n6 ≠ 0) (f18 : n3 ≠ n2) (f19 : n7 = 0) (f20 : n8 = 9) (f21 : n9 ≤ 1) (f22 : 0 ≤ n9) (f23 : (hLe T0 H2 H3 ∧ hFr s_251.2.2.2.2 H2 H3 ∧ ((0 : Int) = 0 → H3.length = H2.length) ∧ hWt T0 H3) ∧ postb_251 n9 n1 n7 n8 H2 H3) (f24 : n9 ≠ 0) (f25 : n10 = 0) (f26 : n11 = 2) (f27 : n12 ≤ 1) (f28 : 0 ≤ n12) (f29 : (hLe T0 H3 H4 ∧ hFr s_251.2.2.2.2 H3 H4 ∧ ((0 : Int) = 0 → H4.length = H3.length) ∧ hWt T0 H4) ∧ postb_251 n12 n0 n10 n11 H3 H4) (f30 : n12 ≠ 0) : 0 ≤ n2 := by
  unfold postb_308v at f12
  unfold postb_308v at f16
  unfold postb_251 at f23
  unfold postb_251 at f29
  have e1 : hV H1 285 64 = hV H0 285 64 := (f12.1.2.1.1 285 64 kF_308v_285_64)
  have e2 : hV H1 328 = hV H0 328 := fRow f12.1.2.1 328 kR_308v_328
  have e4 : hV H2 285 64 = hV H0 285 64 := ((f16.1.2.1.1 285 64 kF_308v_285_64)).trans (f12.1.2.1.1 285 64 kF_308v_285_64)
  have e6 : hV H2 328 = hV H0 328 := (fRow f16.1.2.1 328 kR_308v_328).trans e2
  have e7 : (0 : Int) ≤ hV H0 285 64 ∧ hV H0 285 64 ≤ 20 := bTo e1 (f12.1.2.2.2 285 64 _ _ kW_285_64)
  have r0_0 := f12.2
  have r1_0 := f16.2
  have r2_0 := f23.2
  have r3_0 := f29.2
  try simp only [e1, e2] at r0_0
  try simp only [e4, e6] at r1_0
  clear e1 e2 e4 e6
  clear f9 f12 f16 f23 f29
  omega
def g_309v_s_10 : vG := ([(31, [12], [], 0), (1251, [12, 4, 10, 11], [3, 4], 0), (90, [12], [], 0), (91, [12], [], 1), (0, [11], [], 2), (0, [10], [], 0), (31, [9], [], 0), (1251, [9, 3, 7, 8], [2, 3], 0), (90, [9], [], 0), (91, [9], [], 1), (0, [8], [], 9), (0, [7], [], 0), (41, [1, 2], [], 0), (31, [6], [], 0), (1308, [6, 0, 2], [1, 2], 0), (90, [6], [], 0), (91, [6], [], 1), (31, [5], [], 0), (1308, [5, 0, 1], [0, 1], 0), (90, [5], [], 0), (91, [5], [], 1), (6000, [0, 1, 2, 3, 4], [0], 0), (0, [0], [], 285), (90, [1], [], -2147483648), (91, [1], [], 2147483647), (90, [2], [], -2147483648), (91, [2], [], 2147483647), (90, [3], [], -2147483648), (91, [3], [], 2147483647), (90, [4], [], -2147483648), (91, [4], [], 2147483647)], (90, [2], [], 0))
theorem c_309v_s_10 : vOkm T0 (eP e_309v L_309v A_309v mu_309v none) 5 g_309v_s_10 := vOk_inI fun ρ η f0 f1 f2 f3 f4 f5 f6 f7 f8 f9 f10 f11 f12 f13 f14 f15 f16 f17 f18 f19 f20 f21 f22 f23 f24 f25 f26 f27 f28 f29 f30 => q_309v_10 (n0 := ρ 4) (n1 := ρ 3) (n2 := ρ 2) (n3 := ρ 1) (n4 := ρ 0) (n5 := ρ 5) (n6 := ρ 6) (n7 := ρ 7) (n8 := ρ 8) (n9 := ρ 9) (n10 := ρ 10) (n11 := ρ 11) (n12 := ρ 12) (H0 := η 0) (H1 := η 1) (H2 := η 2) (H3 := η 3) (H4 := η 4) f30 f29 f28 f27 f26 f25 f24 f23 f22 f21 f20 f19 f18 f17 f16 f15 f14 f13 f12 f11 f10 f9 f8 f7 f6 f5 f4 f3 f2 f1 f0
theorem q_309v_11 {n0 n1 n2 n3 n4 n5 n6 n7 n8 n9 n10 n11 n12 : Int} {H0 H1 H2 H3 H4 : gH} (f0 : n0 ≤ 2147483647) (f1 : (-2147483648) ≤ n0) (f2 : n1 ≤ 2147483647) (f3 : (-2147483648) ≤ n1) (f4 : n2 ≤ 2147483647) (f5 : (-2147483648) ≤ n2) (f6 : n3 ≤ 2147483647) (f7 : (-2147483648) ≤ n3) (f8 : n4 = 285) (f9 : hWt T0 H0 ∧ True) (f10 : n5 ≤ 1) (f11 : 0 ≤ n5) (f12 : (hLe T0 H0 H1 ∧ hFr s_308v.2.2.2.2 H0 H1 ∧ ((0 : Int) = 0 → H1.length = H0.length) ∧ hWt T0 H1) ∧ postb_308v n5 n4 n3 H0 H1) (f13 : n5 ≠ 0) (f14 : n6 ≤ 1) (f15 : 0 ≤ n6) (f16 : (hLe T0 H1 H2 ∧ hFr s_308v.2.2.2.2 H1 H2 ∧ ((0 : Int) = 0 → H2.length = H1.length) ∧ hWt T0 H2) ∧ postb_308v n6 n4 n2 H1 H2) (f17 : n6 ≠ 0) (f18 : n3 ≠ n2) (f19 : n7 = 0) (f20 : n8 = 9) (f21 : n9 ≤ 1) (f22 : 0 ≤ n9) (f23 : (hLe T0 H2 H3 ∧ hFr s_251.2.2.2.2 H2 H3 ∧ ((0 : Int) = 0 → H3.length = H2.length) ∧ hWt T0 H3) ∧ postb_251 n9 n1 n7 n8 H2 H3) (f24 : n9 ≠ 0) (f25 : n10 = 0) (f26 : n11 = 2) (f27 : n12 ≤ 1) (f28 : 0 ≤ n12) (f29 : (hLe T0 H3 H4 ∧ hFr s_251.2.2.2.2 H3 H4 ∧ ((0 : Int) = 0 → H4.length = H3.length) ∧ hWt T0 H4) ∧ postb_251 n12 n0 n10 n11 H3 H4) (f30 : n12 ≠ 0) : n2 ≤ 19 := by
  unfold postb_308v at f12
  unfold postb_308v at f16
  unfold postb_251 at f23
  unfold postb_251 at f29
  have e1 : hV H1 285 64 = hV H0 285 64 := (f12.1.2.1.1 285 64 kF_308v_285_64)
  have e2 : hV H1 328 = hV H0 328 := fRow f12.1.2.1 328 kR_308v_328
  have e4 : hV H2 285 64 = hV H0 285 64 := ((f16.1.2.1.1 285 64 kF_308v_285_64)).trans (f12.1.2.1.1 285 64 kF_308v_285_64)
  have e6 : hV H2 328 = hV H0 328 := (fRow f16.1.2.1 328 kR_308v_328).trans e2
  have e7 : (0 : Int) ≤ hV H0 285 64 ∧ hV H0 285 64 ≤ 20 := bTo e1 (f12.1.2.2.2 285 64 _ _ kW_285_64)
  have r0_0 := f12.2
  have r1_0 := f16.2
  have r2_0 := f23.2
  have r3_0 := f29.2
  try simp only [e1, e2] at r0_0
  try simp only [e4, e6] at r1_0
  clear e1 e2 e4 e6
  clear f9 f12 f16 f23 f29
  omega
def g_309v_s_11 : vG := ([(31, [12], [], 0), (1251, [12, 4, 10, 11], [3, 4], 0), (90, [12], [], 0), (91, [12], [], 1), (0, [11], [], 2), (0, [10], [], 0), (31, [9], [], 0), (1251, [9, 3, 7, 8], [2, 3], 0), (90, [9], [], 0), (91, [9], [], 1), (0, [8], [], 9), (0, [7], [], 0), (41, [1, 2], [], 0), (31, [6], [], 0), (1308, [6, 0, 2], [1, 2], 0), (90, [6], [], 0), (91, [6], [], 1), (31, [5], [], 0), (1308, [5, 0, 1], [0, 1], 0), (90, [5], [], 0), (91, [5], [], 1), (6000, [0, 1, 2, 3, 4], [0], 0), (0, [0], [], 285), (90, [1], [], -2147483648), (91, [1], [], 2147483647), (90, [2], [], -2147483648), (91, [2], [], 2147483647), (90, [3], [], -2147483648), (91, [3], [], 2147483647), (90, [4], [], -2147483648), (91, [4], [], 2147483647)], (91, [2], [], 19))
theorem c_309v_s_11 : vOkm T0 (eP e_309v L_309v A_309v mu_309v none) 5 g_309v_s_11 := vOk_inI fun ρ η f0 f1 f2 f3 f4 f5 f6 f7 f8 f9 f10 f11 f12 f13 f14 f15 f16 f17 f18 f19 f20 f21 f22 f23 f24 f25 f26 f27 f28 f29 f30 => q_309v_11 (n0 := ρ 4) (n1 := ρ 3) (n2 := ρ 2) (n3 := ρ 1) (n4 := ρ 0) (n5 := ρ 5) (n6 := ρ 6) (n7 := ρ 7) (n8 := ρ 8) (n9 := ρ 9) (n10 := ρ 10) (n11 := ρ 11) (n12 := ρ 12) (H0 := η 0) (H1 := η 1) (H2 := η 2) (H3 := η 3) (H4 := η 4) f30 f29 f28 f27 f26 f25 f24 f23 f22 f21 f20 f19 f18 f17 f16 f15 f14 f13 f12 f11 f10 f9 f8 f7 f6 f5 f4 f3 f2 f1 f0
theorem q_309v_12 {n0 n1 n2 n3 n4 n5 n6 n7 n8 n9 n10 n11 n12 : Int} {H0 H1 H2 H3 H4 : gH} (f0 : n0 ≤ 2147483647) (f1 : (-2147483648) ≤ n0) (f2 : n1 ≤ 2147483647) (f3 : (-2147483648) ≤ n1) (f4 : n2 ≤ 2147483647) (f5 : (-2147483648) ≤ n2) (f6 : n3 ≤ 2147483647) (f7 : (-2147483648) ≤ n3) (f8 : n4 = 285) (f9 : hWt T0 H0 ∧ True) (f10 : n5 ≤ 1) (f11 : 0 ≤ n5) (f12 : (hLe T0 H0 H1 ∧ hFr s_308v.2.2.2.2 H0 H1 ∧ ((0 : Int) = 0 → H1.length = H0.length) ∧ hWt T0 H1) ∧ postb_308v n5 n4 n3 H0 H1) (f13 : n5 ≠ 0) (f14 : n6 ≤ 1) (f15 : 0 ≤ n6) (f16 : (hLe T0 H1 H2 ∧ hFr s_308v.2.2.2.2 H1 H2 ∧ ((0 : Int) = 0 → H2.length = H1.length) ∧ hWt T0 H2) ∧ postb_308v n6 n4 n2 H1 H2) (f17 : n6 ≠ 0) (f18 : n3 ≠ n2) (f19 : n7 = 0) (f20 : n8 = 9) (f21 : n9 ≤ 1) (f22 : 0 ≤ n9) (f23 : (hLe T0 H2 H3 ∧ hFr s_251.2.2.2.2 H2 H3 ∧ ((0 : Int) = 0 → H3.length = H2.length) ∧ hWt T0 H3) ∧ postb_251 n9 n1 n7 n8 H2 H3) (f24 : n9 ≠ 0) (f25 : n10 = 0) (f26 : n11 = 2) (f27 : n12 ≤ 1) (f28 : 0 ≤ n12) (f29 : (hLe T0 H3 H4 ∧ hFr s_251.2.2.2.2 H3 H4 ∧ ((0 : Int) = 0 → H4.length = H3.length) ∧ hWt T0 H4) ∧ postb_251 n12 n0 n10 n11 H3 H4) (f30 : n12 ≠ 0) : preb_307v n4 n3 n2 n1 H4 := by
  unfold postb_308v at f12
  unfold postb_308v at f16
  unfold postb_251 at f23
  unfold postb_251 at f29
  unfold preb_307v
  have e1 : hV H1 285 64 = hV H0 285 64 := (f12.1.2.1.1 285 64 kF_308v_285_64)
  have e2 : hV H1 328 = hV H0 328 := fRow f12.1.2.1 328 kR_308v_328
  have e4 : hV H2 285 64 = hV H0 285 64 := ((f16.1.2.1.1 285 64 kF_308v_285_64)).trans (f12.1.2.1.1 285 64 kF_308v_285_64)
  have e6 : hV H2 328 = hV H0 328 := (fRow f16.1.2.1 328 kR_308v_328).trans e2
  have e7 : (0 : Int) ≤ hV H0 285 64 ∧ hV H0 285 64 ≤ 20 := bTo e1 (f12.1.2.2.2 285 64 _ _ kW_285_64)
  have r0_0 := f12.2
  have r1_0 := f16.2
  have r2_0 := f23.2
  have r3_0 := f29.2
  try simp only [e1, e2] at r0_0
  try simp only [e4, e6] at r1_0
  clear e1 e2 e4 e6
  clear f9 f12 f16 f23 f29
  refine ⟨?_, ?_⟩ <;> first | assumption | omega | trivial
def g_309v_s_12 : vG := ([(31, [12], [], 0), (1251, [12, 4, 10, 11], [3, 4], 0), (90, [12], [], 0), (91, [12], [], 1), (0, [11], [], 2), (0, [10], [], 0), (31, [9], [], 0), (1251, [9, 3, 7, 8], [2, 3], 0), (90, [9], [], 0), (91, [9], [], 1), (0, [8], [], 9), (0, [7], [], 0), (41, [1, 2], [], 0), (31, [6], [], 0), (1308, [6, 0, 2], [1, 2], 0), (90, [6], [], 0), (91, [6], [], 1), (31, [5], [], 0), (1308, [5, 0, 1], [0, 1], 0), (90, [5], [], 0), (91, [5], [], 1), (6000, [0, 1, 2, 3, 4], [0], 0), (0, [0], [], 285), (90, [1], [], -2147483648), (91, [1], [], 2147483647), (90, [2], [], -2147483648), (91, [2], [], 2147483647), (90, [3], [], -2147483648), (91, [3], [], 2147483647), (90, [4], [], -2147483648), (91, [4], [], 2147483647)], (2307, [0, 1, 2, 3], [4], 0))
theorem c_309v_s_12 : vOkm T0 (eP e_309v L_309v A_309v mu_309v none) 5 g_309v_s_12 := vOk_inI fun ρ η f0 f1 f2 f3 f4 f5 f6 f7 f8 f9 f10 f11 f12 f13 f14 f15 f16 f17 f18 f19 f20 f21 f22 f23 f24 f25 f26 f27 f28 f29 f30 => q_309v_12 (n0 := ρ 4) (n1 := ρ 3) (n2 := ρ 2) (n3 := ρ 1) (n4 := ρ 0) (n5 := ρ 5) (n6 := ρ 6) (n7 := ρ 7) (n8 := ρ 8) (n9 := ρ 9) (n10 := ρ 10) (n11 := ρ 11) (n12 := ρ 12) (H0 := η 0) (H1 := η 1) (H2 := η 2) (H3 := η 3) (H4 := η 4) f30 f29 f28 f27 f26 f25 f24 f23 f22 f21 f20 f19 f18 f17 f16 f15 f14 f13 f12 f11 f10 f9 f8 f7 f6 f5 f4 f3 f2 f1 f0
theorem kF_251_285_101 : vFree s_251.2.2.2.2 285 101 = true := by decide +kernel
theorem kF_308v_285_101 : vFree s_308v.2.2.2.2 285 101 = true := by decide +kernel
theorem kF_251_285_102 : vFree s_251.2.2.2.2 285 102 = true := by decide +kernel
theorem kF_308v_285_102 : vFree s_308v.2.2.2.2 285 102 = true := by decide +kernel
theorem q_309v_13 {n0 n1 n2 n3 n4 n5 n6 n7 n8 n9 n10 n11 n12 n13 n14 : Int} {H0 H1 H2 H3 H4 H5 : gH} (f0 : n0 ≤ 2147483647) (f1 : (-2147483648) ≤ n0) (f2 : n1 ≤ 2147483647) (f3 : (-2147483648) ≤ n1) (f4 : n2 ≤ 2147483647) (f5 : (-2147483648) ≤ n2) (f6 : n3 ≤ 2147483647) (f7 : (-2147483648) ≤ n3) (f8 : n4 = 285) (f9 : hWt T0 H0 ∧ True) (f10 : n5 ≤ 1) (f11 : 0 ≤ n5) (f12 : (hLe T0 H0 H1 ∧ hFr s_308v.2.2.2.2 H0 H1 ∧ ((0 : Int) = 0 → H1.length = H0.length) ∧ hWt T0 H1) ∧ postb_308v n5 n4 n3 H0 H1) (f13 : n5 ≠ 0) (f14 : n6 ≤ 1) (f15 : 0 ≤ n6) (f16 : (hLe T0 H1 H2 ∧ hFr s_308v.2.2.2.2 H1 H2 ∧ ((0 : Int) = 0 → H2.length = H1.length) ∧ hWt T0 H2) ∧ postb_308v n6 n4 n2 H1 H2) (f17 : n6 ≠ 0) (f18 : n3 ≠ n2) (f19 : n7 = 0) (f20 : n8 = 9) (f21 : n9 ≤ 1) (f22 : 0 ≤ n9) (f23 : (hLe T0 H2 H3 ∧ hFr s_251.2.2.2.2 H2 H3 ∧ ((0 : Int) = 0 → H3.length = H2.length) ∧ hWt T0 H3) ∧ postb_251 n9 n1 n7 n8 H2 H3) (f24 : n9 ≠ 0) (f25 : n10 = 0) (f26 : n11 = 2) (f27 : n12 ≤ 1) (f28 : 0 ≤ n12) (f29 : (hLe T0 H3 H4 ∧ hFr s_251.2.2.2.2 H3 H4 ∧ ((0 : Int) = 0 → H4.length = H3.length) ∧ hWt T0 H4) ∧ postb_251 n12 n0 n10 n11 H3 H4) (f30 : n12 ≠ 0) (f31 : (hLe T0 H4 H5 ∧ hFr s_307v.2.2.2.2 H4 H5 ∧ ((0 : Int) = 0 → H5.length = H4.length) ∧ hWt T0 H5) ∧ postb_307v n4 n3 n2 n1 H4 H5) (f32 : n0 ≠ 0) (f33 : n13 = 1) (f34 : n0 ≠ n13) (f35 : n14 ≤ 2147483647) (f36 : (-2147483648) ≤ n14) (f37 : n14 = hV H5 (n4).toNat 102) : postb_309v n14 n4 n3 n2 n1 n0 H0 H5 := by
  have lr12 := lkR_fr (x := n3) (y := n2) (sl := n1) f12.1.2.1 (by decide +kernel) (by decide +kernel)
  have lr16 := lkR_fr (x := n3) (y := n2) (sl := n1) f16.1.2.1 (by decide +kernel) (by decide +kernel)
  have lr23 := lkR_fr (x := n3) (y := n2) (sl := n1) f23.1.2.1 (by decide +kernel) (by decide +kernel)
  have lr29 := lkR_fr (x := n3) (y := n2) (sl := n1) f29.1.2.1 (by decide +kernel) (by decide +kernel)
  unfold postb_308v at f12
  unfold postb_308v at f16
  unfold postb_251 at f23
  unfold postb_251 at f29
  unfold postb_307v at f31
  unfold postb_309v
  have e0 : n14 = hV H5 285 102 := (by rw [f8] at f37; exact f37 : n14 = hV H5 285 102)
  have e2 : hV H1 285 64 = hV H0 285 64 := (f12.1.2.1.1 285 64 kF_308v_285_64)
  have e3 : hV H1 328 = hV H0 328 := fRow f12.1.2.1 328 kR_308v_328
  have e5 : hV H2 285 64 = hV H0 285 64 := ((f16.1.2.1.1 285 64 kF_308v_285_64)).trans (f12.1.2.1.1 285 64 kF_308v_285_64)
  have e7 : hV H2 328 = hV H0 328 := (fRow f16.1.2.1 328 kR_308v_328).trans e3
  have e12 : hV H4 285 101 = hV H0 285 101 := ((f29.1.2.1.1 285 101 kF_251_285_101)).trans (((f23.1.2.1.1 285 101 kF_251_285_101)).trans (((f16.1.2.1.1 285 101 kF_308v_285_101)).trans (f12.1.2.1.1 285 101 kF_308v_285_101)))
  have e17 : hV H4 285 102 = hV H0 285 102 := ((f29.1.2.1.1 285 102 kF_251_285_102)).trans (((f23.1.2.1.1 285 102 kF_251_285_102)).trans (((f16.1.2.1.1 285 102 kF_308v_285_102)).trans (f12.1.2.1.1 285 102 kF_308v_285_102)))
  have e18 : (0 : Int) ≤ hV H0 285 64 ∧ hV H0 285 64 ≤ 20 := bTo e2 (f12.1.2.2.2 285 64 _ _ kW_285_64)
  have r0_0 := f12.2
  have r1_0 := f16.2
  have r2_0 := f23.2
  have r3_0 := f29.2
  have r4_0 := f31.2
  try simp only [e2, e3] at r0_0
  try simp only [e5, e7] at r1_0
  try simp only [e12, e17] at r4_0
  clear f37 e2 e3 e5 e7 e12 e17
  clear f9 f12 f16 f23 f29 f31
  subst e0

  rw [lr29, lr23, lr16, lr12] at r4_0
  refine .inl ⟨by unfold FTm; omega, ?_⟩
  rw [← r4_0]
  unfold fitR
  dsimp only
  first
  | (rw [if_pos (by omega)] <;> omega)
  | (rw [if_neg (by omega), if_pos (by omega)] <;> omega)
  | (rw [if_neg (by omega), if_neg (by omega), if_pos (by omega)] <;> omega)
def g_309v_s_13 : vG := ([(20, [14, 0], [5], 102), (90, [14], [], -2147483648), (91, [14], [], 2147483647), (41, [4, 13], [], 0), (0, [13], [], 1), (31, [4], [], 0), (1307, [0, 1, 2, 3], [4, 5], 0), (31, [12], [], 0), (1251, [12, 4, 10, 11], [3, 4], 0), (90, [12], [], 0), (91, [12], [], 1), (0, [11], [], 2), (0, [10], [], 0), (31, [9], [], 0), (1251, [9, 3, 7, 8], [2, 3], 0), (90, [9], [], 0), (91, [9], [], 1), (0, [8], [], 9), (0, [7], [], 0), (41, [1, 2], [], 0), (31, [6], [], 0), (1308, [6, 0, 2], [1, 2], 0), (90, [6], [], 0), (91, [6], [], 1), (31, [5], [], 0), (1308, [5, 0, 1], [0, 1], 0), (90, [5], [], 0), (91, [5], [], 1), (6000, [0, 1, 2, 3, 4], [0], 0), (0, [0], [], 285), (90, [1], [], -2147483648), (91, [1], [], 2147483647), (90, [2], [], -2147483648), (91, [2], [], 2147483647), (90, [3], [], -2147483648), (91, [3], [], 2147483647), (90, [4], [], -2147483648), (91, [4], [], 2147483647)], (3000, [14], [5], 90))
theorem c_309v_s_13 : vOkm T0 (eP e_309v L_309v A_309v mu_309v none) 5 g_309v_s_13 := vOk_inI fun ρ η f0 f1 f2 f3 f4 f5 f6 f7 f8 f9 f10 f11 f12 f13 f14 f15 f16 f17 f18 f19 f20 f21 f22 f23 f24 f25 f26 f27 f28 f29 f30 f31 f32 f33 f34 f35 f36 f37 => q_309v_13 (n0 := ρ 4) (n1 := ρ 3) (n2 := ρ 2) (n3 := ρ 1) (n4 := ρ 0) (n5 := ρ 5) (n6 := ρ 6) (n7 := ρ 7) (n8 := ρ 8) (n9 := ρ 9) (n10 := ρ 10) (n11 := ρ 11) (n12 := ρ 12) (n13 := ρ 13) (n14 := ρ 14) (H0 := η 0) (H1 := η 1) (H2 := η 2) (H3 := η 3) (H4 := η 4) (H5 := η 5) f37 f36 f35 f34 f33 f32 f31 f30 f29 f28 f27 f26 f25 f24 f23 f22 f21 f20 f19 f18 f17 f16 f15 f14 f13 f12 f11 f10 f9 f8 f7 f6 f5 f4 f3 f2 f1 f0
theorem q_309v_14 {n0 n1 n2 n3 n4 n5 n6 n7 n8 n9 n10 n11 n12 n13 n14 : Int} {H0 H1 H2 H3 H4 H5 : gH} (f0 : n0 ≤ 2147483647) (f1 : (-2147483648) ≤ n0) (f2 : n1 ≤ 2147483647) (f3 : (-2147483648) ≤ n1) (f4 : n2 ≤ 2147483647) (f5 : (-2147483648) ≤ n2) (f6 : n3 ≤ 2147483647) (f7 : (-2147483648) ≤ n3) (f8 : n4 = 285) (f9 : hWt T0 H0 ∧ True) (f10 : n5 ≤ 1) (f11 : 0 ≤ n5) (f12 : (hLe T0 H0 H1 ∧ hFr s_308v.2.2.2.2 H0 H1 ∧ ((0 : Int) = 0 → H1.length = H0.length) ∧ hWt T0 H1) ∧ postb_308v n5 n4 n3 H0 H1) (f13 : n5 ≠ 0) (f14 : n6 ≤ 1) (f15 : 0 ≤ n6) (f16 : (hLe T0 H1 H2 ∧ hFr s_308v.2.2.2.2 H1 H2 ∧ ((0 : Int) = 0 → H2.length = H1.length) ∧ hWt T0 H2) ∧ postb_308v n6 n4 n2 H1 H2) (f17 : n6 ≠ 0) (f18 : n3 ≠ n2) (f19 : n7 = 0) (f20 : n8 = 9) (f21 : n9 ≤ 1) (f22 : 0 ≤ n9) (f23 : (hLe T0 H2 H3 ∧ hFr s_251.2.2.2.2 H2 H3 ∧ ((0 : Int) = 0 → H3.length = H2.length) ∧ hWt T0 H3) ∧ postb_251 n9 n1 n7 n8 H2 H3) (f24 : n9 ≠ 0) (f25 : n10 = 0) (f26 : n11 = 2) (f27 : n12 ≤ 1) (f28 : 0 ≤ n12) (f29 : (hLe T0 H3 H4 ∧ hFr s_251.2.2.2.2 H3 H4 ∧ ((0 : Int) = 0 → H4.length = H3.length) ∧ hWt T0 H4) ∧ postb_251 n12 n0 n10 n11 H3 H4) (f30 : n12 ≠ 0) (f31 : (hLe T0 H4 H5 ∧ hFr s_307v.2.2.2.2 H4 H5 ∧ ((0 : Int) = 0 → H5.length = H4.length) ∧ hWt T0 H5) ∧ postb_307v n4 n3 n2 n1 H4 H5) (f32 : n0 ≠ 0) (f33 : n13 = 1) (f34 : n0 = n13) (f35 : n14 ≤ 2147483647) (f36 : (-2147483648) ≤ n14) (f37 : n14 = hV H5 (n4).toNat 101) : postb_309v n14 n4 n3 n2 n1 n0 H0 H5 := by
  have lr12 := lkR_fr (x := n3) (y := n2) (sl := n1) f12.1.2.1 (by decide +kernel) (by decide +kernel)
  have lr16 := lkR_fr (x := n3) (y := n2) (sl := n1) f16.1.2.1 (by decide +kernel) (by decide +kernel)
  have lr23 := lkR_fr (x := n3) (y := n2) (sl := n1) f23.1.2.1 (by decide +kernel) (by decide +kernel)
  have lr29 := lkR_fr (x := n3) (y := n2) (sl := n1) f29.1.2.1 (by decide +kernel) (by decide +kernel)
  unfold postb_308v at f12
  unfold postb_308v at f16
  unfold postb_251 at f23
  unfold postb_251 at f29
  unfold postb_307v at f31
  unfold postb_309v
  have e0 : n14 = hV H5 285 101 := (by rw [f8] at f37; exact f37 : n14 = hV H5 285 101)
  have e2 : hV H1 285 64 = hV H0 285 64 := (f12.1.2.1.1 285 64 kF_308v_285_64)
  have e3 : hV H1 328 = hV H0 328 := fRow f12.1.2.1 328 kR_308v_328
  have e5 : hV H2 285 64 = hV H0 285 64 := ((f16.1.2.1.1 285 64 kF_308v_285_64)).trans (f12.1.2.1.1 285 64 kF_308v_285_64)
  have e7 : hV H2 328 = hV H0 328 := (fRow f16.1.2.1 328 kR_308v_328).trans e3
  have e12 : hV H4 285 101 = hV H0 285 101 := ((f29.1.2.1.1 285 101 kF_251_285_101)).trans (((f23.1.2.1.1 285 101 kF_251_285_101)).trans (((f16.1.2.1.1 285 101 kF_308v_285_101)).trans (f12.1.2.1.1 285 101 kF_308v_285_101)))
  have e17 : hV H4 285 102 = hV H0 285 102 := ((f29.1.2.1.1 285 102 kF_251_285_102)).trans (((f23.1.2.1.1 285 102 kF_251_285_102)).trans (((f16.1.2.1.1 285 102 kF_308v_285_102)).trans (f12.1.2.1.1 285 102 kF_308v_285_102)))
  have e18 : (0 : Int) ≤ hV H0 285 64 ∧ hV H0 285 64 ≤ 20 := bTo e2 (f12.1.2.2.2 285 64 _ _ kW_285_64)
  have r0_0 := f12.2
  have r1_0 := f16.2
  have r2_0 := f23.2
  have r3_0 := f29.2
  have r4_0 := f31.2
  try simp only [e2, e3] at r0_0
  try simp only [e5, e7] at r1_0
  try simp only [e12, e17] at r4_0
  clear f37 e2 e3 e5 e7 e12 e17
  clear f9 f12 f16 f23 f29 f31
  subst e0

  rw [lr29, lr23, lr16, lr12] at r4_0
  refine .inl ⟨by unfold FTm; omega, ?_⟩
  rw [← r4_0]
  unfold fitR
  dsimp only
  first
  | (rw [if_pos (by omega)] <;> omega)
  | (rw [if_neg (by omega), if_pos (by omega)] <;> omega)
  | (rw [if_neg (by omega), if_neg (by omega), if_pos (by omega)] <;> omega)
def g_309v_s_14 : vG := ([(20, [14, 0], [5], 101), (90, [14], [], -2147483648), (91, [14], [], 2147483647), (40, [4, 13], [], 0), (0, [13], [], 1), (31, [4], [], 0), (1307, [0, 1, 2, 3], [4, 5], 0), (31, [12], [], 0), (1251, [12, 4, 10, 11], [3, 4], 0), (90, [12], [], 0), (91, [12], [], 1), (0, [11], [], 2), (0, [10], [], 0), (31, [9], [], 0), (1251, [9, 3, 7, 8], [2, 3], 0), (90, [9], [], 0), (91, [9], [], 1), (0, [8], [], 9), (0, [7], [], 0), (41, [1, 2], [], 0), (31, [6], [], 0), (1308, [6, 0, 2], [1, 2], 0), (90, [6], [], 0), (91, [6], [], 1), (31, [5], [], 0), (1308, [5, 0, 1], [0, 1], 0), (90, [5], [], 0), (91, [5], [], 1), (6000, [0, 1, 2, 3, 4], [0], 0), (0, [0], [], 285), (90, [1], [], -2147483648), (91, [1], [], 2147483647), (90, [2], [], -2147483648), (91, [2], [], 2147483647), (90, [3], [], -2147483648), (91, [3], [], 2147483647), (90, [4], [], -2147483648), (91, [4], [], 2147483647)], (3000, [14], [5], 90))
theorem c_309v_s_14 : vOkm T0 (eP e_309v L_309v A_309v mu_309v none) 5 g_309v_s_14 := vOk_inI fun ρ η f0 f1 f2 f3 f4 f5 f6 f7 f8 f9 f10 f11 f12 f13 f14 f15 f16 f17 f18 f19 f20 f21 f22 f23 f24 f25 f26 f27 f28 f29 f30 f31 f32 f33 f34 f35 f36 f37 => q_309v_14 (n0 := ρ 4) (n1 := ρ 3) (n2 := ρ 2) (n3 := ρ 1) (n4 := ρ 0) (n5 := ρ 5) (n6 := ρ 6) (n7 := ρ 7) (n8 := ρ 8) (n9 := ρ 9) (n10 := ρ 10) (n11 := ρ 11) (n12 := ρ 12) (n13 := ρ 13) (n14 := ρ 14) (H0 := η 0) (H1 := η 1) (H2 := η 2) (H3 := η 3) (H4 := η 4) (H5 := η 5) f37 f36 f35 f34 f33 f32 f31 f30 f29 f28 f27 f26 f25 f24 f23 f22 f21 f20 f19 f18 f17 f16 f15 f14 f13 f12 f11 f10 f9 f8 f7 f6 f5 f4 f3 f2 f1 f0
theorem q_309v_15 {n0 n1 n2 n3 n4 n5 n6 n7 n8 n9 n10 n11 n12 n13 : Int} {H0 H1 H2 H3 H4 H5 : gH} (f0 : n0 ≤ 2147483647) (f1 : (-2147483648) ≤ n0) (f2 : n1 ≤ 2147483647) (f3 : (-2147483648) ≤ n1) (f4 : n2 ≤ 2147483647) (f5 : (-2147483648) ≤ n2) (f6 : n3 ≤ 2147483647) (f7 : (-2147483648) ≤ n3) (f8 : n4 = 285) (f9 : hWt T0 H0 ∧ True) (f10 : n5 ≤ 1) (f11 : 0 ≤ n5) (f12 : (hLe T0 H0 H1 ∧ hFr s_308v.2.2.2.2 H0 H1 ∧ ((0 : Int) = 0 → H1.length = H0.length) ∧ hWt T0 H1) ∧ postb_308v n5 n4 n3 H0 H1) (f13 : n5 ≠ 0) (f14 : n6 ≤ 1) (f15 : 0 ≤ n6) (f16 : (hLe T0 H1 H2 ∧ hFr s_308v.2.2.2.2 H1 H2 ∧ ((0 : Int) = 0 → H2.length = H1.length) ∧ hWt T0 H2) ∧ postb_308v n6 n4 n2 H1 H2) (f17 : n6 ≠ 0) (f18 : n3 ≠ n2) (f19 : n7 = 0) (f20 : n8 = 9) (f21 : n9 ≤ 1) (f22 : 0 ≤ n9) (f23 : (hLe T0 H2 H3 ∧ hFr s_251.2.2.2.2 H2 H3 ∧ ((0 : Int) = 0 → H3.length = H2.length) ∧ hWt T0 H3) ∧ postb_251 n9 n1 n7 n8 H2 H3) (f24 : n9 ≠ 0) (f25 : n10 = 0) (f26 : n11 = 2) (f27 : n12 ≤ 1) (f28 : 0 ≤ n12) (f29 : (hLe T0 H3 H4 ∧ hFr s_251.2.2.2.2 H3 H4 ∧ ((0 : Int) = 0 → H4.length = H3.length) ∧ hWt T0 H4) ∧ postb_251 n12 n0 n10 n11 H3 H4) (f30 : n12 ≠ 0) (f31 : (hLe T0 H4 H5 ∧ hFr s_307v.2.2.2.2 H4 H5 ∧ ((0 : Int) = 0 → H5.length = H4.length) ∧ hWt T0 H5) ∧ postb_307v n4 n3 n2 n1 H4 H5) (f32 : n0 = 0) (f33 : n13 ≤ 2147483647) (f34 : (-2147483648) ≤ n13) (f35 : n13 = hV H5 (n4).toNat 100) : postb_309v n13 n4 n3 n2 n1 n0 H0 H5 := by
  have lr12 := lkR_fr (x := n3) (y := n2) (sl := n1) f12.1.2.1 (by decide +kernel) (by decide +kernel)
  have lr16 := lkR_fr (x := n3) (y := n2) (sl := n1) f16.1.2.1 (by decide +kernel) (by decide +kernel)
  have lr23 := lkR_fr (x := n3) (y := n2) (sl := n1) f23.1.2.1 (by decide +kernel) (by decide +kernel)
  have lr29 := lkR_fr (x := n3) (y := n2) (sl := n1) f29.1.2.1 (by decide +kernel) (by decide +kernel)
  unfold postb_308v at f12
  unfold postb_308v at f16
  unfold postb_251 at f23
  unfold postb_251 at f29
  unfold postb_307v at f31
  unfold postb_309v
  have e0 : n13 = hV H5 285 100 := (by rw [f8] at f35; exact f35 : n13 = hV H5 285 100)
  have e2 : hV H1 285 64 = hV H0 285 64 := (f12.1.2.1.1 285 64 kF_308v_285_64)
  have e3 : hV H1 328 = hV H0 328 := fRow f12.1.2.1 328 kR_308v_328
  have e5 : hV H2 285 64 = hV H0 285 64 := ((f16.1.2.1.1 285 64 kF_308v_285_64)).trans (f12.1.2.1.1 285 64 kF_308v_285_64)
  have e7 : hV H2 328 = hV H0 328 := (fRow f16.1.2.1 328 kR_308v_328).trans e3
  have e12 : hV H4 285 101 = hV H0 285 101 := ((f29.1.2.1.1 285 101 kF_251_285_101)).trans (((f23.1.2.1.1 285 101 kF_251_285_101)).trans (((f16.1.2.1.1 285 101 kF_308v_285_101)).trans (f12.1.2.1.1 285 101 kF_308v_285_101)))
  have e17 : hV H4 285 102 = hV H0 285 102 := ((f29.1.2.1.1 285 102 kF_251_285_102)).trans (((f23.1.2.1.1 285 102 kF_251_285_102)).trans (((f16.1.2.1.1 285 102 kF_308v_285_102)).trans (f12.1.2.1.1 285 102 kF_308v_285_102)))
  have e18 : (0 : Int) ≤ hV H0 285 64 ∧ hV H0 285 64 ≤ 20 := bTo e2 (f12.1.2.2.2 285 64 _ _ kW_285_64)
  have r0_0 := f12.2
  have r1_0 := f16.2
  have r2_0 := f23.2
  have r3_0 := f29.2
  have r4_0 := f31.2
  try simp only [e2, e3] at r0_0
  try simp only [e5, e7] at r1_0
  try simp only [e12, e17] at r4_0
  clear f35 e2 e3 e5 e7 e12 e17
  clear f9 f12 f16 f23 f29 f31
  subst e0

  rw [lr29, lr23, lr16, lr12] at r4_0
  refine .inl ⟨by unfold FTm; omega, ?_⟩
  rw [← r4_0]
  unfold fitR
  dsimp only
  first
  | (rw [if_pos (by omega)] <;> omega)
  | (rw [if_neg (by omega), if_pos (by omega)] <;> omega)
  | (rw [if_neg (by omega), if_neg (by omega), if_pos (by omega)] <;> omega)
def g_309v_s_15 : vG := ([(20, [13, 0], [5], 100), (90, [13], [], -2147483648), (91, [13], [], 2147483647), (30, [4], [], 0), (1307, [0, 1, 2, 3], [4, 5], 0), (31, [12], [], 0), (1251, [12, 4, 10, 11], [3, 4], 0), (90, [12], [], 0), (91, [12], [], 1), (0, [11], [], 2), (0, [10], [], 0), (31, [9], [], 0), (1251, [9, 3, 7, 8], [2, 3], 0), (90, [9], [], 0), (91, [9], [], 1), (0, [8], [], 9), (0, [7], [], 0), (41, [1, 2], [], 0), (31, [6], [], 0), (1308, [6, 0, 2], [1, 2], 0), (90, [6], [], 0), (91, [6], [], 1), (31, [5], [], 0), (1308, [5, 0, 1], [0, 1], 0), (90, [5], [], 0), (91, [5], [], 1), (6000, [0, 1, 2, 3, 4], [0], 0), (0, [0], [], 285), (90, [1], [], -2147483648), (91, [1], [], 2147483647), (90, [2], [], -2147483648), (91, [2], [], 2147483647), (90, [3], [], -2147483648), (91, [3], [], 2147483647), (90, [4], [], -2147483648), (91, [4], [], 2147483647)], (3000, [13], [5], 90))
theorem c_309v_s_15 : vOkm T0 (eP e_309v L_309v A_309v mu_309v none) 5 g_309v_s_15 := vOk_inI fun ρ η f0 f1 f2 f3 f4 f5 f6 f7 f8 f9 f10 f11 f12 f13 f14 f15 f16 f17 f18 f19 f20 f21 f22 f23 f24 f25 f26 f27 f28 f29 f30 f31 f32 f33 f34 f35 => q_309v_15 (n0 := ρ 4) (n1 := ρ 3) (n2 := ρ 2) (n3 := ρ 1) (n4 := ρ 0) (n5 := ρ 5) (n6 := ρ 6) (n7 := ρ 7) (n8 := ρ 8) (n9 := ρ 9) (n10 := ρ 10) (n11 := ρ 11) (n12 := ρ 12) (n13 := ρ 13) (H0 := η 0) (H1 := η 1) (H2 := η 2) (H3 := η 3) (H4 := η 4) (H5 := η 5) f35 f34 f33 f32 f31 f30 f29 f28 f27 f26 f25 f24 f23 f22 f21 f20 f19 f18 f17 f16 f15 f14 f13 f12 f11 f10 f9 f8 f7 f6 f5 f4 f3 f2 f1 f0
theorem q_309v_16 {n0 n1 n2 n3 n4 n5 n6 n7 n8 n9 n10 n11 n12 n13 n14 : Int} {H0 H1 H2 H3 H4 : gH} (f0 : n0 ≤ 2147483647) (f1 : (-2147483648) ≤ n0) (f2 : n1 ≤ 2147483647) (f3 : (-2147483648) ≤ n1) (f4 : n2 ≤ 2147483647) (f5 : (-2147483648) ≤ n2) (f6 : n3 ≤ 2147483647) (f7 : (-2147483648) ≤ n3) (f8 : n4 = 285) (f9 : hWt T0 H0 ∧ True) (f10 : n5 ≤ 1) (f11 : 0 ≤ n5) (f12 : (hLe T0 H0 H1 ∧ hFr s_308v.2.2.2.2 H0 H1 ∧ ((0 : Int) = 0 → H1.length = H0.length) ∧ hWt T0 H1) ∧ postb_308v n5 n4 n3 H0 H1) (f13 : n5 ≠ 0) (f14 : n6 ≤ 1) (f15 : 0 ≤ n6) (f16 : (hLe T0 H1 H2 ∧ hFr s_308v.2.2.2.2 H1 H2 ∧ ((0 : Int) = 0 → H2.length = H1.length) ∧ hWt T0 H2) ∧ postb_308v n6 n4 n2 H1 H2) (f17 : n6 ≠ 0) (f18 : n3 ≠ n2) (f19 : n7 = 0) (f20 : n8 = 9) (f21 : n9 ≤ 1) (f22 : 0 ≤ n9) (f23 : (hLe T0 H2 H3 ∧ hFr s_251.2.2.2.2 H2 H3 ∧ ((0 : Int) = 0 → H3.length = H2.length) ∧ hWt T0 H3) ∧ postb_251 n9 n1 n7 n8 H2 H3) (f24 : n9 ≠ 0) (f25 : n10 = 0) (f26 : n11 = 2) (f27 : n12 ≤ 1) (f28 : 0 ≤ n12) (f29 : (hLe T0 H3 H4 ∧ hFr s_251.2.2.2.2 H3 H4 ∧ ((0 : Int) = 0 → H4.length = H3.length) ∧ hWt T0 H4) ∧ postb_251 n12 n0 n10 n11 H3 H4) (f30 : n12 = 0) (f31 : n13 = 1) (f32 : n0 ≠ n13) (f33 : n14 = (-1)) : postb_309v n14 n4 n3 n2 n1 n0 H0 H4 := by
  unfold postb_308v at f12
  unfold postb_308v at f16
  unfold postb_251 at f23
  unfold postb_251 at f29
  unfold postb_309v
  have e1 : hV H1 285 64 = hV H0 285 64 := (f12.1.2.1.1 285 64 kF_308v_285_64)
  have e2 : hV H1 328 = hV H0 328 := fRow f12.1.2.1 328 kR_308v_328
  have e4 : hV H2 285 64 = hV H0 285 64 := ((f16.1.2.1.1 285 64 kF_308v_285_64)).trans (f12.1.2.1.1 285 64 kF_308v_285_64)
  have e6 : hV H2 328 = hV H0 328 := (fRow f16.1.2.1 328 kR_308v_328).trans e2
  have e7 : (0 : Int) ≤ hV H0 285 64 ∧ hV H0 285 64 ≤ 20 := bTo e1 (f12.1.2.2.2 285 64 _ _ kW_285_64)
  have r0_0 := f12.2
  have r1_0 := f16.2
  have r2_0 := f23.2
  have r3_0 := f29.2
  try simp only [e1, e2] at r0_0
  try simp only [e4, e6] at r1_0
  clear e1 e2 e4 e6
  clear f9 f12 f16 f23 f29

  unfold FTm
  first
  | (rw [if_pos (by omega)] <;> omega)
  | (rw [if_neg (by omega)] <;> omega)
def g_309v_s_16 : vG := ([(0, [14], [], -1), (41, [4, 13], [], 0), (0, [13], [], 1), (30, [12], [], 0), (1251, [12, 4, 10, 11], [3, 4], 0), (90, [12], [], 0), (91, [12], [], 1), (0, [11], [], 2), (0, [10], [], 0), (31, [9], [], 0), (1251, [9, 3, 7, 8], [2, 3], 0), (90, [9], [], 0), (91, [9], [], 1), (0, [8], [], 9), (0, [7], [], 0), (41, [1, 2], [], 0), (31, [6], [], 0), (1308, [6, 0, 2], [1, 2], 0), (90, [6], [], 0), (91, [6], [], 1), (31, [5], [], 0), (1308, [5, 0, 1], [0, 1], 0), (90, [5], [], 0), (91, [5], [], 1), (6000, [0, 1, 2, 3, 4], [0], 0), (0, [0], [], 285), (90, [1], [], -2147483648), (91, [1], [], 2147483647), (90, [2], [], -2147483648), (91, [2], [], 2147483647), (90, [3], [], -2147483648), (91, [3], [], 2147483647), (90, [4], [], -2147483648), (91, [4], [], 2147483647)], (3000, [14], [4], 53))
theorem c_309v_s_16 : vOkm T0 (eP e_309v L_309v A_309v mu_309v none) 5 g_309v_s_16 := vOk_inI fun ρ η f0 f1 f2 f3 f4 f5 f6 f7 f8 f9 f10 f11 f12 f13 f14 f15 f16 f17 f18 f19 f20 f21 f22 f23 f24 f25 f26 f27 f28 f29 f30 f31 f32 f33 => q_309v_16 (n0 := ρ 4) (n1 := ρ 3) (n2 := ρ 2) (n3 := ρ 1) (n4 := ρ 0) (n5 := ρ 5) (n6 := ρ 6) (n7 := ρ 7) (n8 := ρ 8) (n9 := ρ 9) (n10 := ρ 10) (n11 := ρ 11) (n12 := ρ 12) (n13 := ρ 13) (n14 := ρ 14) (H0 := η 0) (H1 := η 1) (H2 := η 2) (H3 := η 3) (H4 := η 4) f33 f32 f31 f30 f29 f28 f27 f26 f25 f24 f23 f22 f21 f20 f19 f18 f17 f16 f15 f14 f13 f12 f11 f10 f9 f8 f7 f6 f5 f4 f3 f2 f1 f0
theorem q_309v_17 {n0 n1 n2 n3 n4 n5 n6 n7 n8 n9 n10 n11 n12 n13 n14 : Int} {H0 H1 H2 H3 H4 : gH} (f0 : n0 ≤ 2147483647) (f1 : (-2147483648) ≤ n0) (f2 : n1 ≤ 2147483647) (f3 : (-2147483648) ≤ n1) (f4 : n2 ≤ 2147483647) (f5 : (-2147483648) ≤ n2) (f6 : n3 ≤ 2147483647) (f7 : (-2147483648) ≤ n3) (f8 : n4 = 285) (f9 : hWt T0 H0 ∧ True) (f10 : n5 ≤ 1) (f11 : 0 ≤ n5) (f12 : (hLe T0 H0 H1 ∧ hFr s_308v.2.2.2.2 H0 H1 ∧ ((0 : Int) = 0 → H1.length = H0.length) ∧ hWt T0 H1) ∧ postb_308v n5 n4 n3 H0 H1) (f13 : n5 ≠ 0) (f14 : n6 ≤ 1) (f15 : 0 ≤ n6) (f16 : (hLe T0 H1 H2 ∧ hFr s_308v.2.2.2.2 H1 H2 ∧ ((0 : Int) = 0 → H2.length = H1.length) ∧ hWt T0 H2) ∧ postb_308v n6 n4 n2 H1 H2) (f17 : n6 ≠ 0) (f18 : n3 ≠ n2) (f19 : n7 = 0) (f20 : n8 = 9) (f21 : n9 ≤ 1) (f22 : 0 ≤ n9) (f23 : (hLe T0 H2 H3 ∧ hFr s_251.2.2.2.2 H2 H3 ∧ ((0 : Int) = 0 → H3.length = H2.length) ∧ hWt T0 H3) ∧ postb_251 n9 n1 n7 n8 H2 H3) (f24 : n9 ≠ 0) (f25 : n10 = 0) (f26 : n11 = 2) (f27 : n12 ≤ 1) (f28 : 0 ≤ n12) (f29 : (hLe T0 H3 H4 ∧ hFr s_251.2.2.2.2 H3 H4 ∧ ((0 : Int) = 0 → H4.length = H3.length) ∧ hWt T0 H4) ∧ postb_251 n12 n0 n10 n11 H3 H4) (f30 : n12 = 0) (f31 : n13 = 1) (f32 : n0 = n13) (f33 : n14 = (-100)) : postb_309v n14 n4 n3 n2 n1 n0 H0 H4 := by
  unfold postb_308v at f12
  unfold postb_308v at f16
  unfold postb_251 at f23
  unfold postb_251 at f29
  unfold postb_309v
  have e1 : hV H1 285 64 = hV H0 285 64 := (f12.1.2.1.1 285 64 kF_308v_285_64)
  have e2 : hV H1 328 = hV H0 328 := fRow f12.1.2.1 328 kR_308v_328
  have e4 : hV H2 285 64 = hV H0 285 64 := ((f16.1.2.1.1 285 64 kF_308v_285_64)).trans (f12.1.2.1.1 285 64 kF_308v_285_64)
  have e6 : hV H2 328 = hV H0 328 := (fRow f16.1.2.1 328 kR_308v_328).trans e2
  have e7 : (0 : Int) ≤ hV H0 285 64 ∧ hV H0 285 64 ≤ 20 := bTo e1 (f12.1.2.2.2 285 64 _ _ kW_285_64)
  have r0_0 := f12.2
  have r1_0 := f16.2
  have r2_0 := f23.2
  have r3_0 := f29.2
  try simp only [e1, e2] at r0_0
  try simp only [e4, e6] at r1_0
  clear e1 e2 e4 e6
  clear f9 f12 f16 f23 f29

  unfold FTm
  first
  | (rw [if_pos (by omega)] <;> omega)
  | (rw [if_neg (by omega)] <;> omega)
def g_309v_s_17 : vG := ([(0, [14], [], -100), (40, [4, 13], [], 0), (0, [13], [], 1), (30, [12], [], 0), (1251, [12, 4, 10, 11], [3, 4], 0), (90, [12], [], 0), (91, [12], [], 1), (0, [11], [], 2), (0, [10], [], 0), (31, [9], [], 0), (1251, [9, 3, 7, 8], [2, 3], 0), (90, [9], [], 0), (91, [9], [], 1), (0, [8], [], 9), (0, [7], [], 0), (41, [1, 2], [], 0), (31, [6], [], 0), (1308, [6, 0, 2], [1, 2], 0), (90, [6], [], 0), (91, [6], [], 1), (31, [5], [], 0), (1308, [5, 0, 1], [0, 1], 0), (90, [5], [], 0), (91, [5], [], 1), (6000, [0, 1, 2, 3, 4], [0], 0), (0, [0], [], 285), (90, [1], [], -2147483648), (91, [1], [], 2147483647), (90, [2], [], -2147483648), (91, [2], [], 2147483647), (90, [3], [], -2147483648), (91, [3], [], 2147483647), (90, [4], [], -2147483648), (91, [4], [], 2147483647)], (3000, [14], [4], 53))
theorem c_309v_s_17 : vOkm T0 (eP e_309v L_309v A_309v mu_309v none) 5 g_309v_s_17 := vOk_inI fun ρ η f0 f1 f2 f3 f4 f5 f6 f7 f8 f9 f10 f11 f12 f13 f14 f15 f16 f17 f18 f19 f20 f21 f22 f23 f24 f25 f26 f27 f28 f29 f30 f31 f32 f33 => q_309v_17 (n0 := ρ 4) (n1 := ρ 3) (n2 := ρ 2) (n3 := ρ 1) (n4 := ρ 0) (n5 := ρ 5) (n6 := ρ 6) (n7 := ρ 7) (n8 := ρ 8) (n9 := ρ 9) (n10 := ρ 10) (n11 := ρ 11) (n12 := ρ 12) (n13 := ρ 13) (n14 := ρ 14) (H0 := η 0) (H1 := η 1) (H2 := η 2) (H3 := η 3) (H4 := η 4) f33 f32 f31 f30 f29 f28 f27 f26 f25 f24 f23 f22 f21 f20 f19 f18 f17 f16 f15 f14 f13 f12 f11 f10 f9 f8 f7 f6 f5 f4 f3 f2 f1 f0
def p_309v_s : List vG := [g_309v_s_0,
  g_309v_s_1,
  g_309v_s_2,
  g_309v_s_3,
  g_309v_s_4,
  g_309v_s_5,
  g_309v_s_6,
  g_309v_s_7,
  g_309v_s_8,
  g_309v_s_9,
  g_309v_s_10,
  g_309v_s_11,
  g_309v_s_12,
  g_309v_s_13,
  g_309v_s_14,
  g_309v_s_15,
  g_309v_s_16,
  g_309v_s_17]
theorem r_309v_s : vCovO false (eR0 e_309v L_309v cs_309v 2000) p_309v_s = true := by decide +kernel
theorem m_309v (d : Nat) : eC e_309v (d + 3) := eC_ok (e := e_309v) (L := L_309v) (cs := cs_309v) (n := 2000) (d := d + 2) (A := A_309v) (μ := mu_309v) (tp := false) (p0 := p_309v_s) rfl ⟨m_251 (d + 1), ⟨m_307v d, ⟨m_308v d, trivial⟩⟩⟩ rfl (.inr pre0_ok) (by decide +kernel) (fun z => nomatch z) r_309v_s (allC c_309v_s_0 (allC c_309v_s_1 (allC c_309v_s_2 (allC c_309v_s_3 (allC c_309v_s_4 (allC c_309v_s_5 (allC c_309v_s_6 (allC c_309v_s_7 (allC c_309v_s_8 (allC c_309v_s_9 (allC c_309v_s_10 (allC c_309v_s_11 (allC c_309v_s_12 (allC c_309v_s_13 (allC c_309v_s_14 (allC c_309v_s_15 (allC c_309v_s_16 (allC c_309v_s_17 allN)))))))))))))))))) allN
