/- Reader.isCue (I)Z -/
noncomputable def s_73v : vM := ([(0, -2147483648, 2147483647, 0)], (0, 0, 1, 0), 0, 0, [])
def postb_73v (r a0 : Int) (h0 h : gH) : Prop := (r = 1 ∧ 20 ≤ a0 ∧ a0 ≤ 25) ∨ (r = 0 ∧ ¬ (20 ≤ a0 ∧ a0 ≤ 25))
def post_73v : List Int → gH → gH → Prop := fun xs h0 h => match xs with
  | [r, a0] => postb_73v r a0 h0 h
  | _ => True
noncomputable def e_73v : vE := (73, s_73v, pre0, post_73v)
noncomputable def L_73v : List vE := []
def cs_73v : List vC := []
def A_73v : Int → List Int → gH → gH → Prop := fun c xs h0 h => True
def mu_73v : Int → List Int → gH → gH → Nat := fun c xs h0 h => 0
theorem q_73v_0 {n0 n1 n2 : Int} {H0 : gH} (f0 : n0 ≤ 2147483647) (f1 : (-2147483648) ≤ n0) (f2 : hWt T0 H0 ∧ True) (f3 : n1 = 20) (f4 : n0 < n1) (f5 : n2 = 0) : postb_73v n2 n0 H0 H0 := by
  unfold postb_73v

  omega
theorem c_73v_s_0 : vOkm T0 (eP e_73v L_73v A_73v mu_73v none) 1 ([(0, [2], [], 0), (42, [0, 1], [], 0), (0, [1], [], 20), (6000, [0], [0], 0), (90, [0], [], -2147483648), (91, [0], [], 2147483647)], (3000, [2], [0], 17)) := vOk_in fun ρ η h => by
  obtain ⟨f0, f1, f2, f3, f4, f5, _⟩ := h
  exact q_73v_0 (n0 := ρ 0) (n1 := ρ 1) (n2 := ρ 2) (H0 := η 0) f5 f4 f3 f2 f1 f0
theorem q_73v_1 {n0 n1 n2 n3 : Int} {H0 : gH} (f0 : n0 ≤ 2147483647) (f1 : (-2147483648) ≤ n0) (f2 : hWt T0 H0 ∧ True) (f3 : n1 = 20) (f4 : n1 ≤ n0) (f5 : n2 = 25) (f6 : n2 < n0) (f7 : n3 = 0) : postb_73v n3 n0 H0 H0 := by
  unfold postb_73v

  omega
theorem c_73v_s_1 : vOkm T0 (eP e_73v L_73v A_73v mu_73v none) 1 ([(0, [3], [], 0), (44, [0, 2], [], 0), (0, [2], [], 25), (43, [0, 1], [], 0), (0, [1], [], 20), (6000, [0], [0], 0), (90, [0], [], -2147483648), (91, [0], [], 2147483647)], (3000, [3], [0], 17)) := vOk_in fun ρ η h => by
  obtain ⟨f0, f1, f2, f3, f4, f5, f6, f7, _⟩ := h
  exact q_73v_1 (n0 := ρ 0) (n1 := ρ 1) (n2 := ρ 2) (n3 := ρ 3) (H0 := η 0) f7 f6 f5 f4 f3 f2 f1 f0
theorem q_73v_2 {n0 n1 n2 n3 : Int} {H0 : gH} (f0 : n0 ≤ 2147483647) (f1 : (-2147483648) ≤ n0) (f2 : hWt T0 H0 ∧ True) (f3 : n1 = 20) (f4 : n1 ≤ n0) (f5 : n2 = 25) (f6 : n0 ≤ n2) (f7 : n3 = 1) : postb_73v n3 n0 H0 H0 := by
  unfold postb_73v

  omega
theorem c_73v_s_2 : vOkm T0 (eP e_73v L_73v A_73v mu_73v none) 1 ([(0, [3], [], 1), (45, [0, 2], [], 0), (0, [2], [], 25), (43, [0, 1], [], 0), (0, [1], [], 20), (6000, [0], [0], 0), (90, [0], [], -2147483648), (91, [0], [], 2147483647)], (3000, [3], [0], 17)) := vOk_in fun ρ η h => by
  obtain ⟨f0, f1, f2, f3, f4, f5, f6, f7, _⟩ := h
  exact q_73v_2 (n0 := ρ 0) (n1 := ρ 1) (n2 := ρ 2) (n3 := ρ 3) (H0 := η 0) f7 f6 f5 f4 f3 f2 f1 f0
def p_73v_s : List vG := [([(0, [2], [], 0), (42, [0, 1], [], 0), (0, [1], [], 20), (6000, [0], [0], 0), (90, [0], [], -2147483648), (91, [0], [], 2147483647)], (3000, [2], [0], 17)),
  ([(0, [3], [], 0), (44, [0, 2], [], 0), (0, [2], [], 25), (43, [0, 1], [], 0), (0, [1], [], 20), (6000, [0], [0], 0), (90, [0], [], -2147483648), (91, [0], [], 2147483647)], (3000, [3], [0], 17)),
  ([(0, [3], [], 1), (45, [0, 2], [], 0), (0, [2], [], 25), (43, [0, 1], [], 0), (0, [1], [], 20), (6000, [0], [0], 0), (90, [0], [], -2147483648), (91, [0], [], 2147483647)], (3000, [3], [0], 17))]
theorem r_73v_s : vCovO false (eR0 e_73v L_73v cs_73v 2000) p_73v_s = true := by decide +kernel
theorem m_73v (d : Nat) : eC e_73v (d + 1) := eC_ok (e := e_73v) (L := L_73v) (cs := cs_73v) (n := 2000) (d := d + 0) (A := A_73v) (μ := mu_73v) (tp := false) (p0 := p_73v_s) rfl trivial rfl (.inr pre0_ok) (by decide +kernel) (fun z => nomatch z) r_73v_s (allC c_73v_s_0 (allC c_73v_s_1 (allC c_73v_s_2 allN))) allN
/- Reader.isRule (I)Z -/
noncomputable def s_85v : vM := ([(0, -2147483648, 2147483647, 0)], (0, 0, 1, 0), 0, 0, [])
def postb_85v (r a0 : Int) (h0 h : gH) : Prop := (r = 1 ∧ (a0 = 38 ∨ a0 = 40)) ∨ (r = 0 ∧ ¬ (a0 = 38 ∨ a0 = 40))
def post_85v : List Int → gH → gH → Prop := fun xs h0 h => match xs with
  | [r, a0] => postb_85v r a0 h0 h
  | _ => True
noncomputable def e_85v : vE := (85, s_85v, pre0, post_85v)
noncomputable def L_85v : List vE := []
def cs_85v : List vC := []
def A_85v : Int → List Int → gH → gH → Prop := fun c xs h0 h => True
def mu_85v : Int → List Int → gH → gH → Nat := fun c xs h0 h => 0
theorem q_85v_0 {n0 n1 n2 : Int} {H0 : gH} (f0 : n0 ≤ 2147483647) (f1 : (-2147483648) ≤ n0) (f2 : hWt T0 H0 ∧ True) (f3 : n1 = 38) (f4 : n0 = n1) (f5 : n2 = 1) : postb_85v n2 n0 H0 H0 := by
  unfold postb_85v

  omega
theorem c_85v_s_0 : vOkm T0 (eP e_85v L_85v A_85v mu_85v none) 1 ([(0, [2], [], 1), (40, [0, 1], [], 0), (0, [1], [], 38), (6000, [0], [0], 0), (90, [0], [], -2147483648), (91, [0], [], 2147483647)], (3000, [2], [0], 17)) := vOk_in fun ρ η h => by
  obtain ⟨f0, f1, f2, f3, f4, f5, _⟩ := h
  exact q_85v_0 (n0 := ρ 0) (n1 := ρ 1) (n2 := ρ 2) (H0 := η 0) f5 f4 f3 f2 f1 f0
theorem q_85v_1 {n0 n1 n2 n3 : Int} {H0 : gH} (f0 : n0 ≤ 2147483647) (f1 : (-2147483648) ≤ n0) (f2 : hWt T0 H0 ∧ True) (f3 : n1 = 38) (f4 : n0 ≠ n1) (f5 : n2 = 40) (f6 : n0 ≠ n2) (f7 : n3 = 0) : postb_85v n3 n0 H0 H0 := by
  unfold postb_85v

  omega
theorem c_85v_s_1 : vOkm T0 (eP e_85v L_85v A_85v mu_85v none) 1 ([(0, [3], [], 0), (41, [0, 2], [], 0), (0, [2], [], 40), (41, [0, 1], [], 0), (0, [1], [], 38), (6000, [0], [0], 0), (90, [0], [], -2147483648), (91, [0], [], 2147483647)], (3000, [3], [0], 17)) := vOk_in fun ρ η h => by
  obtain ⟨f0, f1, f2, f3, f4, f5, f6, f7, _⟩ := h
  exact q_85v_1 (n0 := ρ 0) (n1 := ρ 1) (n2 := ρ 2) (n3 := ρ 3) (H0 := η 0) f7 f6 f5 f4 f3 f2 f1 f0
theorem q_85v_2 {n0 n1 n2 n3 : Int} {H0 : gH} (f0 : n0 ≤ 2147483647) (f1 : (-2147483648) ≤ n0) (f2 : hWt T0 H0 ∧ True) (f3 : n1 = 38) (f4 : n0 ≠ n1) (f5 : n2 = 40) (f6 : n0 = n2) (f7 : n3 = 1) : postb_85v n3 n0 H0 H0 := by
  unfold postb_85v

  omega
theorem c_85v_s_2 : vOkm T0 (eP e_85v L_85v A_85v mu_85v none) 1 ([(0, [3], [], 1), (40, [0, 2], [], 0), (0, [2], [], 40), (41, [0, 1], [], 0), (0, [1], [], 38), (6000, [0], [0], 0), (90, [0], [], -2147483648), (91, [0], [], 2147483647)], (3000, [3], [0], 17)) := vOk_in fun ρ η h => by
  obtain ⟨f0, f1, f2, f3, f4, f5, f6, f7, _⟩ := h
  exact q_85v_2 (n0 := ρ 0) (n1 := ρ 1) (n2 := ρ 2) (n3 := ρ 3) (H0 := η 0) f7 f6 f5 f4 f3 f2 f1 f0
def p_85v_s : List vG := [([(0, [2], [], 1), (40, [0, 1], [], 0), (0, [1], [], 38), (6000, [0], [0], 0), (90, [0], [], -2147483648), (91, [0], [], 2147483647)], (3000, [2], [0], 17)),
  ([(0, [3], [], 0), (41, [0, 2], [], 0), (0, [2], [], 40), (41, [0, 1], [], 0), (0, [1], [], 38), (6000, [0], [0], 0), (90, [0], [], -2147483648), (91, [0], [], 2147483647)], (3000, [3], [0], 17)),
  ([(0, [3], [], 1), (40, [0, 2], [], 0), (0, [2], [], 40), (41, [0, 1], [], 0), (0, [1], [], 38), (6000, [0], [0], 0), (90, [0], [], -2147483648), (91, [0], [], 2147483647)], (3000, [3], [0], 17))]
theorem r_85v_s : vCovO false (eR0 e_85v L_85v cs_85v 2000) p_85v_s = true := by decide +kernel
theorem m_85v (d : Nat) : eC e_85v (d + 1) := eC_ok (e := e_85v) (L := L_85v) (cs := cs_85v) (n := 2000) (d := d + 0) (A := A_85v) (μ := mu_85v) (tp := false) (p0 := p_85v_s) rfl trivial rfl (.inr pre0_ok) (by decide +kernel) (fun z => nomatch z) r_85v_s (allC c_85v_s_0 (allC c_85v_s_1 (allC c_85v_s_2 allN))) allN
/- Reader.cueAt (II)LMixStage$Cue; -/
noncomputable def s_74v : vM := ([(3, 4, 30, 0), (0, -2147483648, 2147483647, 0), (0, -2147483648, 2147483647, 0)], (2, 1, -1, 0), 1, 0, [])
def preb_74v (a0 a1 a2 : Int) (h : gH) : Prop := CU h ∧ 0 ≤ a1 ∧ a1 ≤ 6 ∧ 0 ≤ a2 ∧ a2 ≤ 16
def pre_74v : List Int → gH → Prop := fun xs h => match xs with
  | [a0, a1, a2] => preb_74v a0 a1 a2 h
  | _ => False
def postb_74v (r a0 a1 a2 : Int) (h0 h : gH) : Prop := (a2 < 16 → 0 ≤ r ∧ hK h (r).toNat = 1) ∧ (16 ≤ a2 → r = -1)
def post_74v : List Int → gH → gH → Prop := fun xs h0 h => match xs with
  | [r, a0, a1, a2] => postb_74v r a0 a1 a2 h0 h
  | _ => True
noncomputable def e_74v : vE := (74, s_74v, pre_74v, post_74v)
noncomputable def L_74v : List vE := []
def cs_74v : List vC := []
def A_74v : Int → List Int → gH → gH → Prop := fun c xs h0 h => True
def mu_74v : Int → List Int → gH → gH → Nat := fun c xs h0 h => 0
theorem q_74v_0 {n0 n1 n2 n3 n4 n5 n6 : Int} {H0 : gH} (f0 : n0 ≤ 2147483647) (f1 : (-2147483648) ≤ n0) (f2 : n1 ≤ 2147483647) (f3 : (-2147483648) ≤ n1) (f4 : n2 = 30) (f5 : hWt T0 H0 ∧ preb_74v n2 n1 n0 H0) (f6 : n3 = 16) (f7 : n4 = w32 (n1 * n3)) (f8 : n5 = w32 (n4 + n0)) (f9 : n0 < 0) (f10 : n6 = -1) : postb_74v n6 n2 n1 n0 H0 H0 := by
  have pz := f5.2
  unfold preb_74v at pz
  unfold postb_74v
  have wq7 := f7
  rw [f6] at wq7
  unfold w32 at wq7
  have wq8 := f8
  unfold w32 at wq8
  exact ⟨fun _ => by omega, fun _ => by omega⟩
theorem c_74v_s_0 : vOkm T0 (eP e_74v L_74v A_74v mu_74v none) 3 ([(50, [6], [], 0), (32, [2], [], 0), (1, [5, 4, 2], [], 0), (3, [4, 1, 3], [], 0), (0, [3], [], 16), (6000, [0, 1, 2], [0], 0), (0, [0], [], 30), (90, [1], [], -2147483648), (91, [1], [], 2147483647), (90, [2], [], -2147483648), (91, [2], [], 2147483647)], (3000, [6], [0], 40)) := vOk_in fun ρ η h => by
  obtain ⟨f0, f1, f2, f3, f4, f5, f6, f7, f8, f9, f10, _⟩ := h
  exact q_74v_0 (n0 := ρ 2) (n1 := ρ 1) (n2 := ρ 0) (n3 := ρ 3) (n4 := ρ 4) (n5 := ρ 5) (n6 := ρ 6) (H0 := η 0) f10 f9 f8 f7 f6 f5 f4 f3 f2 f1 f0
theorem q_74v_1 {n0 n1 n2 n3 n4 n5 n6 n7 : Int} {H0 : gH} (f0 : n0 ≤ 2147483647) (f1 : (-2147483648) ≤ n0) (f2 : n1 ≤ 2147483647) (f3 : (-2147483648) ≤ n1) (f4 : n2 = 30) (f5 : hWt T0 H0 ∧ preb_74v n2 n1 n0 H0) (f6 : n3 = 16) (f7 : n4 = w32 (n1 * n3)) (f8 : n5 = w32 (n4 + n0)) (f9 : 0 ≤ n0) (f10 : n6 = 16) (f11 : n6 ≤ n0) (f12 : n7 = -1) : postb_74v n7 n2 n1 n0 H0 H0 := by
  have pz := f5.2
  unfold preb_74v at pz
  unfold postb_74v
  have wq7 := f7
  rw [f6] at wq7
  unfold w32 at wq7
  have wq8 := f8
  unfold w32 at wq8
  exact ⟨fun _ => by omega, fun _ => by omega⟩
theorem c_74v_s_1 : vOkm T0 (eP e_74v L_74v A_74v mu_74v none) 3 ([(50, [7], [], 0), (43, [2, 6], [], 0), (0, [6], [], 16), (33, [2], [], 0), (1, [5, 4, 2], [], 0), (3, [4, 1, 3], [], 0), (0, [3], [], 16), (6000, [0, 1, 2], [0], 0), (0, [0], [], 30), (90, [1], [], -2147483648), (91, [1], [], 2147483647), (90, [2], [], -2147483648), (91, [2], [], 2147483647)], (3000, [7], [0], 40)) := vOk_in fun ρ η h => by
  obtain ⟨f0, f1, f2, f3, f4, f5, f6, f7, f8, f9, f10, f11, f12, _⟩ := h
  exact q_74v_1 (n0 := ρ 2) (n1 := ρ 1) (n2 := ρ 0) (n3 := ρ 3) (n4 := ρ 4) (n5 := ρ 5) (n6 := ρ 6) (n7 := ρ 7) (H0 := η 0) f12 f11 f10 f9 f8 f7 f6 f5 f4 f3 f2 f1 f0
theorem q_74v_2 {n0 n1 n2 n3 n4 n5 n6 n7 : Int} {H0 : gH} (f0 : n0 ≤ 2147483647) (f1 : (-2147483648) ≤ n0) (f2 : n1 ≤ 2147483647) (f3 : (-2147483648) ≤ n1) (f4 : n2 = 30) (f5 : hWt T0 H0 ∧ preb_74v n2 n1 n0 H0) (f6 : n3 = 16) (f7 : n4 = w32 (n1 * n3)) (f8 : n5 = w32 (n4 + n0)) (f9 : 0 ≤ n0) (f10 : n6 = 16) (f11 : n0 < n6) (f12 : n5 < 0) (f13 : n7 = -1) : postb_74v n7 n2 n1 n0 H0 H0 := by
  have pz := f5.2
  unfold preb_74v at pz
  unfold postb_74v
  have wq7 := f7
  rw [f6] at wq7
  unfold w32 at wq7
  have wq8 := f8
  unfold w32 at wq8
  exact ⟨fun _ => by omega, fun _ => by omega⟩
theorem c_74v_s_2 : vOkm T0 (eP e_74v L_74v A_74v mu_74v none) 3 ([(50, [7], [], 0), (32, [5], [], 0), (42, [2, 6], [], 0), (0, [6], [], 16), (33, [2], [], 0), (1, [5, 4, 2], [], 0), (3, [4, 1, 3], [], 0), (0, [3], [], 16), (6000, [0, 1, 2], [0], 0), (0, [0], [], 30), (90, [1], [], -2147483648), (91, [1], [], 2147483647), (90, [2], [], -2147483648), (91, [2], [], 2147483647)], (3000, [7], [0], 40)) := vOk_in fun ρ η h => by
  obtain ⟨f0, f1, f2, f3, f4, f5, f6, f7, f8, f9, f10, f11, f12, f13, _⟩ := h
  exact q_74v_2 (n0 := ρ 2) (n1 := ρ 1) (n2 := ρ 0) (n3 := ρ 3) (n4 := ρ 4) (n5 := ρ 5) (n6 := ρ 6) (n7 := ρ 7) (H0 := η 0) f13 f12 f11 f10 f9 f8 f7 f6 f5 f4 f3 f2 f1 f0
theorem q_74v_3 {n0 n1 n2 n3 n4 n5 n6 n7 n8 n9 : Int} {H0 : gH} (f0 : n0 ≤ 2147483647) (f1 : (-2147483648) ≤ n0) (f2 : n1 ≤ 2147483647) (f3 : (-2147483648) ≤ n1) (f4 : n2 = 30) (f5 : hWt T0 H0 ∧ preb_74v n2 n1 n0 H0) (f6 : n3 = 16) (f7 : n4 = w32 (n1 * n3)) (f8 : n5 = w32 (n4 + n0)) (f9 : 0 ≤ n0) (f10 : n6 = 16) (f11 : n0 < n6) (f12 : 0 ≤ n5) (f13 : n7 = 45) (f14 : n7 = hV H0 (n2).toNat 9) (f15 : n8 = (hN H0 (n7).toNat : Int)) (f16 : n8 = 112) (f17 : n5 < n8) (f18 : n9 = 45) (f19 : n9 = hV H0 (n2).toNat 9) : 0 ≤ n5 ∧ n5 < 112 := by
  unfold preb_74v at f5
  unfold w32 at *
  omega
theorem c_74v_s_3 : vOkm T0 (eP e_74v L_74v A_74v mu_74v none) 3 ([(20, [9, 0], [0], 9), (0, [9], [], 45), (42, [5, 8], [], 0), (0, [8], [], 112), (21, [8, 7], [0], 0), (20, [7, 0], [0], 9), (0, [7], [], 45), (33, [5], [], 0), (42, [2, 6], [], 0), (0, [6], [], 16), (33, [2], [], 0), (1, [5, 4, 2], [], 0), (3, [4, 1, 3], [], 0), (0, [3], [], 16), (6000, [0, 1, 2], [0], 0), (0, [0], [], 30), (90, [1], [], -2147483648), (91, [1], [], 2147483647), (90, [2], [], -2147483648), (91, [2], [], 2147483647)], (70, [5], [], 112)) := vOk_in fun ρ η h => by
  obtain ⟨f0, f1, f2, f3, f4, f5, f6, f7, f8, f9, f10, f11, f12, f13, f14, f15, f16, f17, f18, f19, _⟩ := h
  exact q_74v_3 (n0 := ρ 2) (n1 := ρ 1) (n2 := ρ 0) (n3 := ρ 3) (n4 := ρ 4) (n5 := ρ 5) (n6 := ρ 6) (n7 := ρ 7) (n8 := ρ 8) (n9 := ρ 9) (H0 := η 0) f19 f18 f17 f16 f15 f14 f13 f12 f11 f10 f9 f8 f7 f6 f5 f4 f3 f2 f1 f0
theorem q_74v_4 {n0 n1 n2 n3 n4 n5 n6 n7 n8 n9 n10 : Int} {H0 : gH} (f0 : n0 ≤ 2147483647) (f1 : (-2147483648) ≤ n0) (f2 : n1 ≤ 2147483647) (f3 : (-2147483648) ≤ n1) (f4 : n2 = 30) (f5 : hWt T0 H0 ∧ preb_74v n2 n1 n0 H0) (f6 : n3 = 16) (f7 : n4 = w32 (n1 * n3)) (f8 : n5 = w32 (n4 + n0)) (f9 : 0 ≤ n0) (f10 : n6 = 16) (f11 : n0 < n6) (f12 : 0 ≤ n5) (f13 : n7 = 45) (f14 : n7 = hV H0 (n2).toNat 9) (f15 : n8 = (hN H0 (n7).toNat : Int)) (f16 : n8 = 112) (f17 : n5 < n8) (f18 : n9 = 45) (f19 : n9 = hV H0 (n2).toNat 9) (f20 : n10 = hV H0 (n9).toNat (n5).toNat) : postb_74v n10 n2 n1 n0 H0 H0 := by
  have pz := f5.2
  unfold preb_74v at pz
  unfold postb_74v
  have wq7 := f7
  rw [f6] at wq7
  unfold w32 at wq7
  have wq8 := f8
  unfold w32 at wq8
  have rw0 := f20
  rw [f18] at rw0
  rw [show ((45 : Int)).toNat = 45 from rfl] at rw0
  refine ⟨fun _ => ?_, fun _ => by omega⟩
  rw [rw0]
  exact pz.1.2.2 _ (by omega)
theorem c_74v_s_4 : vOkm T0 (eP e_74v L_74v A_74v mu_74v none) 3 ([(22, [10, 9, 5], [0], 0), (20, [9, 0], [0], 9), (0, [9], [], 45), (42, [5, 8], [], 0), (0, [8], [], 112), (21, [8, 7], [0], 0), (20, [7, 0], [0], 9), (0, [7], [], 45), (33, [5], [], 0), (42, [2, 6], [], 0), (0, [6], [], 16), (33, [2], [], 0), (1, [5, 4, 2], [], 0), (3, [4, 1, 3], [], 0), (0, [3], [], 16), (6000, [0, 1, 2], [0], 0), (0, [0], [], 30), (90, [1], [], -2147483648), (91, [1], [], 2147483647), (90, [2], [], -2147483648), (91, [2], [], 2147483647)], (3000, [10], [0], 40)) := vOk_in fun ρ η h => by
  obtain ⟨f0, f1, f2, f3, f4, f5, f6, f7, f8, f9, f10, f11, f12, f13, f14, f15, f16, f17, f18, f19, f20, _⟩ := h
  exact q_74v_4 (n0 := ρ 2) (n1 := ρ 1) (n2 := ρ 0) (n3 := ρ 3) (n4 := ρ 4) (n5 := ρ 5) (n6 := ρ 6) (n7 := ρ 7) (n8 := ρ 8) (n9 := ρ 9) (n10 := ρ 10) (H0 := η 0) f20 f19 f18 f17 f16 f15 f14 f13 f12 f11 f10 f9 f8 f7 f6 f5 f4 f3 f2 f1 f0
theorem q_74v_5 {n0 n1 n2 n3 n4 n5 n6 n7 n8 n9 : Int} {H0 : gH} (f0 : n0 ≤ 2147483647) (f1 : (-2147483648) ≤ n0) (f2 : n1 ≤ 2147483647) (f3 : (-2147483648) ≤ n1) (f4 : n2 = 30) (f5 : hWt T0 H0 ∧ preb_74v n2 n1 n0 H0) (f6 : n3 = 16) (f7 : n4 = w32 (n1 * n3)) (f8 : n5 = w32 (n4 + n0)) (f9 : 0 ≤ n0) (f10 : n6 = 16) (f11 : n0 < n6) (f12 : 0 ≤ n5) (f13 : n7 = 45) (f14 : n7 = hV H0 (n2).toNat 9) (f15 : n8 = (hN H0 (n7).toNat : Int)) (f16 : n8 = 112) (f17 : n8 ≤ n5) (f18 : n9 = -1) : postb_74v n9 n2 n1 n0 H0 H0 := by
  have pz := f5.2
  unfold preb_74v at pz
  unfold postb_74v
  have wq7 := f7
  rw [f6] at wq7
  unfold w32 at wq7
  have wq8 := f8
  unfold w32 at wq8
  exact ⟨fun _ => by omega, fun _ => by omega⟩
theorem c_74v_s_5 : vOkm T0 (eP e_74v L_74v A_74v mu_74v none) 3 ([(50, [9], [], 0), (43, [5, 8], [], 0), (0, [8], [], 112), (21, [8, 7], [0], 0), (20, [7, 0], [0], 9), (0, [7], [], 45), (33, [5], [], 0), (42, [2, 6], [], 0), (0, [6], [], 16), (33, [2], [], 0), (1, [5, 4, 2], [], 0), (3, [4, 1, 3], [], 0), (0, [3], [], 16), (6000, [0, 1, 2], [0], 0), (0, [0], [], 30), (90, [1], [], -2147483648), (91, [1], [], 2147483647), (90, [2], [], -2147483648), (91, [2], [], 2147483647)], (3000, [9], [0], 40)) := vOk_in fun ρ η h => by
  obtain ⟨f0, f1, f2, f3, f4, f5, f6, f7, f8, f9, f10, f11, f12, f13, f14, f15, f16, f17, f18, _⟩ := h
  exact q_74v_5 (n0 := ρ 2) (n1 := ρ 1) (n2 := ρ 0) (n3 := ρ 3) (n4 := ρ 4) (n5 := ρ 5) (n6 := ρ 6) (n7 := ρ 7) (n8 := ρ 8) (n9 := ρ 9) (H0 := η 0) f18 f17 f16 f15 f14 f13 f12 f11 f10 f9 f8 f7 f6 f5 f4 f3 f2 f1 f0
def p_74v_s : List vG := [([(50, [6], [], 0), (32, [2], [], 0), (1, [5, 4, 2], [], 0), (3, [4, 1, 3], [], 0), (0, [3], [], 16), (6000, [0, 1, 2], [0], 0), (0, [0], [], 30), (90, [1], [], -2147483648), (91, [1], [], 2147483647), (90, [2], [], -2147483648), (91, [2], [], 2147483647)], (3000, [6], [0], 40)),
  ([(50, [7], [], 0), (43, [2, 6], [], 0), (0, [6], [], 16), (33, [2], [], 0), (1, [5, 4, 2], [], 0), (3, [4, 1, 3], [], 0), (0, [3], [], 16), (6000, [0, 1, 2], [0], 0), (0, [0], [], 30), (90, [1], [], -2147483648), (91, [1], [], 2147483647), (90, [2], [], -2147483648), (91, [2], [], 2147483647)], (3000, [7], [0], 40)),
  ([(50, [7], [], 0), (32, [5], [], 0), (42, [2, 6], [], 0), (0, [6], [], 16), (33, [2], [], 0), (1, [5, 4, 2], [], 0), (3, [4, 1, 3], [], 0), (0, [3], [], 16), (6000, [0, 1, 2], [0], 0), (0, [0], [], 30), (90, [1], [], -2147483648), (91, [1], [], 2147483647), (90, [2], [], -2147483648), (91, [2], [], 2147483647)], (3000, [7], [0], 40)),
  ([(20, [9, 0], [0], 9), (0, [9], [], 45), (42, [5, 8], [], 0), (0, [8], [], 112), (21, [8, 7], [0], 0), (20, [7, 0], [0], 9), (0, [7], [], 45), (33, [5], [], 0), (42, [2, 6], [], 0), (0, [6], [], 16), (33, [2], [], 0), (1, [5, 4, 2], [], 0), (3, [4, 1, 3], [], 0), (0, [3], [], 16), (6000, [0, 1, 2], [0], 0), (0, [0], [], 30), (90, [1], [], -2147483648), (91, [1], [], 2147483647), (90, [2], [], -2147483648), (91, [2], [], 2147483647)], (70, [5], [], 112)),
  ([(22, [10, 9, 5], [0], 0), (20, [9, 0], [0], 9), (0, [9], [], 45), (42, [5, 8], [], 0), (0, [8], [], 112), (21, [8, 7], [0], 0), (20, [7, 0], [0], 9), (0, [7], [], 45), (33, [5], [], 0), (42, [2, 6], [], 0), (0, [6], [], 16), (33, [2], [], 0), (1, [5, 4, 2], [], 0), (3, [4, 1, 3], [], 0), (0, [3], [], 16), (6000, [0, 1, 2], [0], 0), (0, [0], [], 30), (90, [1], [], -2147483648), (91, [1], [], 2147483647), (90, [2], [], -2147483648), (91, [2], [], 2147483647)], (3000, [10], [0], 40)),
  ([(50, [9], [], 0), (43, [5, 8], [], 0), (0, [8], [], 112), (21, [8, 7], [0], 0), (20, [7, 0], [0], 9), (0, [7], [], 45), (33, [5], [], 0), (42, [2, 6], [], 0), (0, [6], [], 16), (33, [2], [], 0), (1, [5, 4, 2], [], 0), (3, [4, 1, 3], [], 0), (0, [3], [], 16), (6000, [0, 1, 2], [0], 0), (0, [0], [], 30), (90, [1], [], -2147483648), (91, [1], [], 2147483647), (90, [2], [], -2147483648), (91, [2], [], 2147483647)], (3000, [9], [0], 40))]
theorem r_74v_s : vCovO false (eR0 e_74v L_74v cs_74v 2000) p_74v_s = true := by decide +kernel
theorem m_74v (d : Nat) : eC e_74v (d + 1) := eC_ok (e := e_74v) (L := L_74v) (cs := cs_74v) (n := 2000) (d := d + 0) (A := A_74v) (μ := mu_74v) (tp := false) (p0 := p_74v_s) rfl trivial rfl (.inl rfl) (by decide +kernel) (fun z => nomatch z) r_74v_s (allC c_74v_s_0 (allC c_74v_s_1 (allC c_74v_s_2 (allC c_74v_s_3 (allC c_74v_s_4 (allC c_74v_s_5 allN)))))) allN
/- Cue.reset (II)V -/
noncomputable def s_24v : vM := ([(3, 1, -1, 0), (0, -2147483648, 2147483647, 0), (0, -2147483648, 2147483647, 0)], (9, 0, 0, 0), 1, 0, [(1, 0), (1, 1), (1, 2), (1, 3), (1, 4), (1, 5), (1, 6), (1, 7), (1, 8), (1, 9), (1, 10), (1, 11), (1, 12), (1, 13), (1, 14), (1, 15), (1, 16), (1, 18)])
def preb_24v (a0 a1 a2 : Int) (h : gH) : Prop := hK h (a0).toNat = 1 ∧ 0 ≤ a0
def pre_24v : List Int → gH → Prop := fun xs h => match xs with
  | [a0, a1, a2] => preb_24v a0 a1 a2 h
  | _ => False
def postb_24v (a0 a1 a2 : Int) (h0 h : gH) : Prop := hV h (a0).toNat 0 = a1 ∧ hV h (a0).toNat 18 = 0
def post_24v : List Int → gH → gH → Prop := fun xs h0 h => match xs with
  | [a0, a1, a2] => postb_24v a0 a1 a2 h0 h
  | _ => True
noncomputable def e_24v : vE := (24, s_24v, pre_24v, post_24v)
noncomputable def L_24v : List vE := []
def cs_24v : List vC := []
def A_24v : Int → List Int → gH → gH → Prop := fun c xs h0 h => True
def mu_24v : Int → List Int → gH → gH → Nat := fun c xs h0 h => 0
theorem q_24v_0 {n0 n1 n2 n3 n4 n5 n6 n7 n8 n9 n10 n11 n12 n13 n14 n15 n16 n17 n18 n19 n20 n21 n22 n23 n24 n25 n26 n27 n28 n29 n30 n31 n32 n33 n34 n35 n36 : Int} {H0 H1 H2 H3 H4 H5 H6 H7 H8 H9 H10 H11 H12 H13 H14 H15 H16 H17 H18 : gH} (f0 : n0 ≤ 2147483647) (f1 : (-2147483648) ≤ n0) (f2 : n1 ≤ 2147483647) (f3 : (-2147483648) ≤ n1) (f4 : 0 ≤ n2) (f5 : hWt T0 H0 ∧ preb_24v n2 n1 n0 H0) (f6 : hK H0 (n2).toNat = 1) (f7 : n3 = 0) (f8 : hUpd H1 H0 n2 n3 n1) (f9 : hK H1 (n2).toNat = 1) (f10 : n4 = 1) (f11 : hUpd H2 H1 n2 n4 n0) (f12 : n5 = 0) (f13 : hK H2 (n2).toNat = 1) (f14 : n6 = 2) (f15 : hUpd H3 H2 n2 n6 n5) (f16 : n7 = 0) (f17 : hK H3 (n2).toNat = 1) (f18 : n8 = 3) (f19 : hUpd H4 H3 n2 n8 n7) (f20 : n9 = (-1)) (f21 : hK H4 (n2).toNat = 1) (f22 : n10 = 4) (f23 : hUpd H5 H4 n2 n10 n9) (f24 : n11 = 0) (f25 : hK H5 (n2).toNat = 1) (f26 : n12 = 5) (f27 : hUpd H6 H5 n2 n12 n11) (f28 : n13 = (-1)) (f29 : hK H6 (n2).toNat = 1) (f30 : n14 = 6) (f31 : hUpd H7 H6 n2 n14 n13) (f32 : n15 = 0) (f33 : hK H7 (n2).toNat = 1) (f34 : n16 = 7) (f35 : hUpd H8 H7 n2 n16 n15) (f36 : n17 = 0) (f37 : hK H8 (n2).toNat = 1) (f38 : n18 = 8) (f39 : hUpd H9 H8 n2 n18 n17) (f40 : n19 = (-1)) (f41 : hK H9 (n2).toNat = 1) (f42 : n20 = 9) (f43 : hUpd H10 H9 n2 n20 n19) (f44 : n21 = 100) (f45 : hK H10 (n2).toNat = 1) (f46 : n22 = 10) (f47 : hUpd H11 H10 n2 n22 n21) (f48 : n23 = 100) (f49 : hK H11 (n2).toNat = 1) (f50 : n24 = 11) (f51 : hUpd H12 H11 n2 n24 n23) (f52 : n25 = 1) (f53 : hK H12 (n2).toNat = 1) (f54 : n26 = 12) (f55 : hUpd H13 H12 n2 n26 n25) (f56 : n27 = 1) (f57 : hK H13 (n2).toNat = 1) (f58 : n28 = 13) (f59 : hUpd H14 H13 n2 n28 n27) (f60 : n29 = 0) (f61 : hK H14 (n2).toNat = 1) (f62 : n30 = 14) (f63 : hUpd H15 H14 n2 n30 n29) (f64 : n31 = 0) (f65 : hK H15 (n2).toNat = 1) (f66 : n32 = 15) (f67 : hUpd H16 H15 n2 n32 n31) (f68 : n33 = 0) (f69 : hK H16 (n2).toNat = 1) (f70 : n34 = 16) (f71 : hUpd H17 H16 n2 n34 n33) (f72 : n35 = 0) (f73 : hK H17 (n2).toNat = 1) (f74 : n36 = 18) (f75 : hUpd H18 H17 n2 n36 n35) : postb_24v n2 n1 n0 H0 H18 := by
  have pz := f5.2
  unfold preb_24v at pz
  have ck := pz.1
  have cp := pz.2
  have t0_00 : hK H1 (n2).toNat = 1 := kUp f8 ck
  have t0_01 : hK H2 (n2).toNat = 1 := kUp f11 t0_00
  have t0_02 : hK H3 (n2).toNat = 1 := kUp f15 t0_01
  have t0_03 : hK H4 (n2).toNat = 1 := kUp f19 t0_02
  have t0_04 : hK H5 (n2).toNat = 1 := kUp f23 t0_03
  have t0_05 : hK H6 (n2).toNat = 1 := kUp f27 t0_04
  have t0_06 : hK H7 (n2).toNat = 1 := kUp f31 t0_05
  have t0_07 : hK H8 (n2).toNat = 1 := kUp f35 t0_06
  have t0_08 : hK H9 (n2).toNat = 1 := kUp f39 t0_07
  have t0_09 : hK H10 (n2).toNat = 1 := kUp f43 t0_08
  have t0_010 : hK H11 (n2).toNat = 1 := kUp f47 t0_09
  have t0_011 : hK H12 (n2).toNat = 1 := kUp f51 t0_010
  have t0_012 : hK H13 (n2).toNat = 1 := kUp f55 t0_011
  have t0_013 : hK H14 (n2).toNat = 1 := kUp f59 t0_012
  have t0_014 : hK H15 (n2).toNat = 1 := kUp f63 t0_013
  have t0_015 : hK H16 (n2).toNat = 1 := kUp f67 t0_014
  have t0_016 : hK H17 (n2).toNat = 1 := kUp f71 t0_015
  have t0_017 : hK H18 (n2).toNat = 1 := kUp f75 t0_016
  have e0 : hV H18 (n2).toNat 0 = n1 := (uSlot f75 _ 0 (by rw [f74]; decide)).trans ((uSlot f71 _ 0 (by rw [f70]; decide)).trans ((uSlot f67 _ 0 (by rw [f66]; decide)).trans ((uSlot f63 _ 0 (by rw [f62]; decide)).trans ((uSlot f59 _ 0 (by rw [f58]; decide)).trans ((uSlot f55 _ 0 (by rw [f54]; decide)).trans ((uSlot f51 _ 0 (by rw [f50]; decide)).trans ((uSlot f47 _ 0 (by rw [f46]; decide)).trans ((uSlot f43 _ 0 (by rw [f42]; decide)).trans ((uSlot f39 _ 0 (by rw [f38]; decide)).trans ((uSlot f35 _ 0 (by rw [f34]; decide)).trans ((uSlot f31 _ 0 (by rw [f30]; decide)).trans ((uSlot f27 _ 0 (by rw [f26]; decide)).trans ((uSlot f23 _ 0 (by rw [f22]; decide)).trans ((uSlot f19 _ 0 (by rw [f18]; decide)).trans ((uSlot f15 _ 0 (by rw [f14]; decide)).trans ((uSlot f11 _ 0 (by rw [f10]; decide)).trans (uSame f8 _ 0 (Int.toNat_of_nonneg (by omega)) (by rw [f7]; rfl))))))))))))))))))
  have t18_180 : hK H1 (n2).toNat = 1 := kUp f8 ck
  have t18_181 : hK H2 (n2).toNat = 1 := kUp f11 t18_180
  have t18_182 : hK H3 (n2).toNat = 1 := kUp f15 t18_181
  have t18_183 : hK H4 (n2).toNat = 1 := kUp f19 t18_182
  have t18_184 : hK H5 (n2).toNat = 1 := kUp f23 t18_183
  have t18_185 : hK H6 (n2).toNat = 1 := kUp f27 t18_184
  have t18_186 : hK H7 (n2).toNat = 1 := kUp f31 t18_185
  have t18_187 : hK H8 (n2).toNat = 1 := kUp f35 t18_186
  have t18_188 : hK H9 (n2).toNat = 1 := kUp f39 t18_187
  have t18_189 : hK H10 (n2).toNat = 1 := kUp f43 t18_188
  have t18_1810 : hK H11 (n2).toNat = 1 := kUp f47 t18_189
  have t18_1811 : hK H12 (n2).toNat = 1 := kUp f51 t18_1810
  have t18_1812 : hK H13 (n2).toNat = 1 := kUp f55 t18_1811
  have t18_1813 : hK H14 (n2).toNat = 1 := kUp f59 t18_1812
  have t18_1814 : hK H15 (n2).toNat = 1 := kUp f63 t18_1813
  have t18_1815 : hK H16 (n2).toNat = 1 := kUp f67 t18_1814
  have t18_1816 : hK H17 (n2).toNat = 1 := kUp f71 t18_1815
  have t18_1817 : hK H18 (n2).toNat = 1 := kUp f75 t18_1816
  have e18 : hV H18 (n2).toNat 18 = n35 := uSame f75 _ 18 (Int.toNat_of_nonneg (by omega)) (by rw [f74]; rfl)
  unfold postb_24v
  exact ⟨e0, by omega⟩
theorem c_24v_s_0 : vOkm T0 (eP e_24v L_24v A_24v mu_24v none) 3 ([(80, [0, 36, 35], [18, 17], 0), (0, [36], [], 18), (23, [0], [17], 1), (0, [35], [], 0), (80, [0, 34, 33], [17, 16], 0), (0, [34], [], 16), (23, [0], [16], 1), (0, [33], [], 0), (80, [0, 32, 31], [16, 15], 0), (0, [32], [], 15), (23, [0], [15], 1), (0, [31], [], 0), (80, [0, 30, 29], [15, 14], 0), (0, [30], [], 14), (23, [0], [14], 1), (0, [29], [], 0), (80, [0, 28, 27], [14, 13], 0), (0, [28], [], 13), (23, [0], [13], 1), (0, [27], [], 1), (80, [0, 26, 25], [13, 12], 0), (0, [26], [], 12), (23, [0], [12], 1), (0, [25], [], 1), (80, [0, 24, 23], [12, 11], 0), (0, [24], [], 11), (23, [0], [11], 1), (0, [23], [], 100), (80, [0, 22, 21], [11, 10], 0), (0, [22], [], 10), (23, [0], [10], 1), (0, [21], [], 100), (80, [0, 20, 19], [10, 9], 0), (0, [20], [], 9), (23, [0], [9], 1), (0, [19], [], -1), (80, [0, 18, 17], [9, 8], 0), (0, [18], [], 8), (23, [0], [8], 1), (0, [17], [], 0), (80, [0, 16, 15], [8, 7], 0), (0, [16], [], 7), (23, [0], [7], 1), (0, [15], [], 0), (80, [0, 14, 13], [7, 6], 0), (0, [14], [], 6), (23, [0], [6], 1), (0, [13], [], -1), (80, [0, 12, 11], [6, 5], 0), (0, [12], [], 5), (23, [0], [5], 1), (0, [11], [], 0), (80, [0, 10, 9], [5, 4], 0), (0, [10], [], 4), (23, [0], [4], 1), (0, [9], [], -1), (80, [0, 8, 7], [4, 3], 0), (0, [8], [], 3), (23, [0], [3], 1), (0, [7], [], 0), (80, [0, 6, 5], [3, 2], 0), (0, [6], [], 2), (23, [0], [2], 1), (0, [5], [], 0), (80, [0, 4, 2], [2, 1], 0), (0, [4], [], 1), (23, [0], [1], 1), (80, [0, 3, 1], [1, 0], 0), (0, [3], [], 0), (23, [0], [0], 1), (6000, [0, 1, 2], [0], 0), (51, [0], [], 0), (90, [1], [], -2147483648), (91, [1], [], 2147483647), (90, [2], [], -2147483648), (91, [2], [], 2147483647)], (3000, [], [18], 92)) := vOk_in fun ρ η h => by
  obtain ⟨f0, f1, f2, f3, f4, f5, f6, f7, f8, f9, f10, f11, f12, f13, f14, f15, f16, f17, f18, f19, f20, f21, f22, f23, f24, f25, f26, f27, f28, f29, f30, f31, f32, f33, f34, f35, f36, f37, f38, f39, f40, f41, f42, f43, f44, f45, f46, f47, f48, f49, f50, f51, f52, f53, f54, f55, f56, f57, f58, f59, f60, f61, f62, f63, f64, f65, f66, f67, f68, f69, f70, f71, f72, f73, f74, f75, _⟩ := h
  exact q_24v_0 (n0 := ρ 2) (n1 := ρ 1) (n2 := ρ 0) (n3 := ρ 3) (n4 := ρ 4) (n5 := ρ 5) (n6 := ρ 6) (n7 := ρ 7) (n8 := ρ 8) (n9 := ρ 9) (n10 := ρ 10) (n11 := ρ 11) (n12 := ρ 12) (n13 := ρ 13) (n14 := ρ 14) (n15 := ρ 15) (n16 := ρ 16) (n17 := ρ 17) (n18 := ρ 18) (n19 := ρ 19) (n20 := ρ 20) (n21 := ρ 21) (n22 := ρ 22) (n23 := ρ 23) (n24 := ρ 24) (n25 := ρ 25) (n26 := ρ 26) (n27 := ρ 27) (n28 := ρ 28) (n29 := ρ 29) (n30 := ρ 30) (n31 := ρ 31) (n32 := ρ 32) (n33 := ρ 33) (n34 := ρ 34) (n35 := ρ 35) (n36 := ρ 36) (H0 := η 0) (H1 := η 1) (H2 := η 2) (H3 := η 3) (H4 := η 4) (H5 := η 5) (H6 := η 6) (H7 := η 7) (H8 := η 8) (H9 := η 9) (H10 := η 10) (H11 := η 11) (H12 := η 12) (H13 := η 13) (H14 := η 14) (H15 := η 15) (H16 := η 16) (H17 := η 17) (H18 := η 18) f75 f74 f73 f72 f71 f70 f69 f68 f67 f66 f65 f64 f63 f62 f61 f60 f59 f58 f57 f56 f55 f54 f53 f52 f51 f50 f49 f48 f47 f46 f45 f44 f43 f42 f41 f40 f39 f38 f37 f36 f35 f34 f33 f32 f31 f30 f29 f28 f27 f26 f25 f24 f23 f22 f21 f20 f19 f18 f17 f16 f15 f14 f13 f12 f11 f10 f9 f8 f7 f6 f5 f4 f3 f2 f1 f0
def p_24v_s : List vG := [([(80, [0, 36, 35], [18, 17], 0), (0, [36], [], 18), (23, [0], [17], 1), (0, [35], [], 0), (80, [0, 34, 33], [17, 16], 0), (0, [34], [], 16), (23, [0], [16], 1), (0, [33], [], 0), (80, [0, 32, 31], [16, 15], 0), (0, [32], [], 15), (23, [0], [15], 1), (0, [31], [], 0), (80, [0, 30, 29], [15, 14], 0), (0, [30], [], 14), (23, [0], [14], 1), (0, [29], [], 0), (80, [0, 28, 27], [14, 13], 0), (0, [28], [], 13), (23, [0], [13], 1), (0, [27], [], 1), (80, [0, 26, 25], [13, 12], 0), (0, [26], [], 12), (23, [0], [12], 1), (0, [25], [], 1), (80, [0, 24, 23], [12, 11], 0), (0, [24], [], 11), (23, [0], [11], 1), (0, [23], [], 100), (80, [0, 22, 21], [11, 10], 0), (0, [22], [], 10), (23, [0], [10], 1), (0, [21], [], 100), (80, [0, 20, 19], [10, 9], 0), (0, [20], [], 9), (23, [0], [9], 1), (0, [19], [], -1), (80, [0, 18, 17], [9, 8], 0), (0, [18], [], 8), (23, [0], [8], 1), (0, [17], [], 0), (80, [0, 16, 15], [8, 7], 0), (0, [16], [], 7), (23, [0], [7], 1), (0, [15], [], 0), (80, [0, 14, 13], [7, 6], 0), (0, [14], [], 6), (23, [0], [6], 1), (0, [13], [], -1), (80, [0, 12, 11], [6, 5], 0), (0, [12], [], 5), (23, [0], [5], 1), (0, [11], [], 0), (80, [0, 10, 9], [5, 4], 0), (0, [10], [], 4), (23, [0], [4], 1), (0, [9], [], -1), (80, [0, 8, 7], [4, 3], 0), (0, [8], [], 3), (23, [0], [3], 1), (0, [7], [], 0), (80, [0, 6, 5], [3, 2], 0), (0, [6], [], 2), (23, [0], [2], 1), (0, [5], [], 0), (80, [0, 4, 2], [2, 1], 0), (0, [4], [], 1), (23, [0], [1], 1), (80, [0, 3, 1], [1, 0], 0), (0, [3], [], 0), (23, [0], [0], 1), (6000, [0, 1, 2], [0], 0), (51, [0], [], 0), (90, [1], [], -2147483648), (91, [1], [], 2147483647), (90, [2], [], -2147483648), (91, [2], [], 2147483647)], (3000, [], [18], 92))]
theorem r_24v_s : vCovO false (eR0 e_24v L_24v cs_24v 2000) p_24v_s = true := by decide +kernel
theorem m_24v (d : Nat) : eC e_24v (d + 1) := eC_ok (e := e_24v) (L := L_24v) (cs := cs_24v) (n := 2000) (d := d + 0) (A := A_24v) (μ := mu_24v) (tp := false) (p0 := p_24v_s) rfl trivial rfl (.inl rfl) (by decide +kernel) (fun z => nomatch z) r_24v_s (allC c_24v_s_0 allN) allN
/- Reader.endSheet (I)V -/
noncomputable def s_70v : vM := ([(3, 4, 30, 0), (0, -2147483648, 2147483647, 0)], (9, 0, 0, 0), 1, 0, [(4, 1), (4, 2), (4, 3), (4, 4), (4, 5), (4, 6)])
def preb_70v (a0 a1 : Int) (h : gH) : Prop := KI h ∧ BI h ∧ inT h a1
def pre_70v : List Int → gH → Prop := fun xs h => match xs with
  | [a0, a1] => preb_70v a0 a1 h
  | _ => False
def postb_70v (a0 a1 : Int) (h0 h : gH) : Prop := KI h ∧ absC h = (if 40 < hV h0 47 (hV h0 30 13).toNat then pbl (vwC h0) 6 a1 (ptk (vwC h0) 17 (absC h0)) else ptk (vwC h0) 17 (absC h0))
def post_70v : List Int → gH → gH → Prop := fun xs h0 h => match xs with
  | [a0, a1] => postb_70v a0 a1 h0 h
  | _ => True
noncomputable def e_70v : vE := (70, s_70v, pre_70v, post_70v)
noncomputable def L_70v : List vE := [e_65v, e_66v, e_199vk740]
def cs_70v : List vC := []
def A_70v : Int → List Int → gH → gH → Prop := fun c xs h0 h => True
def mu_70v : Int → List Int → gH → gH → Nat := fun c xs h0 h => 0
theorem q_70v_0 {n0 n1 n2 : Int} {H0 : gH} (f0 : n0 ≤ 2147483647) (f1 : (-2147483648) ≤ n0) (f2 : n1 = 30) (f3 : hWt T0 H0 ∧ preb_70v n1 n0 H0) (f4 : n2 = 17) : preb_66v n1 n2 H0 := by
  have pz := f3.2
  unfold preb_70v at pz
  unfold preb_66v
  exact ⟨pz.1, by omega⟩
theorem c_70v_s_0 : vOkm T0 (eP e_70v L_70v A_70v mu_70v none) 2 ([(0, [2], [], 17), (6000, [0, 1], [0], 0), (0, [0], [], 30), (90, [1], [], -2147483648), (91, [1], [], 2147483647)], (2066, [0, 2], [0], 0)) := vOk_in fun ρ η h => by
  obtain ⟨f0, f1, f2, f3, f4, _⟩ := h
  exact q_70v_0 (n0 := ρ 1) (n1 := ρ 0) (n2 := ρ 2) (H0 := η 0) f4 f3 f2 f1 f0
theorem q_70v_1 {n0 n1 n2 n3 n4 n5 n6 : Int} {H0 H1 H2 : gH} (f0 : n0 ≤ 2147483647) (f1 : (-2147483648) ≤ n0) (f2 : n1 = 30) (f3 : hWt T0 H0 ∧ preb_70v n1 n0 H0) (f4 : n2 = 17) (f5 : (hLe T0 H0 H1 ∧ hFr s_66v.2.2.2.2 H0 H1 ∧ ((0 : Int) = 0 → H1.length = H0.length) ∧ hWt T0 H1) ∧ postb_66v n1 n2 H0 H1) (f6 : n3 = 47) (f7 : n3 = hV H1 (n1).toNat 11) (f8 : n4 ≤ 2147483647) (f9 : (-2147483648) ≤ n4) (f10 : n4 = hV H1 (n1).toNat 13) (f11 : n5 ≤ 2147483647) (f12 : (-2147483648) ≤ n5) (f13 : (hLe T0 H1 H2 ∧ hFr s_199vk740.2.2.2.2 H1 H2 ∧ ((0 : Int) = 0 → H2.length = H1.length) ∧ hWt T0 H2) ∧ postb_199vk740 n5 n3 n4 H1 H2) (f14 : n6 = 40) (f15 : n5 ≤ n6) : postb_70v n1 n0 H0 H2 := by
  have pz := f3.2
  unfold preb_70v at pz
  have c0 := f5.2
  unfold postb_66v at c0
  try rw [f4] at c0
  have a0 : absC H1 = (ptk (vwC H0) 17 (absC H0)) := c0.2
  have v0 : vwC H1 = vwC H0 := (vwC_fr f5.1.2.1 (by decide +kernel))
  have s1 := PF_fr f13.1.1 f13.1.2.1 (by decide +kernel) c0.1
  have a1 : absC H2 = (ptk (vwC H0) 17 (absC H0)) := s1.1.trans a0
  have v1 : vwC H2 = vwC H0 := s1.2.1.trans v0
  have rb := f10
  rw [f2] at rb
  rw [show ((30 : Int)).toNat = 30 from rfl] at rb
  have b13 : hV H1 30 13 = hV H0 30 13 := f5.1.2.1.1 30 13 (by decide +kernel)
  have bi0 := BI_fr f5.1.1 f5.1.2.1 (by decide +kernel) pz.2.1
  have e47 : hV H1 47 = hV H0 47 := fRow f5.1.2.1 47 (by decide +kernel)
  have qa := f13.2
  unfold postb_199vk740 atQ at qa
  rw [f6] at qa
  have n7 : hN H1 47 = 7 := bi0.1.1.2.2.2
  have y2 := pz.2.1.2.1
  have y3 := pz.2.1.2.2.1
  rw [if_pos ⟨by decide, by omega, by show _ < (hN H1 47 : Int); rw [n7]; omega⟩, show ((47 : Int)).toNat = 47 from rfl, e47, show n4 = hV H0 30 13 by omega] at qa
  unfold postb_70v
  refine ⟨s1.2.2, ?_⟩
  rw [a1]
  exact (if_neg (by omega)).symm
theorem c_70v_s_1 : vOkm T0 (eP e_70v L_70v A_70v mu_70v none) 2 ([(45, [5, 6], [], 0), (0, [6], [], 40), (1199, [5, 3, 4], [1, 2], 0), (90, [5], [], -2147483648), (91, [5], [], 2147483647), (20, [4, 0], [1], 13), (90, [4], [], -2147483648), (91, [4], [], 2147483647), (20, [3, 0], [1], 11), (0, [3], [], 47), (1066, [0, 2], [0, 1], 0), (0, [2], [], 17), (6000, [0, 1], [0], 0), (0, [0], [], 30), (90, [1], [], -2147483648), (91, [1], [], 2147483647)], (3000, [], [2], 29)) := vOk_in fun ρ η h => by
  obtain ⟨f0, f1, f2, f3, f4, f5, f6, f7, f8, f9, f10, f11, f12, f13, f14, f15, _⟩ := h
  exact q_70v_1 (n0 := ρ 1) (n1 := ρ 0) (n2 := ρ 2) (n3 := ρ 3) (n4 := ρ 4) (n5 := ρ 5) (n6 := ρ 6) (H0 := η 0) (H1 := η 1) (H2 := η 2) f15 f14 f13 f12 f11 f10 f9 f8 f7 f6 f5 f4 f3 f2 f1 f0
theorem q_70v_2 {n0 n1 n2 n3 n4 n5 n6 n7 : Int} {H0 H1 H2 : gH} (f0 : n0 ≤ 2147483647) (f1 : (-2147483648) ≤ n0) (f2 : n1 = 30) (f3 : hWt T0 H0 ∧ preb_70v n1 n0 H0) (f4 : n2 = 17) (f5 : (hLe T0 H0 H1 ∧ hFr s_66v.2.2.2.2 H0 H1 ∧ ((0 : Int) = 0 → H1.length = H0.length) ∧ hWt T0 H1) ∧ postb_66v n1 n2 H0 H1) (f6 : n3 = 47) (f7 : n3 = hV H1 (n1).toNat 11) (f8 : n4 ≤ 2147483647) (f9 : (-2147483648) ≤ n4) (f10 : n4 = hV H1 (n1).toNat 13) (f11 : n5 ≤ 2147483647) (f12 : (-2147483648) ≤ n5) (f13 : (hLe T0 H1 H2 ∧ hFr s_199vk740.2.2.2.2 H1 H2 ∧ ((0 : Int) = 0 → H2.length = H1.length) ∧ hWt T0 H2) ∧ postb_199vk740 n5 n3 n4 H1 H2) (f14 : n6 = 40) (f15 : n6 < n5) (f16 : n7 = 6) : preb_65v n1 n7 n0 H2 := by
  have pz := f3.2
  unfold preb_70v at pz
  have c0 := f5.2
  unfold postb_66v at c0
  try rw [f4] at c0
  have a0 : absC H1 = (ptk (vwC H0) 17 (absC H0)) := c0.2
  have v0 : vwC H1 = vwC H0 := (vwC_fr f5.1.2.1 (by decide +kernel))
  have s1 := PF_fr f13.1.1 f13.1.2.1 (by decide +kernel) c0.1
  have a1 : absC H2 = (ptk (vwC H0) 17 (absC H0)) := s1.1.trans a0
  have v1 : vwC H2 = vwC H0 := s1.2.1.trans v0
  have wt : TKs H0 H2 := ((TKs_fr f5.1.2.1 (by decide +kernel)).trans (TKs_fr f13.1.2.1 (by decide +kernel)))
  unfold preb_65v
  exact ⟨s1.2.2, by omega, by omega, inT_of wt pz.2.2⟩
theorem c_70v_s_2 : vOkm T0 (eP e_70v L_70v A_70v mu_70v none) 2 ([(0, [7], [], 6), (44, [5, 6], [], 0), (0, [6], [], 40), (1199, [5, 3, 4], [1, 2], 0), (90, [5], [], -2147483648), (91, [5], [], 2147483647), (20, [4, 0], [1], 13), (90, [4], [], -2147483648), (91, [4], [], 2147483647), (20, [3, 0], [1], 11), (0, [3], [], 47), (1066, [0, 2], [0, 1], 0), (0, [2], [], 17), (6000, [0, 1], [0], 0), (0, [0], [], 30), (90, [1], [], -2147483648), (91, [1], [], 2147483647)], (2065, [0, 7, 1], [2], 0)) := vOk_in fun ρ η h => by
  obtain ⟨f0, f1, f2, f3, f4, f5, f6, f7, f8, f9, f10, f11, f12, f13, f14, f15, f16, _⟩ := h
  exact q_70v_2 (n0 := ρ 1) (n1 := ρ 0) (n2 := ρ 2) (n3 := ρ 3) (n4 := ρ 4) (n5 := ρ 5) (n6 := ρ 6) (n7 := ρ 7) (H0 := η 0) (H1 := η 1) (H2 := η 2) f16 f15 f14 f13 f12 f11 f10 f9 f8 f7 f6 f5 f4 f3 f2 f1 f0
theorem q_70v_3 {n0 n1 n2 n3 n4 n5 n6 n7 : Int} {H0 H1 H2 H3 : gH} (f0 : n0 ≤ 2147483647) (f1 : (-2147483648) ≤ n0) (f2 : n1 = 30) (f3 : hWt T0 H0 ∧ preb_70v n1 n0 H0) (f4 : n2 = 17) (f5 : (hLe T0 H0 H1 ∧ hFr s_66v.2.2.2.2 H0 H1 ∧ ((0 : Int) = 0 → H1.length = H0.length) ∧ hWt T0 H1) ∧ postb_66v n1 n2 H0 H1) (f6 : n3 = 47) (f7 : n3 = hV H1 (n1).toNat 11) (f8 : n4 ≤ 2147483647) (f9 : (-2147483648) ≤ n4) (f10 : n4 = hV H1 (n1).toNat 13) (f11 : n5 ≤ 2147483647) (f12 : (-2147483648) ≤ n5) (f13 : (hLe T0 H1 H2 ∧ hFr s_199vk740.2.2.2.2 H1 H2 ∧ ((0 : Int) = 0 → H2.length = H1.length) ∧ hWt T0 H2) ∧ postb_199vk740 n5 n3 n4 H1 H2) (f14 : n6 = 40) (f15 : n6 < n5) (f16 : n7 = 6) (f17 : (hLe T0 H2 H3 ∧ hFr s_65v.2.2.2.2 H2 H3 ∧ ((0 : Int) = 0 → H3.length = H2.length) ∧ hWt T0 H3) ∧ postb_65v n1 n7 n0 H2 H3) : postb_70v n1 n0 H0 H3 := by
  have pz := f3.2
  unfold preb_70v at pz
  have c0 := f5.2
  unfold postb_66v at c0
  try rw [f4] at c0
  have a0 : absC H1 = (ptk (vwC H0) 17 (absC H0)) := c0.2
  have v0 : vwC H1 = vwC H0 := (vwC_fr f5.1.2.1 (by decide +kernel))
  have s1 := PF_fr f13.1.1 f13.1.2.1 (by decide +kernel) c0.1
  have a1 : absC H2 = (ptk (vwC H0) 17 (absC H0)) := s1.1.trans a0
  have v1 : vwC H2 = vwC H0 := s1.2.1.trans v0
  have c2 := f17.2
  unfold postb_65v at c2
  try rw [f16] at c2
  rw [v1] at c2
  rw [a1] at c2
  have a2 : absC H3 = (pbl (vwC H0) 6 n0 (ptk (vwC H0) 17 (absC H0))) := c2.2
  have v2 : vwC H3 = vwC H0 := (vwC_fr f17.1.2.1 (by decide +kernel)).trans v1
  have rb := f10
  rw [f2] at rb
  rw [show ((30 : Int)).toNat = 30 from rfl] at rb
  have b13 : hV H1 30 13 = hV H0 30 13 := f5.1.2.1.1 30 13 (by decide +kernel)
  have bi0 := BI_fr f5.1.1 f5.1.2.1 (by decide +kernel) pz.2.1
  have e47 : hV H1 47 = hV H0 47 := fRow f5.1.2.1 47 (by decide +kernel)
  have qa := f13.2
  unfold postb_199vk740 atQ at qa
  rw [f6] at qa
  have n7 : hN H1 47 = 7 := bi0.1.1.2.2.2
  have y2 := pz.2.1.2.1
  have y3 := pz.2.1.2.2.1
  rw [if_pos ⟨by decide, by omega, by show _ < (hN H1 47 : Int); rw [n7]; omega⟩, show ((47 : Int)).toNat = 47 from rfl, e47, show n4 = hV H0 30 13 by omega] at qa
  unfold postb_70v
  refine ⟨c2.1, ?_⟩
  rw [a2]
  exact (if_pos (by omega)).symm
theorem c_70v_s_3 : vOkm T0 (eP e_70v L_70v A_70v mu_70v none) 2 ([(1065, [0, 7, 1], [2, 3], 0), (0, [7], [], 6), (44, [5, 6], [], 0), (0, [6], [], 40), (1199, [5, 3, 4], [1, 2], 0), (90, [5], [], -2147483648), (91, [5], [], 2147483647), (20, [4, 0], [1], 13), (90, [4], [], -2147483648), (91, [4], [], 2147483647), (20, [3, 0], [1], 11), (0, [3], [], 47), (1066, [0, 2], [0, 1], 0), (0, [2], [], 17), (6000, [0, 1], [0], 0), (0, [0], [], 30), (90, [1], [], -2147483648), (91, [1], [], 2147483647)], (3000, [], [3], 29)) := vOk_in fun ρ η h => by
  obtain ⟨f0, f1, f2, f3, f4, f5, f6, f7, f8, f9, f10, f11, f12, f13, f14, f15, f16, f17, _⟩ := h
  exact q_70v_3 (n0 := ρ 1) (n1 := ρ 0) (n2 := ρ 2) (n3 := ρ 3) (n4 := ρ 4) (n5 := ρ 5) (n6 := ρ 6) (n7 := ρ 7) (H0 := η 0) (H1 := η 1) (H2 := η 2) (H3 := η 3) f17 f16 f15 f14 f13 f12 f11 f10 f9 f8 f7 f6 f5 f4 f3 f2 f1 f0
def p_70v_s : List vG := [([(0, [2], [], 17), (6000, [0, 1], [0], 0), (0, [0], [], 30), (90, [1], [], -2147483648), (91, [1], [], 2147483647)], (2066, [0, 2], [0], 0)),
  ([(45, [5, 6], [], 0), (0, [6], [], 40), (1199, [5, 3, 4], [1, 2], 0), (90, [5], [], -2147483648), (91, [5], [], 2147483647), (20, [4, 0], [1], 13), (90, [4], [], -2147483648), (91, [4], [], 2147483647), (20, [3, 0], [1], 11), (0, [3], [], 47), (1066, [0, 2], [0, 1], 0), (0, [2], [], 17), (6000, [0, 1], [0], 0), (0, [0], [], 30), (90, [1], [], -2147483648), (91, [1], [], 2147483647)], (3000, [], [2], 29)),
  ([(0, [7], [], 6), (44, [5, 6], [], 0), (0, [6], [], 40), (1199, [5, 3, 4], [1, 2], 0), (90, [5], [], -2147483648), (91, [5], [], 2147483647), (20, [4, 0], [1], 13), (90, [4], [], -2147483648), (91, [4], [], 2147483647), (20, [3, 0], [1], 11), (0, [3], [], 47), (1066, [0, 2], [0, 1], 0), (0, [2], [], 17), (6000, [0, 1], [0], 0), (0, [0], [], 30), (90, [1], [], -2147483648), (91, [1], [], 2147483647)], (2065, [0, 7, 1], [2], 0)),
  ([(1065, [0, 7, 1], [2, 3], 0), (0, [7], [], 6), (44, [5, 6], [], 0), (0, [6], [], 40), (1199, [5, 3, 4], [1, 2], 0), (90, [5], [], -2147483648), (91, [5], [], 2147483647), (20, [4, 0], [1], 13), (90, [4], [], -2147483648), (91, [4], [], 2147483647), (20, [3, 0], [1], 11), (0, [3], [], 47), (1066, [0, 2], [0, 1], 0), (0, [2], [], 17), (6000, [0, 1], [0], 0), (0, [0], [], 30), (90, [1], [], -2147483648), (91, [1], [], 2147483647)], (3000, [], [3], 29))]
theorem r_70v_s : vCovO false (eR0 e_70v L_70v cs_70v 2000) p_70v_s = true := by decide +kernel
theorem m_70v (d : Nat) : eC e_70v (d + 3) := eC_ok (e := e_70v) (L := L_70v) (cs := cs_70v) (n := 2000) (d := d + 2) (A := A_70v) (μ := mu_70v) (tp := false) (p0 := p_70v_s) rfl ⟨m_65v (d + 1), ⟨m_66v d, ⟨m_199vk740 (d + 1), trivial⟩⟩⟩ rfl (.inl rfl) (by decide +kernel) (fun z => nomatch z) r_70v_s (allC c_70v_s_0 (allC c_70v_s_1 (allC c_70v_s_2 (allC c_70v_s_3 allN)))) allN
