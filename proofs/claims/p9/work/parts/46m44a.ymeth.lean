/-! CONTRACTS of methods (printed by wip/gen/emit.py). -/
/- MixStageModel.frameOf (III)I -/
noncomputable def s_269 : vM := ([(3, 12, 285, 0), (0, -1, 7, 0), (0, -9999, 9999, 0), (0, -1000, 1000, 0)], (0, -10999, 10999, 0), 0, 0, [])
def postb_269 (r a0 a1 a2 a3 : Int) (h0 h : gH) : Prop := (a1 = -1 ∧ r = a2 + a3) ∨ (¬ a1 = -1 ∧ a2 ≤ r ∧ r ≤ a2 + 60)
def post_269 : List Int → gH → gH → Prop := fun xs h0 h => match xs with
  | [r, a0, a1, a2, a3] => postb_269 r a0 a1 a2 a3 h0 h
  | _ => True
noncomputable def e_269 : vE := (269, s_269, pre0, post_269)
noncomputable def L_269 : List vE := []
def cs_269 : List vC := []
def A_269 : Int → List Int → gH → gH → Prop := fun c xs h0 h => True
def mu_269 : Int → List Int → gH → gH → Nat := fun c xs h0 h => 0
theorem q_269_0 {n0 n1 n2 n3 n4 : Int} {H0 : gH} (f0 : n0 ≤ 1000) (f1 : (-1000) ≤ n0) (f2 : n1 ≤ 9999) (f3 : (-9999) ≤ n1) (f4 : n2 ≤ 7) (f5 : (-1) ≤ n2) (f6 : n3 = 285) (f7 : hWt T0 H0 ∧ True) (f8 : n4 = (-1)) (f9 : n2 ≠ n4) : 0 ≤ n2 ∧ n2 < 8 := by
  omega
theorem c_269_s_0 : vOkm T0 (eP e_269 L_269 A_269 mu_269 none) 4 ([(41, [1, 4], [], 0), (0, [4], [], -1), (6000, [0, 1, 2, 3], [0], 0), (0, [0], [], 285), (90, [1], [], -1), (91, [1], [], 7), (90, [2], [], -9999), (91, [2], [], 9999), (90, [3], [], -1000), (91, [3], [], 1000)], (70, [1], [], 8)) := vOk_inI fun ρ η f0 f1 f2 f3 f4 f5 f6 f7 f8 f9 => q_269_0 (n0 := ρ 3) (n1 := ρ 2) (n2 := ρ 1) (n3 := ρ 0) (n4 := ρ 4) (H0 := η 0) f9 f8 f7 f6 f5 f4 f3 f2 f1 f0
theorem q_269_1 {n0 n1 n2 n3 n4 n5 n6 n7 : Int} {H0 : gH} (f0 : n0 ≤ 1000) (f1 : (-1000) ≤ n0) (f2 : n1 ≤ 9999) (f3 : (-9999) ≤ n1) (f4 : n2 ≤ 7) (f5 : (-1) ≤ n2) (f6 : n3 = 285) (f7 : hWt T0 H0 ∧ True) (f8 : n4 = (-1)) (f9 : n2 ≠ n4) (f10 : n5 = 340) (f11 : n5 = hV H0 (n3).toNat 78) (f12 : n6 ≤ 60) (f13 : 0 ≤ n6) (f14 : n6 = hV H0 (n5).toNat (n2).toNat) (f15 : n7 = w32 (n6 + n1)) : (-10999) ≤ n7 := by
  have e0 : n6 = hV H0 340 (n2).toNat := (by rw [f10] at f14; exact f14 : n6 = hV H0 340 (n2).toNat)
  clear f11 f14
  subst e0
  first
  | (have ix0 : n7 = hV H0 340 (n2).toNat + n1 := Eq.trans f15 (w32_iv (Iad (Iat f13 f12) (Iat f3 f2)) (by decide)); subst ix0; clear f15)
  | (have ix0 : n7 = hV H0 340 (n2).toNat + n1 := Eq.trans f15 (w32_id (by omega) (by omega)); subst ix0; clear f15)
  | (unfold w32 at f15; have ix0 : n7 = hV H0 340 (n2).toNat + n1 := (by omega); subst ix0)
  | skip
  try unfold w32 at f15
  omega
theorem c_269_s_1 : vOkm T0 (eP e_269 L_269 A_269 mu_269 none) 4 ([(1, [7, 6, 2], [], 0), (22, [6, 5, 1], [0], 0), (90, [6], [], 0), (91, [6], [], 60), (20, [5, 0], [0], 78), (0, [5], [], 340), (41, [1, 4], [], 0), (0, [4], [], -1), (6000, [0, 1, 2, 3], [0], 0), (0, [0], [], 285), (90, [1], [], -1), (91, [1], [], 7), (90, [2], [], -9999), (91, [2], [], 9999), (90, [3], [], -1000), (91, [3], [], 1000)], (90, [7], [], -10999)) := vOk_inI fun ρ η f0 f1 f2 f3 f4 f5 f6 f7 f8 f9 f10 f11 f12 f13 f14 f15 => q_269_1 (n0 := ρ 3) (n1 := ρ 2) (n2 := ρ 1) (n3 := ρ 0) (n4 := ρ 4) (n5 := ρ 5) (n6 := ρ 6) (n7 := ρ 7) (H0 := η 0) f15 f14 f13 f12 f11 f10 f9 f8 f7 f6 f5 f4 f3 f2 f1 f0
theorem q_269_2 {n0 n1 n2 n3 n4 n5 n6 n7 : Int} {H0 : gH} (f0 : n0 ≤ 1000) (f1 : (-1000) ≤ n0) (f2 : n1 ≤ 9999) (f3 : (-9999) ≤ n1) (f4 : n2 ≤ 7) (f5 : (-1) ≤ n2) (f6 : n3 = 285) (f7 : hWt T0 H0 ∧ True) (f8 : n4 = (-1)) (f9 : n2 ≠ n4) (f10 : n5 = 340) (f11 : n5 = hV H0 (n3).toNat 78) (f12 : n6 ≤ 60) (f13 : 0 ≤ n6) (f14 : n6 = hV H0 (n5).toNat (n2).toNat) (f15 : n7 = w32 (n6 + n1)) : n7 ≤ 10999 := by
  have e0 : n6 = hV H0 340 (n2).toNat := (by rw [f10] at f14; exact f14 : n6 = hV H0 340 (n2).toNat)
  clear f11 f14
  subst e0
  first
  | (have ix0 : n7 = hV H0 340 (n2).toNat + n1 := Eq.trans f15 (w32_iv (Iad (Iat f13 f12) (Iat f3 f2)) (by decide)); subst ix0; clear f15)
  | (have ix0 : n7 = hV H0 340 (n2).toNat + n1 := Eq.trans f15 (w32_id (by omega) (by omega)); subst ix0; clear f15)
  | (unfold w32 at f15; have ix0 : n7 = hV H0 340 (n2).toNat + n1 := (by omega); subst ix0)
  | skip
  try unfold w32 at f15
  omega
theorem c_269_s_2 : vOkm T0 (eP e_269 L_269 A_269 mu_269 none) 4 ([(1, [7, 6, 2], [], 0), (22, [6, 5, 1], [0], 0), (90, [6], [], 0), (91, [6], [], 60), (20, [5, 0], [0], 78), (0, [5], [], 340), (41, [1, 4], [], 0), (0, [4], [], -1), (6000, [0, 1, 2, 3], [0], 0), (0, [0], [], 285), (90, [1], [], -1), (91, [1], [], 7), (90, [2], [], -9999), (91, [2], [], 9999), (90, [3], [], -1000), (91, [3], [], 1000)], (91, [7], [], 10999)) := vOk_inI fun ρ η f0 f1 f2 f3 f4 f5 f6 f7 f8 f9 f10 f11 f12 f13 f14 f15 => q_269_2 (n0 := ρ 3) (n1 := ρ 2) (n2 := ρ 1) (n3 := ρ 0) (n4 := ρ 4) (n5 := ρ 5) (n6 := ρ 6) (n7 := ρ 7) (H0 := η 0) f15 f14 f13 f12 f11 f10 f9 f8 f7 f6 f5 f4 f3 f2 f1 f0
theorem q_269_3 {n0 n1 n2 n3 n4 n5 n6 n7 : Int} {H0 : gH} (f0 : n0 ≤ 1000) (f1 : (-1000) ≤ n0) (f2 : n1 ≤ 9999) (f3 : (-9999) ≤ n1) (f4 : n2 ≤ 7) (f5 : (-1) ≤ n2) (f6 : n3 = 285) (f7 : hWt T0 H0 ∧ True) (f8 : n4 = (-1)) (f9 : n2 ≠ n4) (f10 : n5 = 340) (f11 : n5 = hV H0 (n3).toNat 78) (f12 : n6 ≤ 60) (f13 : 0 ≤ n6) (f14 : n6 = hV H0 (n5).toNat (n2).toNat) (f15 : n7 = w32 (n6 + n1)) : postb_269 n7 n3 n2 n1 n0 H0 H0 := by
  unfold postb_269
  have e0 : n6 = hV H0 340 (n2).toNat := (by rw [f10] at f14; exact f14 : n6 = hV H0 340 (n2).toNat)
  clear f11 f14
  subst e0
  first
  | (have ix0 : n7 = hV H0 340 (n2).toNat + n1 := Eq.trans f15 (w32_iv (Iad (Iat f13 f12) (Iat f3 f2)) (by decide)); subst ix0; clear f15)
  | (have ix0 : n7 = hV H0 340 (n2).toNat + n1 := Eq.trans f15 (w32_id (by omega) (by omega)); subst ix0; clear f15)
  | (unfold w32 at f15; have ix0 : n7 = hV H0 340 (n2).toNat + n1 := (by omega); subst ix0)
  | skip
  try unfold w32 at f15
  first | assumption | omega | trivial
theorem c_269_s_3 : vOkm T0 (eP e_269 L_269 A_269 mu_269 none) 4 ([(1, [7, 6, 2], [], 0), (22, [6, 5, 1], [0], 0), (90, [6], [], 0), (91, [6], [], 60), (20, [5, 0], [0], 78), (0, [5], [], 340), (41, [1, 4], [], 0), (0, [4], [], -1), (6000, [0, 1, 2, 3], [0], 0), (0, [0], [], 285), (90, [1], [], -1), (91, [1], [], 7), (90, [2], [], -9999), (91, [2], [], 9999), (90, [3], [], -1000), (91, [3], [], 1000)], (3000, [7], [0], 19)) := vOk_inI fun ρ η f0 f1 f2 f3 f4 f5 f6 f7 f8 f9 f10 f11 f12 f13 f14 f15 => q_269_3 (n0 := ρ 3) (n1 := ρ 2) (n2 := ρ 1) (n3 := ρ 0) (n4 := ρ 4) (n5 := ρ 5) (n6 := ρ 6) (n7 := ρ 7) (H0 := η 0) f15 f14 f13 f12 f11 f10 f9 f8 f7 f6 f5 f4 f3 f2 f1 f0
theorem q_269_4 {n0 n1 n2 n3 n4 n5 : Int} {H0 : gH} (f0 : n0 ≤ 1000) (f1 : (-1000) ≤ n0) (f2 : n1 ≤ 9999) (f3 : (-9999) ≤ n1) (f4 : n2 ≤ 7) (f5 : (-1) ≤ n2) (f6 : n3 = 285) (f7 : hWt T0 H0 ∧ True) (f8 : n4 = (-1)) (f9 : n2 = n4) (f10 : n5 = w32 (n1 + n0)) : (-10999) ≤ n5 := by
  first
  | (have ix0 : n5 = n1 + n0 := Eq.trans f10 (w32_iv (Iad (Iat f3 f2) (Iat f1 f0)) (by decide)); subst ix0; clear f10)
  | (have ix0 : n5 = n1 + n0 := Eq.trans f10 (w32_id (by omega) (by omega)); subst ix0; clear f10)
  | (unfold w32 at f10; have ix0 : n5 = n1 + n0 := (by omega); subst ix0)
  | skip
  try unfold w32 at f10
  omega
theorem c_269_s_4 : vOkm T0 (eP e_269 L_269 A_269 mu_269 none) 4 ([(1, [5, 2, 3], [], 0), (40, [1, 4], [], 0), (0, [4], [], -1), (6000, [0, 1, 2, 3], [0], 0), (0, [0], [], 285), (90, [1], [], -1), (91, [1], [], 7), (90, [2], [], -9999), (91, [2], [], 9999), (90, [3], [], -1000), (91, [3], [], 1000)], (90, [5], [], -10999)) := vOk_inI fun ρ η f0 f1 f2 f3 f4 f5 f6 f7 f8 f9 f10 => q_269_4 (n0 := ρ 3) (n1 := ρ 2) (n2 := ρ 1) (n3 := ρ 0) (n4 := ρ 4) (n5 := ρ 5) (H0 := η 0) f10 f9 f8 f7 f6 f5 f4 f3 f2 f1 f0
theorem q_269_5 {n0 n1 n2 n3 n4 n5 : Int} {H0 : gH} (f0 : n0 ≤ 1000) (f1 : (-1000) ≤ n0) (f2 : n1 ≤ 9999) (f3 : (-9999) ≤ n1) (f4 : n2 ≤ 7) (f5 : (-1) ≤ n2) (f6 : n3 = 285) (f7 : hWt T0 H0 ∧ True) (f8 : n4 = (-1)) (f9 : n2 = n4) (f10 : n5 = w32 (n1 + n0)) : n5 ≤ 10999 := by
  first
  | (have ix0 : n5 = n1 + n0 := Eq.trans f10 (w32_iv (Iad (Iat f3 f2) (Iat f1 f0)) (by decide)); subst ix0; clear f10)
  | (have ix0 : n5 = n1 + n0 := Eq.trans f10 (w32_id (by omega) (by omega)); subst ix0; clear f10)
  | (unfold w32 at f10; have ix0 : n5 = n1 + n0 := (by omega); subst ix0)
  | skip
  try unfold w32 at f10
  omega
theorem c_269_s_5 : vOkm T0 (eP e_269 L_269 A_269 mu_269 none) 4 ([(1, [5, 2, 3], [], 0), (40, [1, 4], [], 0), (0, [4], [], -1), (6000, [0, 1, 2, 3], [0], 0), (0, [0], [], 285), (90, [1], [], -1), (91, [1], [], 7), (90, [2], [], -9999), (91, [2], [], 9999), (90, [3], [], -1000), (91, [3], [], 1000)], (91, [5], [], 10999)) := vOk_inI fun ρ η f0 f1 f2 f3 f4 f5 f6 f7 f8 f9 f10 => q_269_5 (n0 := ρ 3) (n1 := ρ 2) (n2 := ρ 1) (n3 := ρ 0) (n4 := ρ 4) (n5 := ρ 5) (H0 := η 0) f10 f9 f8 f7 f6 f5 f4 f3 f2 f1 f0
theorem q_269_6 {n0 n1 n2 n3 n4 n5 : Int} {H0 : gH} (f0 : n0 ≤ 1000) (f1 : (-1000) ≤ n0) (f2 : n1 ≤ 9999) (f3 : (-9999) ≤ n1) (f4 : n2 ≤ 7) (f5 : (-1) ≤ n2) (f6 : n3 = 285) (f7 : hWt T0 H0 ∧ True) (f8 : n4 = (-1)) (f9 : n2 = n4) (f10 : n5 = w32 (n1 + n0)) : postb_269 n5 n3 n2 n1 n0 H0 H0 := by
  unfold postb_269
  first
  | (have ix0 : n5 = n1 + n0 := Eq.trans f10 (w32_iv (Iad (Iat f3 f2) (Iat f1 f0)) (by decide)); subst ix0; clear f10)
  | (have ix0 : n5 = n1 + n0 := Eq.trans f10 (w32_id (by omega) (by omega)); subst ix0; clear f10)
  | (unfold w32 at f10; have ix0 : n5 = n1 + n0 := (by omega); subst ix0)
  | skip
  try unfold w32 at f10
  first | assumption | omega | trivial
theorem c_269_s_6 : vOkm T0 (eP e_269 L_269 A_269 mu_269 none) 4 ([(1, [5, 2, 3], [], 0), (40, [1, 4], [], 0), (0, [4], [], -1), (6000, [0, 1, 2, 3], [0], 0), (0, [0], [], 285), (90, [1], [], -1), (91, [1], [], 7), (90, [2], [], -9999), (91, [2], [], 9999), (90, [3], [], -1000), (91, [3], [], 1000)], (3000, [5], [0], 19)) := vOk_inI fun ρ η f0 f1 f2 f3 f4 f5 f6 f7 f8 f9 f10 => q_269_6 (n0 := ρ 3) (n1 := ρ 2) (n2 := ρ 1) (n3 := ρ 0) (n4 := ρ 4) (n5 := ρ 5) (H0 := η 0) f10 f9 f8 f7 f6 f5 f4 f3 f2 f1 f0
def p_269_s : List vG := [([(41, [1, 4], [], 0), (0, [4], [], -1), (6000, [0, 1, 2, 3], [0], 0), (0, [0], [], 285), (90, [1], [], -1), (91, [1], [], 7), (90, [2], [], -9999), (91, [2], [], 9999), (90, [3], [], -1000), (91, [3], [], 1000)], (70, [1], [], 8)),
  ([(1, [7, 6, 2], [], 0), (22, [6, 5, 1], [0], 0), (90, [6], [], 0), (91, [6], [], 60), (20, [5, 0], [0], 78), (0, [5], [], 340), (41, [1, 4], [], 0), (0, [4], [], -1), (6000, [0, 1, 2, 3], [0], 0), (0, [0], [], 285), (90, [1], [], -1), (91, [1], [], 7), (90, [2], [], -9999), (91, [2], [], 9999), (90, [3], [], -1000), (91, [3], [], 1000)], (90, [7], [], -10999)),
  ([(1, [7, 6, 2], [], 0), (22, [6, 5, 1], [0], 0), (90, [6], [], 0), (91, [6], [], 60), (20, [5, 0], [0], 78), (0, [5], [], 340), (41, [1, 4], [], 0), (0, [4], [], -1), (6000, [0, 1, 2, 3], [0], 0), (0, [0], [], 285), (90, [1], [], -1), (91, [1], [], 7), (90, [2], [], -9999), (91, [2], [], 9999), (90, [3], [], -1000), (91, [3], [], 1000)], (91, [7], [], 10999)),
  ([(1, [7, 6, 2], [], 0), (22, [6, 5, 1], [0], 0), (90, [6], [], 0), (91, [6], [], 60), (20, [5, 0], [0], 78), (0, [5], [], 340), (41, [1, 4], [], 0), (0, [4], [], -1), (6000, [0, 1, 2, 3], [0], 0), (0, [0], [], 285), (90, [1], [], -1), (91, [1], [], 7), (90, [2], [], -9999), (91, [2], [], 9999), (90, [3], [], -1000), (91, [3], [], 1000)], (3000, [7], [0], 19)),
  ([(1, [5, 2, 3], [], 0), (40, [1, 4], [], 0), (0, [4], [], -1), (6000, [0, 1, 2, 3], [0], 0), (0, [0], [], 285), (90, [1], [], -1), (91, [1], [], 7), (90, [2], [], -9999), (91, [2], [], 9999), (90, [3], [], -1000), (91, [3], [], 1000)], (90, [5], [], -10999)),
  ([(1, [5, 2, 3], [], 0), (40, [1, 4], [], 0), (0, [4], [], -1), (6000, [0, 1, 2, 3], [0], 0), (0, [0], [], 285), (90, [1], [], -1), (91, [1], [], 7), (90, [2], [], -9999), (91, [2], [], 9999), (90, [3], [], -1000), (91, [3], [], 1000)], (91, [5], [], 10999)),
  ([(1, [5, 2, 3], [], 0), (40, [1, 4], [], 0), (0, [4], [], -1), (6000, [0, 1, 2, 3], [0], 0), (0, [0], [], 285), (90, [1], [], -1), (91, [1], [], 7), (90, [2], [], -9999), (91, [2], [], 9999), (90, [3], [], -1000), (91, [3], [], 1000)], (3000, [5], [0], 19))]
theorem r_269_s : vCovO false (eR0 e_269 L_269 cs_269 2000) p_269_s = true := by decide +kernel
theorem m_269 (d : Nat) : eC e_269 (d + 1) := eC_ok (e := e_269) (L := L_269) (cs := cs_269) (n := 2000) (d := d + 0) (A := A_269) (μ := mu_269) (tp := false) (p0 := p_269_s) rfl trivial rfl (.inr pre0_ok) (by decide +kernel) (fun z => nomatch z) r_269_s (allC c_269_s_0 (allC c_269_s_1 (allC c_269_s_2 (allC c_269_s_3 (allC c_269_s_4 (allC c_269_s_5 (allC c_269_s_6 allN))))))) allN
/- MixStageModel.unfolds (I)V -/
noncomputable def s_270 : vM := ([(3, 12, 285, 0), (0, 0, 7, 0)], (9, 0, 0, 0), 1, 0, [(12, 82), (580, 0), (588, 0), (596, 0), (604, 0), (612, 0)])
def preb_270 (a0 a1 : Int) (h : gH) : Prop := a1 < hV h 285 18 ∧ PG h
def pre_270 : List Int → gH → Prop := fun xs h => match xs with
  | [a0, a1] => preb_270 a0 a1 h
  | _ => False
def postb_270 (a0 a1 : Int) (h0 h : gH) : Prop := XLp (hV h 296) (hV h 298) (hV h 300) (hV h 344) (a1).toNat (hV h 285 82) ∧ XQ h
def post_270 : List Int → gH → gH → Prop := fun xs h0 h => match xs with
  | [a0, a1] => postb_270 a0 a1 h0 h
  | _ => True
noncomputable def e_270 : vE := (270, s_270, pre_270, post_270)
noncomputable def L_270 : List vE := [e_269]
def cs_270 : List vC := [(34, [(0, (3, 12, 285, 0)), (1, (0, 0, 7, 0)), (2, (0, -1, 6, 0))])]
def Ab_270_34 (a0 a1 x0 x1 x2 : Int) (h0 h : gH) : Prop := x1 = a1 ∧ LVp (hV h 294) (hV h 296) (hV h 346) (hV h 347) (a1).toNat x2 ∧ SHp (hV h 348) x2 ∧ ULp (hV h 296) (hV h 298) (hV h 300) (hV h 344) (hV h 346) (hV h 347) (a1).toNat (hV h 285 82) x2
def mub_270_34 (a0 a1 x0 x1 x2 : Int) (h0 h : gH) : Nat := MS (hV h 296) (7 * (a1).toNat) (hV h 346) (hV h 347) (x2 + 1).toNat
def A_270 : Int → List Int → gH → gH → Prop := fun c xs h0 h => match c.toNat with
  | 34 => (match xs with
    | [a0, a1, x0, x1, x2] => Ab_270_34 a0 a1 x0 x1 x2 h0 h
    | _ => False)
  | _ => True
def mu_270 : Int → List Int → gH → gH → Nat := fun c xs h0 h => match c.toNat with
  | 34 => (match xs with
    | [a0, a1, x0, x1, x2] => mub_270_34 a0 a1 x0 x1 x2 h0 h
    | _ => 0)
  | _ => 0
theorem q_270_0 {n0 n1 n2 n3 n4 n5 : Int} {H0 : gH} (f0 : n0 ≤ 7) (f1 : 0 ≤ n0) (f2 : n1 = 285) (f3 : hWt T0 H0 ∧ preb_270 n1 n0 H0) (f4 : n2 = 7) (f5 : n3 = w32 (n2 * n0)) (f6 : n4 = 6) (f7 : n5 = w32 (n3 + n4)) : 0 ≤ n5 := by
  unfold preb_270 at f3
  have e0 : (0 : Int) ≤ hV H0 285 18 ∧ hV H0 285 18 ≤ 8 := f3.1 285 18 _ _ kW_285_18
  have p0 := f3.2.1
  have p1 := f3.2.2
  rw [f4] at f5
  first
  | (have ix0 : n3 = 7 * n0 := Eq.trans f5 (w32_iv (Iml 7 rfl (Iat f1 f0)) (by decide)); subst ix0; clear f5)
  | (have ix0 : n3 = 7 * n0 := Eq.trans f5 (w32_id (by omega) (by omega)); subst ix0; clear f5)
  | (unfold w32 at f5; have ix0 : n3 = 7 * n0 := (by omega); subst ix0)
  | skip
  first
  | (have ix1 : n5 = (7 * n0) + 6 := Eq.trans f7 (w32_iv (Iad (Iml 7 rfl (Iat f1 f0)) (IC 6)) (by decide)); subst ix1; clear f7)
  | (have ix1 : n5 = (7 * n0) + 6 := Eq.trans f7 (w32_id (by omega) (by omega)); subst ix1; clear f7)
  | (unfold w32 at f7; have ix1 : n5 = (7 * n0) + 6 := (by omega); subst ix1)
  | skip
  try unfold w32 at f5
  try unfold w32 at f7
  omega
theorem c_270_s_0 : vOkm T0 (eP e_270 L_270 A_270 mu_270 none) 2 ([(1, [10, 8, 9], [], 0), (0, [9], [], 6), (3, [8, 7, 1], [], 0), (0, [7], [], 7), (6000, [0, 1], [0], 0), (0, [0], [], 285), (90, [1], [], 0), (91, [1], [], 7)], (90, [10], [], 0)) := vOk_inI fun ρ η f0 f1 f2 f3 f4 f5 f6 f7 => q_270_0 (n0 := ρ 1) (n1 := ρ 0) (n2 := ρ 7) (n3 := ρ 8) (n4 := ρ 9) (n5 := ρ 10) (H0 := η 0) f7 f6 f5 f4 f3 f2 f1 f0
theorem q_270_1 {n0 n1 n2 n3 n4 n5 : Int} {H0 : gH} (f0 : n0 ≤ 7) (f1 : 0 ≤ n0) (f2 : n1 = 285) (f3 : hWt T0 H0 ∧ preb_270 n1 n0 H0) (f4 : n2 = 7) (f5 : n3 = w32 (n2 * n0)) (f6 : n4 = 6) (f7 : n5 = w32 (n3 + n4)) : n5 ≤ 62 := by
  unfold preb_270 at f3
  have e0 : (0 : Int) ≤ hV H0 285 18 ∧ hV H0 285 18 ≤ 8 := f3.1 285 18 _ _ kW_285_18
  have p0 := f3.2.1
  have p1 := f3.2.2
  rw [f4] at f5
  first
  | (have ix0 : n3 = 7 * n0 := Eq.trans f5 (w32_iv (Iml 7 rfl (Iat f1 f0)) (by decide)); subst ix0; clear f5)
  | (have ix0 : n3 = 7 * n0 := Eq.trans f5 (w32_id (by omega) (by omega)); subst ix0; clear f5)
  | (unfold w32 at f5; have ix0 : n3 = 7 * n0 := (by omega); subst ix0)
  | skip
  first
  | (have ix1 : n5 = (7 * n0) + 6 := Eq.trans f7 (w32_iv (Iad (Iml 7 rfl (Iat f1 f0)) (IC 6)) (by decide)); subst ix1; clear f7)
  | (have ix1 : n5 = (7 * n0) + 6 := Eq.trans f7 (w32_id (by omega) (by omega)); subst ix1; clear f7)
  | (unfold w32 at f7; have ix1 : n5 = (7 * n0) + 6 := (by omega); subst ix1)
  | skip
  try unfold w32 at f5
  try unfold w32 at f7
  omega
theorem c_270_s_1 : vOkm T0 (eP e_270 L_270 A_270 mu_270 none) 2 ([(1, [10, 8, 9], [], 0), (0, [9], [], 6), (3, [8, 7, 1], [], 0), (0, [7], [], 7), (6000, [0, 1], [0], 0), (0, [0], [], 285), (90, [1], [], 0), (91, [1], [], 7)], (91, [10], [], 62)) := vOk_inI fun ρ η f0 f1 f2 f3 f4 f5 f6 f7 => q_270_1 (n0 := ρ 1) (n1 := ρ 0) (n2 := ρ 7) (n3 := ρ 8) (n4 := ρ 9) (n5 := ρ 10) (H0 := η 0) f7 f6 f5 f4 f3 f2 f1 f0
theorem q_270_2 {n0 n1 n2 n3 n4 n5 n6 n7 n8 n9 n10 n11 n12 n13 n14 n15 n16 : Int} {H0 H1 H2 H3 H4 : gH} (f0 : n0 ≤ 7) (f1 : 0 ≤ n0) (f2 : n1 = 285) (f3 : hWt T0 H0 ∧ preb_270 n1 n0 H0) (f4 : n2 = 0) (f5 : n3 = 82) (f6 : hUpd H1 H0 n1 n3 n2) (f7 : n4 = 0) (f8 : n5 = 346) (f9 : n5 = hV H1 (n1).toNat 85) (f10 : n6 = 0) (f11 : n7 = 7) (f12 : n8 = w32 (n7 * n0)) (f13 : n9 = 6) (f14 : n10 = w32 (n8 + n9)) (f15 : hUpd H2 H1 n5 n6 n10) (f16 : n11 = 347) (f17 : n11 = hV H2 (n1).toNat 86) (f18 : n12 = 0) (f19 : n13 = 0) (f20 : hUpd H3 H2 n11 n12 n13) (f21 : n14 = 348) (f22 : n14 = hV H3 (n1).toNat 87) (f23 : n15 = 0) (f24 : n16 = 0) (f25 : hUpd H4 H3 n14 n15 n16) : Ab_270_34 n1 n0 n1 n0 n4 H0 H4 ∧ ∀ q, none = some q → mub_270_34 n1 n0 n1 n0 n4 H0 H4 < q := by
  unfold preb_270 at f3
  unfold Ab_270_34
  have e4 : hV H4 285 82 = n2 := ((uSlot f25 285 82 (iS (show n15 = ((0 : Nat) : Int) from f23) rfl))).trans (((uSlot f20 285 82 (iS (show n12 = ((0 : Nat) : Int) from f18) rfl))).trans (((uSlot f15 285 82 (iS (show n6 = ((0 : Nat) : Int) from f10) rfl))).trans (uSame f6 285 82 f2.symm f5.symm)))
  have e11 : hV H4 294 = hV H0 294 := (uRowNe f25 294 (iS (show n14 = ((348 : Nat) : Int) from f21) rfl)).trans ((uRowNe f20 294 (iS (show n11 = ((347 : Nat) : Int) from f16) rfl)).trans ((uRowNe f15 294 (iS (show n5 = ((346 : Nat) : Int) from f8) rfl)).trans (uRowNe f6 294 (iS (show n1 = ((285 : Nat) : Int) from f2) rfl))))
  have e18 : hV H4 296 = hV H0 296 := (uRowNe f25 296 (iS (show n14 = ((348 : Nat) : Int) from f21) rfl)).trans ((uRowNe f20 296 (iS (show n11 = ((347 : Nat) : Int) from f16) rfl)).trans ((uRowNe f15 296 (iS (show n5 = ((346 : Nat) : Int) from f8) rfl)).trans (uRowNe f6 296 (iS (show n1 = ((285 : Nat) : Int) from f2) rfl))))
  have e25 : hV H4 298 = hV H0 298 := (uRowNe f25 298 (iS (show n14 = ((348 : Nat) : Int) from f21) rfl)).trans ((uRowNe f20 298 (iS (show n11 = ((347 : Nat) : Int) from f16) rfl)).trans ((uRowNe f15 298 (iS (show n5 = ((346 : Nat) : Int) from f8) rfl)).trans (uRowNe f6 298 (iS (show n1 = ((285 : Nat) : Int) from f2) rfl))))
  have e32 : hV H4 300 = hV H0 300 := (uRowNe f25 300 (iS (show n14 = ((348 : Nat) : Int) from f21) rfl)).trans ((uRowNe f20 300 (iS (show n11 = ((347 : Nat) : Int) from f16) rfl)).trans ((uRowNe f15 300 (iS (show n5 = ((346 : Nat) : Int) from f8) rfl)).trans (uRowNe f6 300 (iS (show n1 = ((285 : Nat) : Int) from f2) rfl))))
  have e39 : hV H4 344 = hV H0 344 := (uRowNe f25 344 (iS (show n14 = ((348 : Nat) : Int) from f21) rfl)).trans ((uRowNe f20 344 (iS (show n11 = ((347 : Nat) : Int) from f16) rfl)).trans ((uRowNe f15 344 (iS (show n5 = ((346 : Nat) : Int) from f8) rfl)).trans (uRowNe f6 344 (iS (show n1 = ((285 : Nat) : Int) from f2) rfl))))
  have e46 : hV H4 346 = (uF (hV H0 346) n6 n10) := (uRowNe f25 346 (iS (show n14 = ((348 : Nat) : Int) from f21) rfl)).trans ((uRowNe f20 346 (iS (show n11 = ((347 : Nat) : Int) from f16) rfl)).trans ((uRow f15 346 f8.symm).trans (congrArg (fun z => uF z n6 n10) (uRowNe f6 346 (iS (show n1 = ((285 : Nat) : Int) from f2) rfl)))))
  have e53 : hV H4 347 = (uF (hV H0 347) n12 n13) := (uRowNe f25 347 (iS (show n14 = ((348 : Nat) : Int) from f21) rfl)).trans ((uRow f20 347 f16.symm).trans (congrArg (fun z => uF z n12 n13) ((uRowNe f15 347 (iS (show n5 = ((346 : Nat) : Int) from f8) rfl)).trans (uRowNe f6 347 (iS (show n1 = ((285 : Nat) : Int) from f2) rfl)))))
  have e60 : hV H4 348 = (uF (hV H0 348) n15 n16) := (uRow f25 348 f21.symm).trans (congrArg (fun z => uF z n15 n16) ((uRowNe f20 348 (iS (show n11 = ((347 : Nat) : Int) from f16) rfl)).trans ((uRowNe f15 348 (iS (show n5 = ((346 : Nat) : Int) from f8) rfl)).trans (uRowNe f6 348 (iS (show n1 = ((285 : Nat) : Int) from f2) rfl)))))
  have e61 : (0 : Int) ≤ hV H0 285 18 ∧ hV H0 285 18 ≤ 8 := f3.1 285 18 _ _ kW_285_18
  try simp only [e4, e11, e18, e25, e32, e39, e46, e53, e60]
  have p0 := f3.2.1
  have p1 := f3.2.2
  clear f9 f17 f22 e11 e18 e25 e32 e39 e46 e53 e60
  rw [f11] at f12
  first
  | (have ix0 : n8 = 7 * n0 := Eq.trans f12 (w32_iv (Iml 7 rfl (Iat f1 f0)) (by decide)); subst ix0; clear f12)
  | (have ix0 : n8 = 7 * n0 := Eq.trans f12 (w32_id (by omega) (by omega)); subst ix0; clear f12)
  | (unfold w32 at f12; have ix0 : n8 = 7 * n0 := (by omega); subst ix0)
  | skip
  first
  | (have ix1 : n10 = (7 * n0) + 6 := Eq.trans f14 (w32_iv (Iad (Iml 7 rfl (Iat f1 f0)) (IC 6)) (by decide)); subst ix1; clear f14)
  | (have ix1 : n10 = (7 * n0) + 6 := Eq.trans f14 (w32_id (by omega) (by omega)); subst ix1; clear f14)
  | (unfold w32 at f14; have ix1 : n10 = (7 * n0) + 6 := (by omega); subst ix1)
  | skip
  try unfold w32 at f12
  try unfold w32 at f14

  have pg := p1 (n0).toNat (by omega)
  have pr := (pg.2.1 6 (.inr rfl)).1
  refine ⟨⟨by first | omega | trivial, LVp_first (by omega) (by omega) (by omega) (by omega) (by omega) (by omega), SHp_first (by omega) (by omega) (by omega), ULp_first (by omega) (by omega) (by omega) (by omega) (by omega) (by omega)⟩, fun q hq => nomatch hq⟩
theorem c_270_s_2 : vOkm T0 (eP e_270 L_270 A_270 mu_270 none) 2 ([(80, [14, 15, 16], [4, 3], 0), (0, [16], [], 0), (0, [15], [], 0), (20, [14, 0], [3], 87), (0, [14], [], 348), (80, [11, 12, 13], [3, 2], 0), (0, [13], [], 0), (0, [12], [], 0), (20, [11, 0], [2], 86), (0, [11], [], 347), (80, [5, 6, 10], [2, 1], 0), (1, [10, 8, 9], [], 0), (0, [9], [], 6), (3, [8, 7, 1], [], 0), (0, [7], [], 7), (0, [6], [], 0), (20, [5, 0], [1], 85), (0, [5], [], 346), (0, [4], [], 0), (80, [0, 3, 2], [1, 0], 0), (0, [3], [], 82), (0, [2], [], 0), (6000, [0, 1], [0], 0), (0, [0], [], 285), (90, [1], [], 0), (91, [1], [], 7)], (4000, [0, 1, 4], [4], 34)) := vOk_inI fun ρ η f0 f1 f2 f3 f4 f5 f6 f7 f8 f9 f10 f11 f12 f13 f14 f15 f16 f17 f18 f19 f20 f21 f22 f23 f24 f25 => q_270_2 (n0 := ρ 1) (n1 := ρ 0) (n2 := ρ 2) (n3 := ρ 3) (n4 := ρ 4) (n5 := ρ 5) (n6 := ρ 6) (n7 := ρ 7) (n8 := ρ 8) (n9 := ρ 9) (n10 := ρ 10) (n11 := ρ 11) (n12 := ρ 12) (n13 := ρ 13) (n14 := ρ 14) (n15 := ρ 15) (n16 := ρ 16) (H0 := η 0) (H1 := η 1) (H2 := η 2) (H3 := η 3) (H4 := η 4) f25 f24 f23 f22 f21 f20 f19 f18 f17 f16 f15 f14 f13 f12 f11 f10 f9 f8 f7 f6 f5 f4 f3 f2 f1 f0
def p_270_s : List vG := [([(1, [10, 8, 9], [], 0), (0, [9], [], 6), (3, [8, 7, 1], [], 0), (0, [7], [], 7), (6000, [0, 1], [0], 0), (0, [0], [], 285), (90, [1], [], 0), (91, [1], [], 7)], (90, [10], [], 0)),
  ([(1, [10, 8, 9], [], 0), (0, [9], [], 6), (3, [8, 7, 1], [], 0), (0, [7], [], 7), (6000, [0, 1], [0], 0), (0, [0], [], 285), (90, [1], [], 0), (91, [1], [], 7)], (91, [10], [], 62)),
  ([(80, [14, 15, 16], [4, 3], 0), (0, [16], [], 0), (0, [15], [], 0), (20, [14, 0], [3], 87), (0, [14], [], 348), (80, [11, 12, 13], [3, 2], 0), (0, [13], [], 0), (0, [12], [], 0), (20, [11, 0], [2], 86), (0, [11], [], 347), (80, [5, 6, 10], [2, 1], 0), (1, [10, 8, 9], [], 0), (0, [9], [], 6), (3, [8, 7, 1], [], 0), (0, [7], [], 7), (0, [6], [], 0), (20, [5, 0], [1], 85), (0, [5], [], 346), (0, [4], [], 0), (80, [0, 3, 2], [1, 0], 0), (0, [3], [], 82), (0, [2], [], 0), (6000, [0, 1], [0], 0), (0, [0], [], 285), (90, [1], [], 0), (91, [1], [], 7)], (4000, [0, 1, 4], [4], 34))]
theorem r_270_s : vCovO false (eR0 e_270 L_270 cs_270 2000) p_270_s = true := by decide +kernel
theorem kR_270_294 : vFreeR s_270.2.2.2.2 294 = true := by decide +kernel
theorem kR_270_296 : vFreeR s_270.2.2.2.2 296 = true := by decide +kernel
theorem kR_270_298 : vFreeR s_270.2.2.2.2 298 = true := by decide +kernel
theorem kR_270_300 : vFreeR s_270.2.2.2.2 300 = true := by decide +kernel
theorem kR_270_301 : vFreeR s_270.2.2.2.2 301 = true := by decide +kernel
theorem kR_270_302 : vFreeR s_270.2.2.2.2 302 = true := by decide +kernel
theorem kR_270_303 : vFreeR s_270.2.2.2.2 303 = true := by decide +kernel
theorem kR_270_305 : vFreeR s_270.2.2.2.2 305 = true := by decide +kernel
theorem kF_270_285_18 : vFree s_270.2.2.2.2 285 18 = true := by decide +kernel
theorem kW_285_82 : vRg T0 285 82 (0) (40) = true := by decide +kernel
theorem q_270_3 {q0 : Nat} {n0 n1 n2 n3 n4 : Int} {H0 H1 : gH} (f0 : n0 ≤ 6) (f1 : (-1) ≤ n0) (f2 : n1 ≤ 7) (f3 : 0 ≤ n1) (f4 : n2 = 285) (f5 : n3 ≤ 7) (f6 : 0 ≤ n3) (f7 : n4 = 285) (f8 : (hLe T0 H0 H1 ∧ hFr s_270.2.2.2.2 H0 H1 ∧ hWt T0 H1) ∧ (Ab_270_34 n4 n3 n2 n1 n0 H0 H1 ∧ preb_270 n4 n3 H0) ∧ some q0 = some (mub_270_34 n4 n3 n2 n1 n0 H0 H1)) (f9 : n0 < 0) : postb_270 n4 n3 H0 H1 := by
  have g4 := f8.2.1.1
  unfold Ab_270_34 at g4
  have g3 := f8.2.1.2
  unfold preb_270 at g3
  unfold postb_270
  have e2 : hV H1 294 = hV H0 294 := fRow f8.1.2.1 294 kR_270_294
  have e3 : hV H1 296 = hV H0 296 := fRow f8.1.2.1 296 kR_270_296
  have e4 : hV H1 298 = hV H0 298 := fRow f8.1.2.1 298 kR_270_298
  have e5 : hV H1 300 = hV H0 300 := fRow f8.1.2.1 300 kR_270_300
  have e6 : hV H1 301 = hV H0 301 := fRow f8.1.2.1 301 kR_270_301
  have e7 : hV H1 302 = hV H0 302 := fRow f8.1.2.1 302 kR_270_302
  have e8 : hV H1 303 = hV H0 303 := fRow f8.1.2.1 303 kR_270_303
  have e9 : hV H1 305 = hV H0 305 := fRow f8.1.2.1 305 kR_270_305
  have e10 : (0 : Int) ≤ hV H0 285 18 ∧ hV H0 285 18 ≤ 8 := bTo ((f8.1.2.1.1 285 18 kF_270_285_18)) (f8.1.2.2 285 18 _ _ kW_285_18)
  have e11 : (0 : Int) ≤ hV H1 285 82 ∧ hV H1 285 82 ≤ 40 := f8.1.2.2 285 82 _ _ kW_285_82
  try simp only [XQ] at *
  try simp only [e2, e3, e4, e5] at g4
  try simp only [e3, e4, e5, e6, e7, e8, e9]
  have k0 := g4.1
  have y0 := g4.2.1
  have y1 := g4.2.2.1
  have y2 := g4.2.2.2
  have p0 := g3.1
  have p1 := g3.2
  clear g3
  clear g4
  clear e2 e3 e4 e5 e6 e7 e8 e9
  try have ca := cue_at (p1 (n3).toNat (by omega)) y0 (by omega) (by omega) (c := (16 * hV H1 346 (n0).toNat + hV H1 347 (n0).toNat)) (by omega)
  try have sh := y1 (n0).toNat (by omega)
  try have lv := y0 (n0).toNat (by omega)

  have xl := ULp_end y2 (by omega)
  exact ⟨xl, XLp_good xl (p1 (n3).toNat (by omega))⟩
theorem c_270_34_0 {q0 : Nat} : vOkm T0 (eP e_270 L_270 A_270 mu_270 (some q0)) 2 ([(32, [4], [], 0), (5000, [0, 1, 2, 3, 4], [0, 1], 34), (0, [0], [], 285), (90, [1], [], 0), (91, [1], [], 7), (0, [2], [], 285), (90, [3], [], 0), (91, [3], [], 7), (90, [4], [], -1), (91, [4], [], 6)], (3000, [], [1], 203)) := vOk_inI fun ρ η f0 f1 f2 f3 f4 f5 f6 f7 f8 f9 => q_270_3 (q0 := q0) (n0 := ρ 4) (n1 := ρ 3) (n2 := ρ 2) (n3 := ρ 1) (n4 := ρ 0) (H0 := η 0) (H1 := η 1) f9 f8 f7 f6 f5 f4 f3 f2 f1 f0
theorem q_270_4 {q0 : Nat} {n0 n1 n2 n3 n4 n5 n6 n7 n8 n9 n10 n11 n12 n13 n14 n15 n16 n17 n18 n19 n20 n21 : Int} {H0 H1 : gH} (f0 : n0 ≤ 6) (f1 : (-1) ≤ n0) (f2 : n1 ≤ 7) (f3 : 0 ≤ n1) (f4 : n2 = 285) (f5 : n3 ≤ 7) (f6 : 0 ≤ n3) (f7 : n4 = 285) (f8 : (hLe T0 H0 H1 ∧ hFr s_270.2.2.2.2 H0 H1 ∧ hWt T0 H1) ∧ (Ab_270_34 n4 n3 n2 n1 n0 H0 H1 ∧ preb_270 n4 n3 H0) ∧ some q0 = some (mub_270_34 n4 n3 n2 n1 n0 H0 H1)) (f9 : 0 ≤ n0) (f10 : n5 = 347) (f11 : n5 = hV H1 (n2).toNat 86) (f12 : n6 ≤ 16) (f13 : 0 ≤ n6) (f14 : n6 = hV H1 (n5).toNat (n0).toNat) (f15 : n7 = 296) (f16 : n7 = hV H1 (n2).toNat 22) (f17 : n8 = 346) (f18 : n8 = hV H1 (n2).toNat 85) (f19 : n9 ≤ 62) (f20 : 0 ≤ n9) (f21 : n9 = hV H1 (n8).toNat (n0).toNat) (f22 : n10 ≤ 16) (f23 : 0 ≤ n10) (f24 : n10 = hV H1 (n7).toNat (n9).toNat) (f25 : n6 ≠ n10) (f26 : n11 = 16) (f27 : n12 = 346) (f28 : n12 = hV H1 (n2).toNat 85) (f29 : n13 ≤ 62) (f30 : 0 ≤ n13) (f31 : n13 = hV H1 (n12).toNat (n0).toNat) (f32 : n14 = w32 (n11 * n13)) (f33 : n15 = 347) (f34 : n15 = hV H1 (n2).toNat 86) (f35 : n16 ≤ 16) (f36 : 0 ≤ n16) (f37 : n16 = hV H1 (n15).toNat (n0).toNat) (f38 : n17 = w32 (n14 + n16)) (f39 : n18 = 347) (f40 : n18 = hV H1 (n2).toNat 86) (f41 : n19 ≤ 16) (f42 : 0 ≤ n19) (f43 : n19 = hV H1 (n18).toNat (n0).toNat) (f44 : n20 = 1) (f45 : n21 = w32 (n19 + n20)) : 0 ≤ n21 := by
  have g4 := f8.2.1.1
  unfold Ab_270_34 at g4
  have g3 := f8.2.1.2
  unfold preb_270 at g3
  have e0 : n6 = hV H1 347 (n0).toNat := (by rw [f10] at f14; exact f14 : n6 = hV H1 347 (n0).toNat)
  have e1 : n9 = hV H1 346 (n0).toNat := (by rw [f17] at f21; exact f21 : n9 = hV H1 346 (n0).toNat)
  have e2 : hV H1 296 = hV H0 296 := fRow f8.1.2.1 296 kR_270_296
  have e3 : n10 = hV H0 296 (n9).toNat := (by rw [f15] at f24; exact f24 : n10 = hV H1 296 (n9).toNat).trans ((congrFun e2 _))
  have e4 : n13 = hV H1 346 (n0).toNat := (by rw [f27] at f31; exact f31 : n13 = hV H1 346 (n0).toNat)
  have e5 : n16 = hV H1 347 (n0).toNat := (by rw [f33] at f37; exact f37 : n16 = hV H1 347 (n0).toNat)
  have e6 : n19 = hV H1 347 (n0).toNat := (by rw [f39] at f43; exact f43 : n19 = hV H1 347 (n0).toNat)
  have e9 : hV H1 294 = hV H0 294 := fRow f8.1.2.1 294 kR_270_294
  have e10 : hV H1 298 = hV H0 298 := fRow f8.1.2.1 298 kR_270_298
  have e11 : hV H1 300 = hV H0 300 := fRow f8.1.2.1 300 kR_270_300
  have e12 : (0 : Int) ≤ hV H0 285 18 ∧ hV H0 285 18 ≤ 8 := bTo ((f8.1.2.1.1 285 18 kF_270_285_18)) (f8.1.2.2 285 18 _ _ kW_285_18)
  have e13 : (0 : Int) ≤ hV H1 285 82 ∧ hV H1 285 82 ≤ 40 := f8.1.2.2 285 82 _ _ kW_285_82
  try simp only [e9, e2, e10, e11] at g4
  have k0 := g4.1
  have y0 := g4.2.1
  have y1 := g4.2.2.1
  have y2 := g4.2.2.2
  have p0 := g3.1
  have p1 := g3.2
  clear g3
  clear g4
  clear f11 f14 f16 f18 f21 f24 f28 f31 f34 f37 f40 f43 e2 e9 e10 e11
  subst e0
  subst e1
  subst e3
  subst e4
  subst e5
  subst e6
  rw [f26] at f32
  try have ca := cue_at (p1 (n3).toNat (by omega)) y0 (by omega) (by omega) (c := (16 * hV H1 346 (n0).toNat + hV H1 347 (n0).toNat)) (by omega)
  try have sh := y1 (n0).toNat (by omega)
  try have lv := y0 (n0).toNat (by omega)
  first
  | (have ix0 : n21 = hV H1 347 (n0).toNat + 1 := Eq.trans f45 (w32_iv (Iad (Iat f13 f12) (IC 1)) (by decide)); subst ix0; clear f45)
  | (have ix0 : n21 = hV H1 347 (n0).toNat + 1 := Eq.trans f45 (w32_id (by omega) (by omega)); subst ix0; clear f45)
  | (unfold w32 at f45; have ix0 : n21 = hV H1 347 (n0).toNat + 1 := (by omega); subst ix0)
  | skip
  try unfold w32 at f32
  try unfold w32 at f38
  try unfold w32 at f45

  first
  | omega
  | (have ca := cue_at (p1 (n3).toNat (by omega)) y0 (by omega) (by omega) (c := (16 * hV H1 346 (n0).toNat + hV H1 347 (n0).toNat)) (by omega)
     omega)
  | (have ua := use_at (p1 (n3).toNat (by omega)) y0 (by omega) (by omega) (c := (16 * hV H1 346 (n0).toNat + hV H1 347 (n0).toNat)) (by omega) (by omega)
     omega)
  | (have ul := ULp_lay y2 (p1 (n3).toNat (by omega)) y0 (by omega) (by omega) (by omega) (c := (16 * hV H1 346 (n0).toNat + hV H1 347 (n0).toNat)) (by omega) (by omega)
     omega)
theorem c_270_34_1 {q0 : Nat} : vOkm T0 (eP e_270 L_270 A_270 mu_270 (some q0)) 2 ([(1, [21, 19, 20], [], 0), (0, [20], [], 1), (22, [19, 18, 4], [1], 0), (90, [19], [], 0), (91, [19], [], 16), (20, [18, 2], [1], 86), (0, [18], [], 347), (1, [17, 14, 16], [], 0), (22, [16, 15, 4], [1], 0), (90, [16], [], 0), (91, [16], [], 16), (20, [15, 2], [1], 86), (0, [15], [], 347), (3, [14, 11, 13], [], 0), (22, [13, 12, 4], [1], 0), (90, [13], [], 0), (91, [13], [], 62), (20, [12, 2], [1], 85), (0, [12], [], 346), (0, [11], [], 16), (41, [6, 10], [], 0), (22, [10, 7, 9], [1], 0), (90, [10], [], 0), (91, [10], [], 16), (22, [9, 8, 4], [1], 0), (90, [9], [], 0), (91, [9], [], 62), (20, [8, 2], [1], 85), (0, [8], [], 346), (20, [7, 2], [1], 22), (0, [7], [], 296), (22, [6, 5, 4], [1], 0), (90, [6], [], 0), (91, [6], [], 16), (20, [5, 2], [1], 86), (0, [5], [], 347), (33, [4], [], 0), (5000, [0, 1, 2, 3, 4], [0, 1], 34), (0, [0], [], 285), (90, [1], [], 0), (91, [1], [], 7), (0, [2], [], 285), (90, [3], [], 0), (91, [3], [], 7), (90, [4], [], -1), (91, [4], [], 6)], (90, [21], [], 0)) := vOk_inI fun ρ η f0 f1 f2 f3 f4 f5 f6 f7 f8 f9 f10 f11 f12 f13 f14 f15 f16 f17 f18 f19 f20 f21 f22 f23 f24 f25 f26 f27 f28 f29 f30 f31 f32 f33 f34 f35 f36 f37 f38 f39 f40 f41 f42 f43 f44 f45 => q_270_4 (q0 := q0) (n0 := ρ 4) (n1 := ρ 3) (n2 := ρ 2) (n3 := ρ 1) (n4 := ρ 0) (n5 := ρ 5) (n6 := ρ 6) (n7 := ρ 7) (n8 := ρ 8) (n9 := ρ 9) (n10 := ρ 10) (n11 := ρ 11) (n12 := ρ 12) (n13 := ρ 13) (n14 := ρ 14) (n15 := ρ 15) (n16 := ρ 16) (n17 := ρ 17) (n18 := ρ 18) (n19 := ρ 19) (n20 := ρ 20) (n21 := ρ 21) (H0 := η 0) (H1 := η 1) f45 f44 f43 f42 f41 f40 f39 f38 f37 f36 f35 f34 f33 f32 f31 f30 f29 f28 f27 f26 f25 f24 f23 f22 f21 f20 f19 f18 f17 f16 f15 f14 f13 f12 f11 f10 f9 f8 f7 f6 f5 f4 f3 f2 f1 f0
theorem q_270_5 {q0 : Nat} {n0 n1 n2 n3 n4 n5 n6 n7 n8 n9 n10 n11 n12 n13 n14 n15 n16 n17 n18 n19 n20 n21 : Int} {H0 H1 : gH} (f0 : n0 ≤ 6) (f1 : (-1) ≤ n0) (f2 : n1 ≤ 7) (f3 : 0 ≤ n1) (f4 : n2 = 285) (f5 : n3 ≤ 7) (f6 : 0 ≤ n3) (f7 : n4 = 285) (f8 : (hLe T0 H0 H1 ∧ hFr s_270.2.2.2.2 H0 H1 ∧ hWt T0 H1) ∧ (Ab_270_34 n4 n3 n2 n1 n0 H0 H1 ∧ preb_270 n4 n3 H0) ∧ some q0 = some (mub_270_34 n4 n3 n2 n1 n0 H0 H1)) (f9 : 0 ≤ n0) (f10 : n5 = 347) (f11 : n5 = hV H1 (n2).toNat 86) (f12 : n6 ≤ 16) (f13 : 0 ≤ n6) (f14 : n6 = hV H1 (n5).toNat (n0).toNat) (f15 : n7 = 296) (f16 : n7 = hV H1 (n2).toNat 22) (f17 : n8 = 346) (f18 : n8 = hV H1 (n2).toNat 85) (f19 : n9 ≤ 62) (f20 : 0 ≤ n9) (f21 : n9 = hV H1 (n8).toNat (n0).toNat) (f22 : n10 ≤ 16) (f23 : 0 ≤ n10) (f24 : n10 = hV H1 (n7).toNat (n9).toNat) (f25 : n6 ≠ n10) (f26 : n11 = 16) (f27 : n12 = 346) (f28 : n12 = hV H1 (n2).toNat 85) (f29 : n13 ≤ 62) (f30 : 0 ≤ n13) (f31 : n13 = hV H1 (n12).toNat (n0).toNat) (f32 : n14 = w32 (n11 * n13)) (f33 : n15 = 347) (f34 : n15 = hV H1 (n2).toNat 86) (f35 : n16 ≤ 16) (f36 : 0 ≤ n16) (f37 : n16 = hV H1 (n15).toNat (n0).toNat) (f38 : n17 = w32 (n14 + n16)) (f39 : n18 = 347) (f40 : n18 = hV H1 (n2).toNat 86) (f41 : n19 ≤ 16) (f42 : 0 ≤ n19) (f43 : n19 = hV H1 (n18).toNat (n0).toNat) (f44 : n20 = 1) (f45 : n21 = w32 (n19 + n20)) : n21 ≤ 16 := by
  have g4 := f8.2.1.1
  unfold Ab_270_34 at g4
  have g3 := f8.2.1.2
  unfold preb_270 at g3
  have e0 : n6 = hV H1 347 (n0).toNat := (by rw [f10] at f14; exact f14 : n6 = hV H1 347 (n0).toNat)
  have e1 : n9 = hV H1 346 (n0).toNat := (by rw [f17] at f21; exact f21 : n9 = hV H1 346 (n0).toNat)
  have e2 : hV H1 296 = hV H0 296 := fRow f8.1.2.1 296 kR_270_296
  have e3 : n10 = hV H0 296 (n9).toNat := (by rw [f15] at f24; exact f24 : n10 = hV H1 296 (n9).toNat).trans ((congrFun e2 _))
  have e4 : n13 = hV H1 346 (n0).toNat := (by rw [f27] at f31; exact f31 : n13 = hV H1 346 (n0).toNat)
  have e5 : n16 = hV H1 347 (n0).toNat := (by rw [f33] at f37; exact f37 : n16 = hV H1 347 (n0).toNat)
  have e6 : n19 = hV H1 347 (n0).toNat := (by rw [f39] at f43; exact f43 : n19 = hV H1 347 (n0).toNat)
  have e9 : hV H1 294 = hV H0 294 := fRow f8.1.2.1 294 kR_270_294
  have e10 : hV H1 298 = hV H0 298 := fRow f8.1.2.1 298 kR_270_298
  have e11 : hV H1 300 = hV H0 300 := fRow f8.1.2.1 300 kR_270_300
  have e12 : (0 : Int) ≤ hV H0 285 18 ∧ hV H0 285 18 ≤ 8 := bTo ((f8.1.2.1.1 285 18 kF_270_285_18)) (f8.1.2.2 285 18 _ _ kW_285_18)
  have e13 : (0 : Int) ≤ hV H1 285 82 ∧ hV H1 285 82 ≤ 40 := f8.1.2.2 285 82 _ _ kW_285_82
  try simp only [e9, e2, e10, e11] at g4
  have k0 := g4.1
  have y0 := g4.2.1
  have y1 := g4.2.2.1
  have y2 := g4.2.2.2
  have p0 := g3.1
  have p1 := g3.2
  clear g3
  clear g4
  clear f11 f14 f16 f18 f21 f24 f28 f31 f34 f37 f40 f43 e2 e9 e10 e11
  subst e0
  subst e1
  subst e3
  subst e4
  subst e5
  subst e6
  rw [f26] at f32
  try have ca := cue_at (p1 (n3).toNat (by omega)) y0 (by omega) (by omega) (c := (16 * hV H1 346 (n0).toNat + hV H1 347 (n0).toNat)) (by omega)
  try have sh := y1 (n0).toNat (by omega)
  try have lv := y0 (n0).toNat (by omega)
  first
  | (have ix0 : n21 = hV H1 347 (n0).toNat + 1 := Eq.trans f45 (w32_iv (Iad (Iat f13 f12) (IC 1)) (by decide)); subst ix0; clear f45)
  | (have ix0 : n21 = hV H1 347 (n0).toNat + 1 := Eq.trans f45 (w32_id (by omega) (by omega)); subst ix0; clear f45)
  | (unfold w32 at f45; have ix0 : n21 = hV H1 347 (n0).toNat + 1 := (by omega); subst ix0)
  | skip
  try unfold w32 at f32
  try unfold w32 at f38
  try unfold w32 at f45

  first
  | omega
  | (have ca := cue_at (p1 (n3).toNat (by omega)) y0 (by omega) (by omega) (c := (16 * hV H1 346 (n0).toNat + hV H1 347 (n0).toNat)) (by omega)
     omega)
  | (have ua := use_at (p1 (n3).toNat (by omega)) y0 (by omega) (by omega) (c := (16 * hV H1 346 (n0).toNat + hV H1 347 (n0).toNat)) (by omega) (by omega)
     omega)
  | (have ul := ULp_lay y2 (p1 (n3).toNat (by omega)) y0 (by omega) (by omega) (by omega) (c := (16 * hV H1 346 (n0).toNat + hV H1 347 (n0).toNat)) (by omega) (by omega)
     omega)
theorem c_270_34_2 {q0 : Nat} : vOkm T0 (eP e_270 L_270 A_270 mu_270 (some q0)) 2 ([(1, [21, 19, 20], [], 0), (0, [20], [], 1), (22, [19, 18, 4], [1], 0), (90, [19], [], 0), (91, [19], [], 16), (20, [18, 2], [1], 86), (0, [18], [], 347), (1, [17, 14, 16], [], 0), (22, [16, 15, 4], [1], 0), (90, [16], [], 0), (91, [16], [], 16), (20, [15, 2], [1], 86), (0, [15], [], 347), (3, [14, 11, 13], [], 0), (22, [13, 12, 4], [1], 0), (90, [13], [], 0), (91, [13], [], 62), (20, [12, 2], [1], 85), (0, [12], [], 346), (0, [11], [], 16), (41, [6, 10], [], 0), (22, [10, 7, 9], [1], 0), (90, [10], [], 0), (91, [10], [], 16), (22, [9, 8, 4], [1], 0), (90, [9], [], 0), (91, [9], [], 62), (20, [8, 2], [1], 85), (0, [8], [], 346), (20, [7, 2], [1], 22), (0, [7], [], 296), (22, [6, 5, 4], [1], 0), (90, [6], [], 0), (91, [6], [], 16), (20, [5, 2], [1], 86), (0, [5], [], 347), (33, [4], [], 0), (5000, [0, 1, 2, 3, 4], [0, 1], 34), (0, [0], [], 285), (90, [1], [], 0), (91, [1], [], 7), (0, [2], [], 285), (90, [3], [], 0), (91, [3], [], 7), (90, [4], [], -1), (91, [4], [], 6)], (91, [21], [], 16)) := vOk_inI fun ρ η f0 f1 f2 f3 f4 f5 f6 f7 f8 f9 f10 f11 f12 f13 f14 f15 f16 f17 f18 f19 f20 f21 f22 f23 f24 f25 f26 f27 f28 f29 f30 f31 f32 f33 f34 f35 f36 f37 f38 f39 f40 f41 f42 f43 f44 f45 => q_270_5 (q0 := q0) (n0 := ρ 4) (n1 := ρ 3) (n2 := ρ 2) (n3 := ρ 1) (n4 := ρ 0) (n5 := ρ 5) (n6 := ρ 6) (n7 := ρ 7) (n8 := ρ 8) (n9 := ρ 9) (n10 := ρ 10) (n11 := ρ 11) (n12 := ρ 12) (n13 := ρ 13) (n14 := ρ 14) (n15 := ρ 15) (n16 := ρ 16) (n17 := ρ 17) (n18 := ρ 18) (n19 := ρ 19) (n20 := ρ 20) (n21 := ρ 21) (H0 := η 0) (H1 := η 1) f45 f44 f43 f42 f41 f40 f39 f38 f37 f36 f35 f34 f33 f32 f31 f30 f29 f28 f27 f26 f25 f24 f23 f22 f21 f20 f19 f18 f17 f16 f15 f14 f13 f12 f11 f10 f9 f8 f7 f6 f5 f4 f3 f2 f1 f0
theorem q_270_6 {q0 : Nat} {n0 n1 n2 n3 n4 n5 n6 n7 n8 n9 n10 n11 n12 n13 n14 n15 n16 n17 n18 n19 n20 n21 : Int} {H0 H1 : gH} (f0 : n0 ≤ 6) (f1 : (-1) ≤ n0) (f2 : n1 ≤ 7) (f3 : 0 ≤ n1) (f4 : n2 = 285) (f5 : n3 ≤ 7) (f6 : 0 ≤ n3) (f7 : n4 = 285) (f8 : (hLe T0 H0 H1 ∧ hFr s_270.2.2.2.2 H0 H1 ∧ hWt T0 H1) ∧ (Ab_270_34 n4 n3 n2 n1 n0 H0 H1 ∧ preb_270 n4 n3 H0) ∧ some q0 = some (mub_270_34 n4 n3 n2 n1 n0 H0 H1)) (f9 : 0 ≤ n0) (f10 : n5 = 347) (f11 : n5 = hV H1 (n2).toNat 86) (f12 : n6 ≤ 16) (f13 : 0 ≤ n6) (f14 : n6 = hV H1 (n5).toNat (n0).toNat) (f15 : n7 = 296) (f16 : n7 = hV H1 (n2).toNat 22) (f17 : n8 = 346) (f18 : n8 = hV H1 (n2).toNat 85) (f19 : n9 ≤ 62) (f20 : 0 ≤ n9) (f21 : n9 = hV H1 (n8).toNat (n0).toNat) (f22 : n10 ≤ 16) (f23 : 0 ≤ n10) (f24 : n10 = hV H1 (n7).toNat (n9).toNat) (f25 : n6 ≠ n10) (f26 : n11 = 16) (f27 : n12 = 346) (f28 : n12 = hV H1 (n2).toNat 85) (f29 : n13 ≤ 62) (f30 : 0 ≤ n13) (f31 : n13 = hV H1 (n12).toNat (n0).toNat) (f32 : n14 = w32 (n11 * n13)) (f33 : n15 = 347) (f34 : n15 = hV H1 (n2).toNat 86) (f35 : n16 ≤ 16) (f36 : 0 ≤ n16) (f37 : n16 = hV H1 (n15).toNat (n0).toNat) (f38 : n17 = w32 (n14 + n16)) (f39 : n18 = 347) (f40 : n18 = hV H1 (n2).toNat 86) (f41 : n19 ≤ 16) (f42 : 0 ≤ n19) (f43 : n19 = hV H1 (n18).toNat (n0).toNat) (f44 : n20 = 1) (f45 : n21 = w32 (n19 + n20)) : 0 ≤ n17 ∧ n17 < 1008 := by
  have g4 := f8.2.1.1
  unfold Ab_270_34 at g4
  have g3 := f8.2.1.2
  unfold preb_270 at g3
  have e0 : n6 = hV H1 347 (n0).toNat := (by rw [f10] at f14; exact f14 : n6 = hV H1 347 (n0).toNat)
  have e1 : n9 = hV H1 346 (n0).toNat := (by rw [f17] at f21; exact f21 : n9 = hV H1 346 (n0).toNat)
  have e2 : hV H1 296 = hV H0 296 := fRow f8.1.2.1 296 kR_270_296
  have e3 : n10 = hV H0 296 (n9).toNat := (by rw [f15] at f24; exact f24 : n10 = hV H1 296 (n9).toNat).trans ((congrFun e2 _))
  have e4 : n13 = hV H1 346 (n0).toNat := (by rw [f27] at f31; exact f31 : n13 = hV H1 346 (n0).toNat)
  have e5 : n16 = hV H1 347 (n0).toNat := (by rw [f33] at f37; exact f37 : n16 = hV H1 347 (n0).toNat)
  have e6 : n19 = hV H1 347 (n0).toNat := (by rw [f39] at f43; exact f43 : n19 = hV H1 347 (n0).toNat)
  have e9 : hV H1 294 = hV H0 294 := fRow f8.1.2.1 294 kR_270_294
  have e10 : hV H1 298 = hV H0 298 := fRow f8.1.2.1 298 kR_270_298
  have e11 : hV H1 300 = hV H0 300 := fRow f8.1.2.1 300 kR_270_300
  have e12 : (0 : Int) ≤ hV H0 285 18 ∧ hV H0 285 18 ≤ 8 := bTo ((f8.1.2.1.1 285 18 kF_270_285_18)) (f8.1.2.2 285 18 _ _ kW_285_18)
  have e13 : (0 : Int) ≤ hV H1 285 82 ∧ hV H1 285 82 ≤ 40 := f8.1.2.2 285 82 _ _ kW_285_82
  try simp only [e9, e2, e10, e11] at g4
  have k0 := g4.1
  have y0 := g4.2.1
  have y1 := g4.2.2.1
  have y2 := g4.2.2.2
  have p0 := g3.1
  have p1 := g3.2
  clear g3
  clear g4
  clear f11 f14 f16 f18 f21 f24 f28 f31 f34 f37 f40 f43 e2 e9 e10 e11
  subst e0
  subst e1
  subst e3
  subst e4
  subst e5
  subst e6
  rw [f26] at f32
  try have ca := cue_at (p1 (n3).toNat (by omega)) y0 (by omega) (by omega) (c := (16 * hV H1 346 (n0).toNat + hV H1 347 (n0).toNat)) (by omega)
  try have sh := y1 (n0).toNat (by omega)
  try have lv := y0 (n0).toNat (by omega)
  first
  | (have ix0 : n14 = 16 * (hV H1 346 (n0).toNat) := Eq.trans f32 (w32_iv (Iml 16 rfl (Iat f20 f19)) (by decide)); subst ix0; clear f32)
  | (have ix0 : n14 = 16 * (hV H1 346 (n0).toNat) := Eq.trans f32 (w32_id (by omega) (by omega)); subst ix0; clear f32)
  | (unfold w32 at f32; have ix0 : n14 = 16 * (hV H1 346 (n0).toNat) := (by omega); subst ix0)
  | skip
  first
  | (have ix1 : n17 = (16 * (hV H1 346 (n0).toNat)) + hV H1 347 (n0).toNat := Eq.trans f38 (w32_iv (Iad (Iml 16 rfl (Iat f20 f19)) (Iat f13 f12)) (by decide)); subst ix1; clear f38)
  | (have ix1 : n17 = (16 * (hV H1 346 (n0).toNat)) + hV H1 347 (n0).toNat := Eq.trans f38 (w32_id (by omega) (by omega)); subst ix1; clear f38)
  | (unfold w32 at f38; have ix1 : n17 = (16 * (hV H1 346 (n0).toNat)) + hV H1 347 (n0).toNat := (by omega); subst ix1)
  | skip
  try unfold w32 at f32
  try unfold w32 at f38
  try unfold w32 at f45

  first
  | omega
  | (have ca := cue_at (p1 (n3).toNat (by omega)) y0 (by omega) (by omega) (c := (16 * hV H1 346 (n0).toNat + hV H1 347 (n0).toNat)) (by omega)
     omega)
  | (have ua := use_at (p1 (n3).toNat (by omega)) y0 (by omega) (by omega) (c := (16 * hV H1 346 (n0).toNat + hV H1 347 (n0).toNat)) (by omega) (by omega)
     omega)
  | (have ul := ULp_lay y2 (p1 (n3).toNat (by omega)) y0 (by omega) (by omega) (by omega) (c := (16 * hV H1 346 (n0).toNat + hV H1 347 (n0).toNat)) (by omega) (by omega)
     omega)
theorem c_270_34_3 {q0 : Nat} : vOkm T0 (eP e_270 L_270 A_270 mu_270 (some q0)) 2 ([(1, [21, 19, 20], [], 0), (0, [20], [], 1), (22, [19, 18, 4], [1], 0), (90, [19], [], 0), (91, [19], [], 16), (20, [18, 2], [1], 86), (0, [18], [], 347), (1, [17, 14, 16], [], 0), (22, [16, 15, 4], [1], 0), (90, [16], [], 0), (91, [16], [], 16), (20, [15, 2], [1], 86), (0, [15], [], 347), (3, [14, 11, 13], [], 0), (22, [13, 12, 4], [1], 0), (90, [13], [], 0), (91, [13], [], 62), (20, [12, 2], [1], 85), (0, [12], [], 346), (0, [11], [], 16), (41, [6, 10], [], 0), (22, [10, 7, 9], [1], 0), (90, [10], [], 0), (91, [10], [], 16), (22, [9, 8, 4], [1], 0), (90, [9], [], 0), (91, [9], [], 62), (20, [8, 2], [1], 85), (0, [8], [], 346), (20, [7, 2], [1], 22), (0, [7], [], 296), (22, [6, 5, 4], [1], 0), (90, [6], [], 0), (91, [6], [], 16), (20, [5, 2], [1], 86), (0, [5], [], 347), (33, [4], [], 0), (5000, [0, 1, 2, 3, 4], [0, 1], 34), (0, [0], [], 285), (90, [1], [], 0), (91, [1], [], 7), (0, [2], [], 285), (90, [3], [], 0), (91, [3], [], 7), (90, [4], [], -1), (91, [4], [], 6)], (70, [17], [], 1008)) := vOk_inI fun ρ η f0 f1 f2 f3 f4 f5 f6 f7 f8 f9 f10 f11 f12 f13 f14 f15 f16 f17 f18 f19 f20 f21 f22 f23 f24 f25 f26 f27 f28 f29 f30 f31 f32 f33 f34 f35 f36 f37 f38 f39 f40 f41 f42 f43 f44 f45 => q_270_6 (q0 := q0) (n0 := ρ 4) (n1 := ρ 3) (n2 := ρ 2) (n3 := ρ 1) (n4 := ρ 0) (n5 := ρ 5) (n6 := ρ 6) (n7 := ρ 7) (n8 := ρ 8) (n9 := ρ 9) (n10 := ρ 10) (n11 := ρ 11) (n12 := ρ 12) (n13 := ρ 13) (n14 := ρ 14) (n15 := ρ 15) (n16 := ρ 16) (n17 := ρ 17) (n18 := ρ 18) (n19 := ρ 19) (n20 := ρ 20) (n21 := ρ 21) (H0 := η 0) (H1 := η 1) f45 f44 f43 f42 f41 f40 f39 f38 f37 f36 f35 f34 f33 f32 f31 f30 f29 f28 f27 f26 f25 f24 f23 f22 f21 f20 f19 f18 f17 f16 f15 f14 f13 f12 f11 f10 f9 f8 f7 f6 f5 f4 f3 f2 f1 f0
theorem q_270_7 {q0 : Nat} {n0 n1 n2 n3 n4 n5 n6 n7 n8 n9 n10 n11 n12 n13 n14 n15 n16 n17 n18 n19 n20 n21 n22 n23 n24 n25 n26 : Int} {H0 H1 H2 : gH} (f0 : n0 ≤ 6) (f1 : (-1) ≤ n0) (f2 : n1 ≤ 7) (f3 : 0 ≤ n1) (f4 : n2 = 285) (f5 : n3 ≤ 7) (f6 : 0 ≤ n3) (f7 : n4 = 285) (f8 : (hLe T0 H0 H1 ∧ hFr s_270.2.2.2.2 H0 H1 ∧ hWt T0 H1) ∧ (Ab_270_34 n4 n3 n2 n1 n0 H0 H1 ∧ preb_270 n4 n3 H0) ∧ some q0 = some (mub_270_34 n4 n3 n2 n1 n0 H0 H1)) (f9 : 0 ≤ n0) (f10 : n5 = 347) (f11 : n5 = hV H1 (n2).toNat 86) (f12 : n6 ≤ 16) (f13 : 0 ≤ n6) (f14 : n6 = hV H1 (n5).toNat (n0).toNat) (f15 : n7 = 296) (f16 : n7 = hV H1 (n2).toNat 22) (f17 : n8 = 346) (f18 : n8 = hV H1 (n2).toNat 85) (f19 : n9 ≤ 62) (f20 : 0 ≤ n9) (f21 : n9 = hV H1 (n8).toNat (n0).toNat) (f22 : n10 ≤ 16) (f23 : 0 ≤ n10) (f24 : n10 = hV H1 (n7).toNat (n9).toNat) (f25 : n6 ≠ n10) (f26 : n11 = 16) (f27 : n12 = 346) (f28 : n12 = hV H1 (n2).toNat 85) (f29 : n13 ≤ 62) (f30 : 0 ≤ n13) (f31 : n13 = hV H1 (n12).toNat (n0).toNat) (f32 : n14 = w32 (n11 * n13)) (f33 : n15 = 347) (f34 : n15 = hV H1 (n2).toNat 86) (f35 : n16 ≤ 16) (f36 : 0 ≤ n16) (f37 : n16 = hV H1 (n15).toNat (n0).toNat) (f38 : n17 = w32 (n14 + n16)) (f39 : n18 = 347) (f40 : n18 = hV H1 (n2).toNat 86) (f41 : n19 ≤ 16) (f42 : 0 ≤ n19) (f43 : n19 = hV H1 (n18).toNat (n0).toNat) (f44 : n20 = 1) (f45 : n21 = w32 (n19 + n20)) (f46 : hUpd H2 H1 n18 n0 n21) (f47 : n22 = 298) (f48 : n22 = hV H2 (n2).toNat 24) (f49 : n23 ≤ 5) (f50 : 0 ≤ n23) (f51 : n23 = hV H2 (n22).toNat (n17).toNat) (f52 : n24 = 5) (f53 : n23 = n24) (f54 : n25 = 1) (f55 : n26 = w32 (n0 + n25)) : 0 ≤ n17 ∧ n17 < 1008 := by
  have g4 := f8.2.1.1
  unfold Ab_270_34 at g4
  have g3 := f8.2.1.2
  unfold preb_270 at g3
  have e0 : n6 = hV H1 347 (n0).toNat := (by rw [f10] at f14; exact f14 : n6 = hV H1 347 (n0).toNat)
  have e1 : n9 = hV H1 346 (n0).toNat := (by rw [f17] at f21; exact f21 : n9 = hV H1 346 (n0).toNat)
  have e2 : hV H1 296 = hV H0 296 := fRow f8.1.2.1 296 kR_270_296
  have e3 : n10 = hV H0 296 (n9).toNat := (by rw [f15] at f24; exact f24 : n10 = hV H1 296 (n9).toNat).trans ((congrFun e2 _))
  have e4 : n13 = hV H1 346 (n0).toNat := (by rw [f27] at f31; exact f31 : n13 = hV H1 346 (n0).toNat)
  have e5 : n16 = hV H1 347 (n0).toNat := (by rw [f33] at f37; exact f37 : n16 = hV H1 347 (n0).toNat)
  have e6 : n19 = hV H1 347 (n0).toNat := (by rw [f39] at f43; exact f43 : n19 = hV H1 347 (n0).toNat)
  have e8 : hV H1 298 = hV H0 298 := fRow f8.1.2.1 298 kR_270_298
  have e9 : n23 = hV H0 298 (n17).toNat := (by rw [f47] at f51; exact f51 : n23 = hV H2 298 (n17).toNat).trans (((congrFun (uRowNe f46 298 (iS (show n18 = ((347 : Nat) : Int) from f39) rfl)) _)).trans ((congrFun e8 _)))
  have e12 : hV H1 294 = hV H0 294 := fRow f8.1.2.1 294 kR_270_294
  have e13 : hV H1 300 = hV H0 300 := fRow f8.1.2.1 300 kR_270_300
  have e14 : (0 : Int) ≤ hV H0 285 18 ∧ hV H0 285 18 ≤ 8 := bTo ((f8.1.2.1.1 285 18 kF_270_285_18)) (f8.1.2.2 285 18 _ _ kW_285_18)
  have e15 : (0 : Int) ≤ hV H1 285 82 ∧ hV H1 285 82 ≤ 40 := f8.1.2.2 285 82 _ _ kW_285_82
  try simp only [e12, e2, e8, e13] at g4
  have k0 := g4.1
  have y0 := g4.2.1
  have y1 := g4.2.2.1
  have y2 := g4.2.2.2
  have p0 := g3.1
  have p1 := g3.2
  clear g3
  clear g4
  clear f11 f14 f16 f18 f21 f24 f28 f31 f34 f37 f40 f43 f48 f51 e2 e8 e12 e13
  subst e0
  subst e1
  subst e3
  subst e4
  subst e5
  subst e6
  subst e9
  rw [f26] at f32
  try have ca := cue_at (p1 (n3).toNat (by omega)) y0 (by omega) (by omega) (c := (16 * hV H1 346 (n0).toNat + hV H1 347 (n0).toNat)) (by omega)
  try have sh := y1 (n0).toNat (by omega)
  try have lv := y0 (n0).toNat (by omega)
  first
  | (have ix0 : n14 = 16 * (hV H1 346 (n0).toNat) := Eq.trans f32 (w32_iv (Iml 16 rfl (Iat f20 f19)) (by decide)); subst ix0; clear f32)
  | (have ix0 : n14 = 16 * (hV H1 346 (n0).toNat) := Eq.trans f32 (w32_id (by omega) (by omega)); subst ix0; clear f32)
  | (unfold w32 at f32; have ix0 : n14 = 16 * (hV H1 346 (n0).toNat) := (by omega); subst ix0)
  | skip
  first
  | (have ix1 : n17 = (16 * (hV H1 346 (n0).toNat)) + hV H1 347 (n0).toNat := Eq.trans f38 (w32_iv (Iad (Iml 16 rfl (Iat f20 f19)) (Iat f13 f12)) (by decide)); subst ix1; clear f38)
  | (have ix1 : n17 = (16 * (hV H1 346 (n0).toNat)) + hV H1 347 (n0).toNat := Eq.trans f38 (w32_id (by omega) (by omega)); subst ix1; clear f38)
  | (unfold w32 at f38; have ix1 : n17 = (16 * (hV H1 346 (n0).toNat)) + hV H1 347 (n0).toNat := (by omega); subst ix1)
  | skip
  first
  | (have ix2 : n21 = hV H1 347 (n0).toNat + 1 := Eq.trans f45 (w32_iv (Iad (Iat f13 f12) (IC 1)) (by decide)); subst ix2; clear f45)
  | (have ix2 : n21 = hV H1 347 (n0).toNat + 1 := Eq.trans f45 (w32_id (by omega) (by omega)); subst ix2; clear f45)
  | (unfold w32 at f45; have ix2 : n21 = hV H1 347 (n0).toNat + 1 := (by omega); subst ix2)
  | skip
  try unfold w32 at f32
  try unfold w32 at f38
  try unfold w32 at f45
  try unfold w32 at f55

  first
  | omega
  | (have ca := cue_at (p1 (n3).toNat (by omega)) y0 (by omega) (by omega) (c := (16 * hV H1 346 (n0).toNat + hV H1 347 (n0).toNat)) (by omega)
     omega)
  | (have ua := use_at (p1 (n3).toNat (by omega)) y0 (by omega) (by omega) (c := (16 * hV H1 346 (n0).toNat + hV H1 347 (n0).toNat)) (by omega) (by omega)
     omega)
  | (have ul := ULp_lay y2 (p1 (n3).toNat (by omega)) y0 (by omega) (by omega) (by omega) (c := (16 * hV H1 346 (n0).toNat + hV H1 347 (n0).toNat)) (by omega) (by omega)
     omega)
theorem c_270_34_4 {q0 : Nat} : vOkm T0 (eP e_270 L_270 A_270 mu_270 (some q0)) 2 ([(1, [27, 4, 26], [], 0), (0, [26], [], 1), (40, [23, 24], [], 0), (0, [24], [], 5), (22, [23, 22, 17], [2], 0), (90, [23], [], 0), (91, [23], [], 5), (20, [22, 2], [2], 24), (0, [22], [], 298), (80, [18, 4, 21], [2, 1], 0), (1, [21, 19, 20], [], 0), (0, [20], [], 1), (22, [19, 18, 4], [1], 0), (90, [19], [], 0), (91, [19], [], 16), (20, [18, 2], [1], 86), (0, [18], [], 347), (1, [17, 14, 16], [], 0), (22, [16, 15, 4], [1], 0), (90, [16], [], 0), (91, [16], [], 16), (20, [15, 2], [1], 86), (0, [15], [], 347), (3, [14, 11, 13], [], 0), (22, [13, 12, 4], [1], 0), (90, [13], [], 0), (91, [13], [], 62), (20, [12, 2], [1], 85), (0, [12], [], 346), (0, [11], [], 16), (41, [6, 10], [], 0), (22, [10, 7, 9], [1], 0), (90, [10], [], 0), (91, [10], [], 16), (22, [9, 8, 4], [1], 0), (90, [9], [], 0), (91, [9], [], 62), (20, [8, 2], [1], 85), (0, [8], [], 346), (20, [7, 2], [1], 22), (0, [7], [], 296), (22, [6, 5, 4], [1], 0), (90, [6], [], 0), (91, [6], [], 16), (20, [5, 2], [1], 86), (0, [5], [], 347), (33, [4], [], 0), (5000, [0, 1, 2, 3, 4], [0, 1], 34), (0, [0], [], 285), (90, [1], [], 0), (91, [1], [], 7), (0, [2], [], 285), (90, [3], [], 0), (91, [3], [], 7), (90, [4], [], -1), (91, [4], [], 6)], (70, [17], [], 1008)) := vOk_inI fun ρ η f0 f1 f2 f3 f4 f5 f6 f7 f8 f9 f10 f11 f12 f13 f14 f15 f16 f17 f18 f19 f20 f21 f22 f23 f24 f25 f26 f27 f28 f29 f30 f31 f32 f33 f34 f35 f36 f37 f38 f39 f40 f41 f42 f43 f44 f45 f46 f47 f48 f49 f50 f51 f52 f53 f54 f55 => q_270_7 (q0 := q0) (n0 := ρ 4) (n1 := ρ 3) (n2 := ρ 2) (n3 := ρ 1) (n4 := ρ 0) (n5 := ρ 5) (n6 := ρ 6) (n7 := ρ 7) (n8 := ρ 8) (n9 := ρ 9) (n10 := ρ 10) (n11 := ρ 11) (n12 := ρ 12) (n13 := ρ 13) (n14 := ρ 14) (n15 := ρ 15) (n16 := ρ 16) (n17 := ρ 17) (n18 := ρ 18) (n19 := ρ 19) (n20 := ρ 20) (n21 := ρ 21) (n22 := ρ 22) (n23 := ρ 23) (n24 := ρ 24) (n25 := ρ 26) (n26 := ρ 27) (H0 := η 0) (H1 := η 1) (H2 := η 2) f55 f54 f53 f52 f51 f50 f49 f48 f47 f46 f45 f44 f43 f42 f41 f40 f39 f38 f37 f36 f35 f34 f33 f32 f31 f30 f29 f28 f27 f26 f25 f24 f23 f22 f21 f20 f19 f18 f17 f16 f15 f14 f13 f12 f11 f10 f9 f8 f7 f6 f5 f4 f3 f2 f1 f0
theorem q_270_8 {q0 : Nat} {n0 n1 n2 n3 n4 n5 n6 n7 n8 n9 n10 n11 n12 n13 n14 n15 n16 n17 n18 n19 n20 n21 n22 n23 n24 n25 n26 n27 n28 : Int} {H0 H1 H2 : gH} (f0 : n0 ≤ 6) (f1 : (-1) ≤ n0) (f2 : n1 ≤ 7) (f3 : 0 ≤ n1) (f4 : n2 = 285) (f5 : n3 ≤ 7) (f6 : 0 ≤ n3) (f7 : n4 = 285) (f8 : (hLe T0 H0 H1 ∧ hFr s_270.2.2.2.2 H0 H1 ∧ hWt T0 H1) ∧ (Ab_270_34 n4 n3 n2 n1 n0 H0 H1 ∧ preb_270 n4 n3 H0) ∧ some q0 = some (mub_270_34 n4 n3 n2 n1 n0 H0 H1)) (f9 : 0 ≤ n0) (f10 : n5 = 347) (f11 : n5 = hV H1 (n2).toNat 86) (f12 : n6 ≤ 16) (f13 : 0 ≤ n6) (f14 : n6 = hV H1 (n5).toNat (n0).toNat) (f15 : n7 = 296) (f16 : n7 = hV H1 (n2).toNat 22) (f17 : n8 = 346) (f18 : n8 = hV H1 (n2).toNat 85) (f19 : n9 ≤ 62) (f20 : 0 ≤ n9) (f21 : n9 = hV H1 (n8).toNat (n0).toNat) (f22 : n10 ≤ 16) (f23 : 0 ≤ n10) (f24 : n10 = hV H1 (n7).toNat (n9).toNat) (f25 : n6 ≠ n10) (f26 : n11 = 16) (f27 : n12 = 346) (f28 : n12 = hV H1 (n2).toNat 85) (f29 : n13 ≤ 62) (f30 : 0 ≤ n13) (f31 : n13 = hV H1 (n12).toNat (n0).toNat) (f32 : n14 = w32 (n11 * n13)) (f33 : n15 = 347) (f34 : n15 = hV H1 (n2).toNat 86) (f35 : n16 ≤ 16) (f36 : 0 ≤ n16) (f37 : n16 = hV H1 (n15).toNat (n0).toNat) (f38 : n17 = w32 (n14 + n16)) (f39 : n18 = 347) (f40 : n18 = hV H1 (n2).toNat 86) (f41 : n19 ≤ 16) (f42 : 0 ≤ n19) (f43 : n19 = hV H1 (n18).toNat (n0).toNat) (f44 : n20 = 1) (f45 : n21 = w32 (n19 + n20)) (f46 : hUpd H2 H1 n18 n0 n21) (f47 : n22 = 298) (f48 : n22 = hV H2 (n2).toNat 24) (f49 : n23 ≤ 5) (f50 : 0 ≤ n23) (f51 : n23 = hV H2 (n22).toNat (n17).toNat) (f52 : n24 = 5) (f53 : n23 = n24) (f54 : n25 = 1) (f55 : n26 = w32 (n0 + n25)) (f56 : n27 = 301) (f57 : n27 = hV H2 (n2).toNat 27) (f58 : n28 ≤ 9999) (f59 : (-1) ≤ n28) (f60 : n28 = hV H2 (n27).toNat (n17).toNat) : 0 ≤ n17 ∧ n17 < 1008 := by
  have g4 := f8.2.1.1
  unfold Ab_270_34 at g4
  have g3 := f8.2.1.2
  unfold preb_270 at g3
  have e0 : n6 = hV H1 347 (n0).toNat := (by rw [f10] at f14; exact f14 : n6 = hV H1 347 (n0).toNat)
  have e1 : n9 = hV H1 346 (n0).toNat := (by rw [f17] at f21; exact f21 : n9 = hV H1 346 (n0).toNat)
  have e2 : hV H1 296 = hV H0 296 := fRow f8.1.2.1 296 kR_270_296
  have e3 : n10 = hV H0 296 (n9).toNat := (by rw [f15] at f24; exact f24 : n10 = hV H1 296 (n9).toNat).trans ((congrFun e2 _))
  have e4 : n13 = hV H1 346 (n0).toNat := (by rw [f27] at f31; exact f31 : n13 = hV H1 346 (n0).toNat)
  have e5 : n16 = hV H1 347 (n0).toNat := (by rw [f33] at f37; exact f37 : n16 = hV H1 347 (n0).toNat)
  have e6 : n19 = hV H1 347 (n0).toNat := (by rw [f39] at f43; exact f43 : n19 = hV H1 347 (n0).toNat)
  have e8 : hV H1 298 = hV H0 298 := fRow f8.1.2.1 298 kR_270_298
  have e9 : n23 = hV H0 298 (n17).toNat := (by rw [f47] at f51; exact f51 : n23 = hV H2 298 (n17).toNat).trans (((congrFun (uRowNe f46 298 (iS (show n18 = ((347 : Nat) : Int) from f39) rfl)) _)).trans ((congrFun e8 _)))
  have e12 : n28 = hV H0 301 (n17).toNat := (by rw [f56] at f60; exact f60 : n28 = hV H2 301 (n17).toNat).trans (((congrFun (uRowNe f46 301 (iS (show n18 = ((347 : Nat) : Int) from f39) rfl)) _)).trans ((congrFun (fRow f8.1.2.1 301 kR_270_301) _)))
  have e15 : hV H1 294 = hV H0 294 := fRow f8.1.2.1 294 kR_270_294
  have e16 : hV H1 300 = hV H0 300 := fRow f8.1.2.1 300 kR_270_300
  have e17 : (0 : Int) ≤ hV H0 285 18 ∧ hV H0 285 18 ≤ 8 := bTo ((f8.1.2.1.1 285 18 kF_270_285_18)) (f8.1.2.2 285 18 _ _ kW_285_18)
  have e18 : (0 : Int) ≤ hV H1 285 82 ∧ hV H1 285 82 ≤ 40 := f8.1.2.2 285 82 _ _ kW_285_82
  try simp only [e15, e2, e8, e16] at g4
  have k0 := g4.1
  have y0 := g4.2.1
  have y1 := g4.2.2.1
  have y2 := g4.2.2.2
  have p0 := g3.1
  have p1 := g3.2
  clear g3
  clear g4
  clear f11 f14 f16 f18 f21 f24 f28 f31 f34 f37 f40 f43 f48 f51 f57 f60 e2 e8 e15 e16
  subst e0
  subst e1
  subst e3
  subst e4
  subst e5
  subst e6
  subst e9
  subst e12
  rw [f26] at f32
  try have ca := cue_at (p1 (n3).toNat (by omega)) y0 (by omega) (by omega) (c := (16 * hV H1 346 (n0).toNat + hV H1 347 (n0).toNat)) (by omega)
  try have sh := y1 (n0).toNat (by omega)
  try have lv := y0 (n0).toNat (by omega)
  first
  | (have ix0 : n14 = 16 * (hV H1 346 (n0).toNat) := Eq.trans f32 (w32_iv (Iml 16 rfl (Iat f20 f19)) (by decide)); subst ix0; clear f32)
  | (have ix0 : n14 = 16 * (hV H1 346 (n0).toNat) := Eq.trans f32 (w32_id (by omega) (by omega)); subst ix0; clear f32)
  | (unfold w32 at f32; have ix0 : n14 = 16 * (hV H1 346 (n0).toNat) := (by omega); subst ix0)
  | skip
  first
  | (have ix1 : n17 = (16 * (hV H1 346 (n0).toNat)) + hV H1 347 (n0).toNat := Eq.trans f38 (w32_iv (Iad (Iml 16 rfl (Iat f20 f19)) (Iat f13 f12)) (by decide)); subst ix1; clear f38)
  | (have ix1 : n17 = (16 * (hV H1 346 (n0).toNat)) + hV H1 347 (n0).toNat := Eq.trans f38 (w32_id (by omega) (by omega)); subst ix1; clear f38)
  | (unfold w32 at f38; have ix1 : n17 = (16 * (hV H1 346 (n0).toNat)) + hV H1 347 (n0).toNat := (by omega); subst ix1)
  | skip
  first
  | (have ix2 : n21 = hV H1 347 (n0).toNat + 1 := Eq.trans f45 (w32_iv (Iad (Iat f13 f12) (IC 1)) (by decide)); subst ix2; clear f45)
  | (have ix2 : n21 = hV H1 347 (n0).toNat + 1 := Eq.trans f45 (w32_id (by omega) (by omega)); subst ix2; clear f45)
  | (unfold w32 at f45; have ix2 : n21 = hV H1 347 (n0).toNat + 1 := (by omega); subst ix2)
  | skip
  try unfold w32 at f32
  try unfold w32 at f38
  try unfold w32 at f45
  try unfold w32 at f55

  first
  | omega
  | (have ca := cue_at (p1 (n3).toNat (by omega)) y0 (by omega) (by omega) (c := (16 * hV H1 346 (n0).toNat + hV H1 347 (n0).toNat)) (by omega)
     omega)
  | (have ua := use_at (p1 (n3).toNat (by omega)) y0 (by omega) (by omega) (c := (16 * hV H1 346 (n0).toNat + hV H1 347 (n0).toNat)) (by omega) (by omega)
     omega)
  | (have ul := ULp_lay y2 (p1 (n3).toNat (by omega)) y0 (by omega) (by omega) (by omega) (c := (16 * hV H1 346 (n0).toNat + hV H1 347 (n0).toNat)) (by omega) (by omega)
     omega)
theorem c_270_34_5 {q0 : Nat} : vOkm T0 (eP e_270 L_270 A_270 mu_270 (some q0)) 2 ([(22, [29, 28, 17], [2], 0), (90, [29], [], -1), (91, [29], [], 9999), (20, [28, 2], [2], 27), (0, [28], [], 301), (1, [27, 4, 26], [], 0), (0, [26], [], 1), (40, [23, 24], [], 0), (0, [24], [], 5), (22, [23, 22, 17], [2], 0), (90, [23], [], 0), (91, [23], [], 5), (20, [22, 2], [2], 24), (0, [22], [], 298), (80, [18, 4, 21], [2, 1], 0), (1, [21, 19, 20], [], 0), (0, [20], [], 1), (22, [19, 18, 4], [1], 0), (90, [19], [], 0), (91, [19], [], 16), (20, [18, 2], [1], 86), (0, [18], [], 347), (1, [17, 14, 16], [], 0), (22, [16, 15, 4], [1], 0), (90, [16], [], 0), (91, [16], [], 16), (20, [15, 2], [1], 86), (0, [15], [], 347), (3, [14, 11, 13], [], 0), (22, [13, 12, 4], [1], 0), (90, [13], [], 0), (91, [13], [], 62), (20, [12, 2], [1], 85), (0, [12], [], 346), (0, [11], [], 16), (41, [6, 10], [], 0), (22, [10, 7, 9], [1], 0), (90, [10], [], 0), (91, [10], [], 16), (22, [9, 8, 4], [1], 0), (90, [9], [], 0), (91, [9], [], 62), (20, [8, 2], [1], 85), (0, [8], [], 346), (20, [7, 2], [1], 22), (0, [7], [], 296), (22, [6, 5, 4], [1], 0), (90, [6], [], 0), (91, [6], [], 16), (20, [5, 2], [1], 86), (0, [5], [], 347), (33, [4], [], 0), (5000, [0, 1, 2, 3, 4], [0, 1], 34), (0, [0], [], 285), (90, [1], [], 0), (91, [1], [], 7), (0, [2], [], 285), (90, [3], [], 0), (91, [3], [], 7), (90, [4], [], -1), (91, [4], [], 6)], (70, [17], [], 1008)) := vOk_inI fun ρ η f0 f1 f2 f3 f4 f5 f6 f7 f8 f9 f10 f11 f12 f13 f14 f15 f16 f17 f18 f19 f20 f21 f22 f23 f24 f25 f26 f27 f28 f29 f30 f31 f32 f33 f34 f35 f36 f37 f38 f39 f40 f41 f42 f43 f44 f45 f46 f47 f48 f49 f50 f51 f52 f53 f54 f55 f56 f57 f58 f59 f60 => q_270_8 (q0 := q0) (n0 := ρ 4) (n1 := ρ 3) (n2 := ρ 2) (n3 := ρ 1) (n4 := ρ 0) (n5 := ρ 5) (n6 := ρ 6) (n7 := ρ 7) (n8 := ρ 8) (n9 := ρ 9) (n10 := ρ 10) (n11 := ρ 11) (n12 := ρ 12) (n13 := ρ 13) (n14 := ρ 14) (n15 := ρ 15) (n16 := ρ 16) (n17 := ρ 17) (n18 := ρ 18) (n19 := ρ 19) (n20 := ρ 20) (n21 := ρ 21) (n22 := ρ 22) (n23 := ρ 23) (n24 := ρ 24) (n25 := ρ 26) (n26 := ρ 27) (n27 := ρ 28) (n28 := ρ 29) (H0 := η 0) (H1 := η 1) (H2 := η 2) f60 f59 f58 f57 f56 f55 f54 f53 f52 f51 f50 f49 f48 f47 f46 f45 f44 f43 f42 f41 f40 f39 f38 f37 f36 f35 f34 f33 f32 f31 f30 f29 f28 f27 f26 f25 f24 f23 f22 f21 f20 f19 f18 f17 f16 f15 f14 f13 f12 f11 f10 f9 f8 f7 f6 f5 f4 f3 f2 f1 f0
theorem q_270_9 {q0 : Nat} {n0 n1 n2 n3 n4 n5 n6 n7 n8 n9 n10 n11 n12 n13 n14 n15 n16 n17 n18 n19 n20 n21 n22 n23 n24 n25 n26 n27 n28 n29 n30 n31 n32 n33 : Int} {H0 H1 H2 : gH} (f0 : n0 ≤ 6) (f1 : (-1) ≤ n0) (f2 : n1 ≤ 7) (f3 : 0 ≤ n1) (f4 : n2 = 285) (f5 : n3 ≤ 7) (f6 : 0 ≤ n3) (f7 : n4 = 285) (f8 : (hLe T0 H0 H1 ∧ hFr s_270.2.2.2.2 H0 H1 ∧ hWt T0 H1) ∧ (Ab_270_34 n4 n3 n2 n1 n0 H0 H1 ∧ preb_270 n4 n3 H0) ∧ some q0 = some (mub_270_34 n4 n3 n2 n1 n0 H0 H1)) (f9 : 0 ≤ n0) (f10 : n5 = 347) (f11 : n5 = hV H1 (n2).toNat 86) (f12 : n6 ≤ 16) (f13 : 0 ≤ n6) (f14 : n6 = hV H1 (n5).toNat (n0).toNat) (f15 : n7 = 296) (f16 : n7 = hV H1 (n2).toNat 22) (f17 : n8 = 346) (f18 : n8 = hV H1 (n2).toNat 85) (f19 : n9 ≤ 62) (f20 : 0 ≤ n9) (f21 : n9 = hV H1 (n8).toNat (n0).toNat) (f22 : n10 ≤ 16) (f23 : 0 ≤ n10) (f24 : n10 = hV H1 (n7).toNat (n9).toNat) (f25 : n6 ≠ n10) (f26 : n11 = 16) (f27 : n12 = 346) (f28 : n12 = hV H1 (n2).toNat 85) (f29 : n13 ≤ 62) (f30 : 0 ≤ n13) (f31 : n13 = hV H1 (n12).toNat (n0).toNat) (f32 : n14 = w32 (n11 * n13)) (f33 : n15 = 347) (f34 : n15 = hV H1 (n2).toNat 86) (f35 : n16 ≤ 16) (f36 : 0 ≤ n16) (f37 : n16 = hV H1 (n15).toNat (n0).toNat) (f38 : n17 = w32 (n14 + n16)) (f39 : n18 = 347) (f40 : n18 = hV H1 (n2).toNat 86) (f41 : n19 ≤ 16) (f42 : 0 ≤ n19) (f43 : n19 = hV H1 (n18).toNat (n0).toNat) (f44 : n20 = 1) (f45 : n21 = w32 (n19 + n20)) (f46 : hUpd H2 H1 n18 n0 n21) (f47 : n22 = 298) (f48 : n22 = hV H2 (n2).toNat 24) (f49 : n23 ≤ 5) (f50 : 0 ≤ n23) (f51 : n23 = hV H2 (n22).toNat (n17).toNat) (f52 : n24 = 5) (f53 : n23 = n24) (f54 : n25 = 348) (f55 : n25 = hV H2 (n2).toNat 87) (f56 : n26 = 1) (f57 : n27 = w32 (n0 + n26)) (f58 : n28 = 301) (f59 : n28 = hV H2 (n2).toNat 27) (f60 : n29 ≤ 9999) (f61 : (-1) ≤ n29) (f62 : n29 = hV H2 (n28).toNat (n17).toNat) (f63 : n30 = 302) (f64 : n30 = hV H2 (n2).toNat 28) (f65 : n31 ≤ 9999) (f66 : (-9999) ≤ n31) (f67 : n31 = hV H2 (n30).toNat (n17).toNat) (f68 : n32 = 348) (f69 : n32 = hV H2 (n2).toNat 87) (f70 : n33 ≤ 1000) (f71 : (-1000) ≤ n33) (f72 : n33 = hV H2 (n32).toNat (n0).toNat) : n29 ≤ 7 := by
  have g4 := f8.2.1.1
  unfold Ab_270_34 at g4
  have g3 := f8.2.1.2
  unfold preb_270 at g3
  have e0 : n6 = hV H1 347 (n0).toNat := (by rw [f10] at f14; exact f14 : n6 = hV H1 347 (n0).toNat)
  have e1 : n9 = hV H1 346 (n0).toNat := (by rw [f17] at f21; exact f21 : n9 = hV H1 346 (n0).toNat)
  have e2 : hV H1 296 = hV H0 296 := fRow f8.1.2.1 296 kR_270_296
  have e3 : n10 = hV H0 296 (n9).toNat := (by rw [f15] at f24; exact f24 : n10 = hV H1 296 (n9).toNat).trans ((congrFun e2 _))
  have e4 : n13 = hV H1 346 (n0).toNat := (by rw [f27] at f31; exact f31 : n13 = hV H1 346 (n0).toNat)
  have e5 : n16 = hV H1 347 (n0).toNat := (by rw [f33] at f37; exact f37 : n16 = hV H1 347 (n0).toNat)
  have e6 : n19 = hV H1 347 (n0).toNat := (by rw [f39] at f43; exact f43 : n19 = hV H1 347 (n0).toNat)
  have e8 : hV H1 298 = hV H0 298 := fRow f8.1.2.1 298 kR_270_298
  have e9 : n23 = hV H0 298 (n17).toNat := (by rw [f47] at f51; exact f51 : n23 = hV H2 298 (n17).toNat).trans (((congrFun (uRowNe f46 298 (iS (show n18 = ((347 : Nat) : Int) from f39) rfl)) _)).trans ((congrFun e8 _)))
  have e12 : n29 = hV H0 301 (n17).toNat := (by rw [f58] at f62; exact f62 : n29 = hV H2 301 (n17).toNat).trans (((congrFun (uRowNe f46 301 (iS (show n18 = ((347 : Nat) : Int) from f39) rfl)) _)).trans ((congrFun (fRow f8.1.2.1 301 kR_270_301) _)))
  have e15 : n31 = hV H0 302 (n17).toNat := (by rw [f63] at f67; exact f67 : n31 = hV H2 302 (n17).toNat).trans (((congrFun (uRowNe f46 302 (iS (show n18 = ((347 : Nat) : Int) from f39) rfl)) _)).trans ((congrFun (fRow f8.1.2.1 302 kR_270_302) _)))
  have e17 : n33 = hV H1 348 (n0).toNat := (by rw [f68] at f72; exact f72 : n33 = hV H2 348 (n0).toNat).trans ((congrFun (uRowNe f46 348 (iS (show n18 = ((347 : Nat) : Int) from f39) rfl)) _))
  have e20 : hV H1 294 = hV H0 294 := fRow f8.1.2.1 294 kR_270_294
  have e21 : hV H1 300 = hV H0 300 := fRow f8.1.2.1 300 kR_270_300
  have e22 : (0 : Int) ≤ hV H0 285 18 ∧ hV H0 285 18 ≤ 8 := bTo ((f8.1.2.1.1 285 18 kF_270_285_18)) (f8.1.2.2 285 18 _ _ kW_285_18)
  have e23 : (0 : Int) ≤ hV H1 285 82 ∧ hV H1 285 82 ≤ 40 := f8.1.2.2 285 82 _ _ kW_285_82
  try simp only [e20, e2, e8, e21] at g4
  have k0 := g4.1
  have y0 := g4.2.1
  have y1 := g4.2.2.1
  have y2 := g4.2.2.2
  have p0 := g3.1
  have p1 := g3.2
  clear g3
  clear g4
  clear f11 f14 f16 f18 f21 f24 f28 f31 f34 f37 f40 f43 f48 f51 f55 f59 f62 f64 f67 f69 f72 e2 e8 e20 e21
  subst e0
  subst e1
  subst e3
  subst e4
  subst e5
  subst e6
  subst e9
  subst e12
  subst e15
  subst e17
  rw [f26] at f32
  try have ca := cue_at (p1 (n3).toNat (by omega)) y0 (by omega) (by omega) (c := (16 * hV H1 346 (n0).toNat + hV H1 347 (n0).toNat)) (by omega)
  try have sh := y1 (n0).toNat (by omega)
  try have lv := y0 (n0).toNat (by omega)
  first
  | (have ix0 : n14 = 16 * (hV H1 346 (n0).toNat) := Eq.trans f32 (w32_iv (Iml 16 rfl (Iat f20 f19)) (by decide)); subst ix0; clear f32)
  | (have ix0 : n14 = 16 * (hV H1 346 (n0).toNat) := Eq.trans f32 (w32_id (by omega) (by omega)); subst ix0; clear f32)
  | (unfold w32 at f32; have ix0 : n14 = 16 * (hV H1 346 (n0).toNat) := (by omega); subst ix0)
  | skip
  first
  | (have ix1 : n17 = (16 * (hV H1 346 (n0).toNat)) + hV H1 347 (n0).toNat := Eq.trans f38 (w32_iv (Iad (Iml 16 rfl (Iat f20 f19)) (Iat f13 f12)) (by decide)); subst ix1; clear f38)
  | (have ix1 : n17 = (16 * (hV H1 346 (n0).toNat)) + hV H1 347 (n0).toNat := Eq.trans f38 (w32_id (by omega) (by omega)); subst ix1; clear f38)
  | (unfold w32 at f38; have ix1 : n17 = (16 * (hV H1 346 (n0).toNat)) + hV H1 347 (n0).toNat := (by omega); subst ix1)
  | skip
  first
  | (have ix2 : n21 = hV H1 347 (n0).toNat + 1 := Eq.trans f45 (w32_iv (Iad (Iat f13 f12) (IC 1)) (by decide)); subst ix2; clear f45)
  | (have ix2 : n21 = hV H1 347 (n0).toNat + 1 := Eq.trans f45 (w32_id (by omega) (by omega)); subst ix2; clear f45)
  | (unfold w32 at f45; have ix2 : n21 = hV H1 347 (n0).toNat + 1 := (by omega); subst ix2)
  | skip
  try unfold w32 at f32
  try unfold w32 at f38
  try unfold w32 at f45
  try unfold w32 at f57

  first
  | omega
  | (have ca := cue_at (p1 (n3).toNat (by omega)) y0 (by omega) (by omega) (c := (16 * hV H1 346 (n0).toNat + hV H1 347 (n0).toNat)) (by omega)
     omega)
  | (have ua := use_at (p1 (n3).toNat (by omega)) y0 (by omega) (by omega) (c := (16 * hV H1 346 (n0).toNat + hV H1 347 (n0).toNat)) (by omega) (by omega)
     omega)
  | (have ul := ULp_lay y2 (p1 (n3).toNat (by omega)) y0 (by omega) (by omega) (by omega) (c := (16 * hV H1 346 (n0).toNat + hV H1 347 (n0).toNat)) (by omega) (by omega)
     omega)
theorem c_270_34_6 {q0 : Nat} : vOkm T0 (eP e_270 L_270 A_270 mu_270 (some q0)) 2 ([(22, [33, 32, 4], [2], 0), (90, [33], [], -1000), (91, [33], [], 1000), (20, [32, 2], [2], 87), (0, [32], [], 348), (22, [31, 30, 17], [2], 0), (90, [31], [], -9999), (91, [31], [], 9999), (20, [30, 2], [2], 28), (0, [30], [], 302), (22, [29, 28, 17], [2], 0), (90, [29], [], -1), (91, [29], [], 9999), (20, [28, 2], [2], 27), (0, [28], [], 301), (1, [27, 4, 26], [], 0), (0, [26], [], 1), (20, [25, 2], [2], 87), (0, [25], [], 348), (40, [23, 24], [], 0), (0, [24], [], 5), (22, [23, 22, 17], [2], 0), (90, [23], [], 0), (91, [23], [], 5), (20, [22, 2], [2], 24), (0, [22], [], 298), (80, [18, 4, 21], [2, 1], 0), (1, [21, 19, 20], [], 0), (0, [20], [], 1), (22, [19, 18, 4], [1], 0), (90, [19], [], 0), (91, [19], [], 16), (20, [18, 2], [1], 86), (0, [18], [], 347), (1, [17, 14, 16], [], 0), (22, [16, 15, 4], [1], 0), (90, [16], [], 0), (91, [16], [], 16), (20, [15, 2], [1], 86), (0, [15], [], 347), (3, [14, 11, 13], [], 0), (22, [13, 12, 4], [1], 0), (90, [13], [], 0), (91, [13], [], 62), (20, [12, 2], [1], 85), (0, [12], [], 346), (0, [11], [], 16), (41, [6, 10], [], 0), (22, [10, 7, 9], [1], 0), (90, [10], [], 0), (91, [10], [], 16), (22, [9, 8, 4], [1], 0), (90, [9], [], 0), (91, [9], [], 62), (20, [8, 2], [1], 85), (0, [8], [], 346), (20, [7, 2], [1], 22), (0, [7], [], 296), (22, [6, 5, 4], [1], 0), (90, [6], [], 0), (91, [6], [], 16), (20, [5, 2], [1], 86), (0, [5], [], 347), (33, [4], [], 0), (5000, [0, 1, 2, 3, 4], [0, 1], 34), (0, [0], [], 285), (90, [1], [], 0), (91, [1], [], 7), (0, [2], [], 285), (90, [3], [], 0), (91, [3], [], 7), (90, [4], [], -1), (91, [4], [], 6)], (91, [29], [], 7)) := vOk_inI fun ρ η f0 f1 f2 f3 f4 f5 f6 f7 f8 f9 f10 f11 f12 f13 f14 f15 f16 f17 f18 f19 f20 f21 f22 f23 f24 f25 f26 f27 f28 f29 f30 f31 f32 f33 f34 f35 f36 f37 f38 f39 f40 f41 f42 f43 f44 f45 f46 f47 f48 f49 f50 f51 f52 f53 f54 f55 f56 f57 f58 f59 f60 f61 f62 f63 f64 f65 f66 f67 f68 f69 f70 f71 f72 => q_270_9 (q0 := q0) (n0 := ρ 4) (n1 := ρ 3) (n2 := ρ 2) (n3 := ρ 1) (n4 := ρ 0) (n5 := ρ 5) (n6 := ρ 6) (n7 := ρ 7) (n8 := ρ 8) (n9 := ρ 9) (n10 := ρ 10) (n11 := ρ 11) (n12 := ρ 12) (n13 := ρ 13) (n14 := ρ 14) (n15 := ρ 15) (n16 := ρ 16) (n17 := ρ 17) (n18 := ρ 18) (n19 := ρ 19) (n20 := ρ 20) (n21 := ρ 21) (n22 := ρ 22) (n23 := ρ 23) (n24 := ρ 24) (n25 := ρ 25) (n26 := ρ 26) (n27 := ρ 27) (n28 := ρ 28) (n29 := ρ 29) (n30 := ρ 30) (n31 := ρ 31) (n32 := ρ 32) (n33 := ρ 33) (H0 := η 0) (H1 := η 1) (H2 := η 2) f72 f71 f70 f69 f68 f67 f66 f65 f64 f63 f62 f61 f60 f59 f58 f57 f56 f55 f54 f53 f52 f51 f50 f49 f48 f47 f46 f45 f44 f43 f42 f41 f40 f39 f38 f37 f36 f35 f34 f33 f32 f31 f30 f29 f28 f27 f26 f25 f24 f23 f22 f21 f20 f19 f18 f17 f16 f15 f14 f13 f12 f11 f10 f9 f8 f7 f6 f5 f4 f3 f2 f1 f0
theorem q_270_10 {q0 : Nat} {n0 n1 n2 n3 n4 n5 n6 n7 n8 n9 n10 n11 n12 n13 n14 n15 n16 n17 n18 n19 n20 n21 n22 n23 n24 n25 n26 n27 n28 n29 n30 n31 n32 n33 n34 : Int} {H0 H1 H2 H3 : gH} (f0 : n0 ≤ 6) (f1 : (-1) ≤ n0) (f2 : n1 ≤ 7) (f3 : 0 ≤ n1) (f4 : n2 = 285) (f5 : n3 ≤ 7) (f6 : 0 ≤ n3) (f7 : n4 = 285) (f8 : (hLe T0 H0 H1 ∧ hFr s_270.2.2.2.2 H0 H1 ∧ hWt T0 H1) ∧ (Ab_270_34 n4 n3 n2 n1 n0 H0 H1 ∧ preb_270 n4 n3 H0) ∧ some q0 = some (mub_270_34 n4 n3 n2 n1 n0 H0 H1)) (f9 : 0 ≤ n0) (f10 : n5 = 347) (f11 : n5 = hV H1 (n2).toNat 86) (f12 : n6 ≤ 16) (f13 : 0 ≤ n6) (f14 : n6 = hV H1 (n5).toNat (n0).toNat) (f15 : n7 = 296) (f16 : n7 = hV H1 (n2).toNat 22) (f17 : n8 = 346) (f18 : n8 = hV H1 (n2).toNat 85) (f19 : n9 ≤ 62) (f20 : 0 ≤ n9) (f21 : n9 = hV H1 (n8).toNat (n0).toNat) (f22 : n10 ≤ 16) (f23 : 0 ≤ n10) (f24 : n10 = hV H1 (n7).toNat (n9).toNat) (f25 : n6 ≠ n10) (f26 : n11 = 16) (f27 : n12 = 346) (f28 : n12 = hV H1 (n2).toNat 85) (f29 : n13 ≤ 62) (f30 : 0 ≤ n13) (f31 : n13 = hV H1 (n12).toNat (n0).toNat) (f32 : n14 = w32 (n11 * n13)) (f33 : n15 = 347) (f34 : n15 = hV H1 (n2).toNat 86) (f35 : n16 ≤ 16) (f36 : 0 ≤ n16) (f37 : n16 = hV H1 (n15).toNat (n0).toNat) (f38 : n17 = w32 (n14 + n16)) (f39 : n18 = 347) (f40 : n18 = hV H1 (n2).toNat 86) (f41 : n19 ≤ 16) (f42 : 0 ≤ n19) (f43 : n19 = hV H1 (n18).toNat (n0).toNat) (f44 : n20 = 1) (f45 : n21 = w32 (n19 + n20)) (f46 : hUpd H2 H1 n18 n0 n21) (f47 : n22 = 298) (f48 : n22 = hV H2 (n2).toNat 24) (f49 : n23 ≤ 5) (f50 : 0 ≤ n23) (f51 : n23 = hV H2 (n22).toNat (n17).toNat) (f52 : n24 = 5) (f53 : n23 = n24) (f54 : n25 = 348) (f55 : n25 = hV H2 (n2).toNat 87) (f56 : n26 = 1) (f57 : n27 = w32 (n0 + n26)) (f58 : n28 = 301) (f59 : n28 = hV H2 (n2).toNat 27) (f60 : n29 ≤ 9999) (f61 : (-1) ≤ n29) (f62 : n29 = hV H2 (n28).toNat (n17).toNat) (f63 : n30 = 302) (f64 : n30 = hV H2 (n2).toNat 28) (f65 : n31 ≤ 9999) (f66 : (-9999) ≤ n31) (f67 : n31 = hV H2 (n30).toNat (n17).toNat) (f68 : n32 = 348) (f69 : n32 = hV H2 (n2).toNat 87) (f70 : n33 ≤ 1000) (f71 : (-1000) ≤ n33) (f72 : n33 = hV H2 (n32).toNat (n0).toNat) (f73 : n34 ≤ 10999) (f74 : (-10999) ≤ n34) (f75 : (hLe T0 H2 H3 ∧ hFr s_269.2.2.2.2 H2 H3 ∧ ((0 : Int) = 0 → H3.length = H2.length) ∧ hWt T0 H3) ∧ postb_269 n34 n2 n29 n31 n33 H2 H3) : 0 ≤ n27 ∧ n27 < 8 := by
  have g4 := f8.2.1.1
  unfold Ab_270_34 at g4
  have g3 := f8.2.1.2
  unfold preb_270 at g3
  unfold postb_269 at f75
  have e0 : n6 = hV H1 347 (n0).toNat := (by rw [f10] at f14; exact f14 : n6 = hV H1 347 (n0).toNat)
  have e1 : n9 = hV H1 346 (n0).toNat := (by rw [f17] at f21; exact f21 : n9 = hV H1 346 (n0).toNat)
  have e2 : hV H1 296 = hV H0 296 := fRow f8.1.2.1 296 kR_270_296
  have e3 : n10 = hV H0 296 (n9).toNat := (by rw [f15] at f24; exact f24 : n10 = hV H1 296 (n9).toNat).trans ((congrFun e2 _))
  have e4 : n13 = hV H1 346 (n0).toNat := (by rw [f27] at f31; exact f31 : n13 = hV H1 346 (n0).toNat)
  have e5 : n16 = hV H1 347 (n0).toNat := (by rw [f33] at f37; exact f37 : n16 = hV H1 347 (n0).toNat)
  have e6 : n19 = hV H1 347 (n0).toNat := (by rw [f39] at f43; exact f43 : n19 = hV H1 347 (n0).toNat)
  have e8 : hV H1 298 = hV H0 298 := fRow f8.1.2.1 298 kR_270_298
  have e9 : n23 = hV H0 298 (n17).toNat := (by rw [f47] at f51; exact f51 : n23 = hV H2 298 (n17).toNat).trans (((congrFun (uRowNe f46 298 (iS (show n18 = ((347 : Nat) : Int) from f39) rfl)) _)).trans ((congrFun e8 _)))
  have e12 : n29 = hV H0 301 (n17).toNat := (by rw [f58] at f62; exact f62 : n29 = hV H2 301 (n17).toNat).trans (((congrFun (uRowNe f46 301 (iS (show n18 = ((347 : Nat) : Int) from f39) rfl)) _)).trans ((congrFun (fRow f8.1.2.1 301 kR_270_301) _)))
  have e15 : n31 = hV H0 302 (n17).toNat := (by rw [f63] at f67; exact f67 : n31 = hV H2 302 (n17).toNat).trans (((congrFun (uRowNe f46 302 (iS (show n18 = ((347 : Nat) : Int) from f39) rfl)) _)).trans ((congrFun (fRow f8.1.2.1 302 kR_270_302) _)))
  have e17 : n33 = hV H1 348 (n0).toNat := (by rw [f68] at f72; exact f72 : n33 = hV H2 348 (n0).toNat).trans ((congrFun (uRowNe f46 348 (iS (show n18 = ((347 : Nat) : Int) from f39) rfl)) _))
  have e20 : hV H1 294 = hV H0 294 := fRow f8.1.2.1 294 kR_270_294
  have e21 : hV H1 300 = hV H0 300 := fRow f8.1.2.1 300 kR_270_300
  have e22 : (0 : Int) ≤ hV H0 285 18 ∧ hV H0 285 18 ≤ 8 := bTo ((f8.1.2.1.1 285 18 kF_270_285_18)) (f8.1.2.2 285 18 _ _ kW_285_18)
  have e23 : (0 : Int) ≤ hV H1 285 82 ∧ hV H1 285 82 ≤ 40 := f8.1.2.2 285 82 _ _ kW_285_82
  try simp only [e20, e2, e8, e21] at g4
  have k0 := g4.1
  have y0 := g4.2.1
  have y1 := g4.2.2.1
  have y2 := g4.2.2.2
  have p0 := g3.1
  have p1 := g3.2
  have r0_0 := f75.2
  clear g3
  clear g4
  clear f11 f14 f16 f18 f21 f24 f28 f31 f34 f37 f40 f43 f48 f51 f55 f59 f62 f64 f67 f69 f72 e2 e8 e20 e21
  subst e0
  subst e1
  subst e3
  subst e4
  subst e5
  subst e6
  subst e9
  subst e12
  subst e15
  subst e17
  rw [f26] at f32
  try have ca := cue_at (p1 (n3).toNat (by omega)) y0 (by omega) (by omega) (c := (16 * hV H1 346 (n0).toNat + hV H1 347 (n0).toNat)) (by omega)
  try have sh := y1 (n0).toNat (by omega)
  try have lv := y0 (n0).toNat (by omega)
  first
  | (have ix0 : n14 = 16 * (hV H1 346 (n0).toNat) := Eq.trans f32 (w32_iv (Iml 16 rfl (Iat f20 f19)) (by decide)); subst ix0; clear f32)
  | (have ix0 : n14 = 16 * (hV H1 346 (n0).toNat) := Eq.trans f32 (w32_id (by omega) (by omega)); subst ix0; clear f32)
  | (unfold w32 at f32; have ix0 : n14 = 16 * (hV H1 346 (n0).toNat) := (by omega); subst ix0)
  | skip
  first
  | (have ix1 : n17 = (16 * (hV H1 346 (n0).toNat)) + hV H1 347 (n0).toNat := Eq.trans f38 (w32_iv (Iad (Iml 16 rfl (Iat f20 f19)) (Iat f13 f12)) (by decide)); subst ix1; clear f38)
  | (have ix1 : n17 = (16 * (hV H1 346 (n0).toNat)) + hV H1 347 (n0).toNat := Eq.trans f38 (w32_id (by omega) (by omega)); subst ix1; clear f38)
  | (unfold w32 at f38; have ix1 : n17 = (16 * (hV H1 346 (n0).toNat)) + hV H1 347 (n0).toNat := (by omega); subst ix1)
  | skip
  first
  | (have ix2 : n21 = hV H1 347 (n0).toNat + 1 := Eq.trans f45 (w32_iv (Iad (Iat f13 f12) (IC 1)) (by decide)); subst ix2; clear f45)
  | (have ix2 : n21 = hV H1 347 (n0).toNat + 1 := Eq.trans f45 (w32_id (by omega) (by omega)); subst ix2; clear f45)
  | (unfold w32 at f45; have ix2 : n21 = hV H1 347 (n0).toNat + 1 := (by omega); subst ix2)
  | skip
  first
  | (have ix3 : n27 = n0 + 1 := Eq.trans f57 (w32_iv (Iad (Iat f1 f0) (IC 1)) (by decide)); subst ix3; clear f57)
  | (have ix3 : n27 = n0 + 1 := Eq.trans f57 (w32_id (by omega) (by omega)); subst ix3; clear f57)
  | (unfold w32 at f57; have ix3 : n27 = n0 + 1 := (by omega); subst ix3)
  | skip
  try unfold w32 at f32
  try unfold w32 at f38
  try unfold w32 at f45
  try unfold w32 at f57

  first
  | omega
  | (have ca := cue_at (p1 (n3).toNat (by omega)) y0 (by omega) (by omega) (c := (16 * hV H1 346 (n0).toNat + hV H1 347 (n0).toNat)) (by omega)
     omega)
  | (have ua := use_at (p1 (n3).toNat (by omega)) y0 (by omega) (by omega) (c := (16 * hV H1 346 (n0).toNat + hV H1 347 (n0).toNat)) (by omega) (by omega)
     omega)
  | (have ul := ULp_lay y2 (p1 (n3).toNat (by omega)) y0 (by omega) (by omega) (by omega) (c := (16 * hV H1 346 (n0).toNat + hV H1 347 (n0).toNat)) (by omega) (by omega)
     omega)
theorem c_270_34_7 {q0 : Nat} : vOkm T0 (eP e_270 L_270 A_270 mu_270 (some q0)) 2 ([(1269, [34, 2, 29, 31, 33], [2, 3], 0), (90, [34], [], -10999), (91, [34], [], 10999), (22, [33, 32, 4], [2], 0), (90, [33], [], -1000), (91, [33], [], 1000), (20, [32, 2], [2], 87), (0, [32], [], 348), (22, [31, 30, 17], [2], 0), (90, [31], [], -9999), (91, [31], [], 9999), (20, [30, 2], [2], 28), (0, [30], [], 302), (22, [29, 28, 17], [2], 0), (90, [29], [], -1), (91, [29], [], 9999), (20, [28, 2], [2], 27), (0, [28], [], 301), (1, [27, 4, 26], [], 0), (0, [26], [], 1), (20, [25, 2], [2], 87), (0, [25], [], 348), (40, [23, 24], [], 0), (0, [24], [], 5), (22, [23, 22, 17], [2], 0), (90, [23], [], 0), (91, [23], [], 5), (20, [22, 2], [2], 24), (0, [22], [], 298), (80, [18, 4, 21], [2, 1], 0), (1, [21, 19, 20], [], 0), (0, [20], [], 1), (22, [19, 18, 4], [1], 0), (90, [19], [], 0), (91, [19], [], 16), (20, [18, 2], [1], 86), (0, [18], [], 347), (1, [17, 14, 16], [], 0), (22, [16, 15, 4], [1], 0), (90, [16], [], 0), (91, [16], [], 16), (20, [15, 2], [1], 86), (0, [15], [], 347), (3, [14, 11, 13], [], 0), (22, [13, 12, 4], [1], 0), (90, [13], [], 0), (91, [13], [], 62), (20, [12, 2], [1], 85), (0, [12], [], 346), (0, [11], [], 16), (41, [6, 10], [], 0), (22, [10, 7, 9], [1], 0), (90, [10], [], 0), (91, [10], [], 16), (22, [9, 8, 4], [1], 0), (90, [9], [], 0), (91, [9], [], 62), (20, [8, 2], [1], 85), (0, [8], [], 346), (20, [7, 2], [1], 22), (0, [7], [], 296), (22, [6, 5, 4], [1], 0), (90, [6], [], 0), (91, [6], [], 16), (20, [5, 2], [1], 86), (0, [5], [], 347), (33, [4], [], 0), (5000, [0, 1, 2, 3, 4], [0, 1], 34), (0, [0], [], 285), (90, [1], [], 0), (91, [1], [], 7), (0, [2], [], 285), (90, [3], [], 0), (91, [3], [], 7), (90, [4], [], -1), (91, [4], [], 6)], (70, [27], [], 8)) := vOk_inI fun ρ η f0 f1 f2 f3 f4 f5 f6 f7 f8 f9 f10 f11 f12 f13 f14 f15 f16 f17 f18 f19 f20 f21 f22 f23 f24 f25 f26 f27 f28 f29 f30 f31 f32 f33 f34 f35 f36 f37 f38 f39 f40 f41 f42 f43 f44 f45 f46 f47 f48 f49 f50 f51 f52 f53 f54 f55 f56 f57 f58 f59 f60 f61 f62 f63 f64 f65 f66 f67 f68 f69 f70 f71 f72 f73 f74 f75 => q_270_10 (q0 := q0) (n0 := ρ 4) (n1 := ρ 3) (n2 := ρ 2) (n3 := ρ 1) (n4 := ρ 0) (n5 := ρ 5) (n6 := ρ 6) (n7 := ρ 7) (n8 := ρ 8) (n9 := ρ 9) (n10 := ρ 10) (n11 := ρ 11) (n12 := ρ 12) (n13 := ρ 13) (n14 := ρ 14) (n15 := ρ 15) (n16 := ρ 16) (n17 := ρ 17) (n18 := ρ 18) (n19 := ρ 19) (n20 := ρ 20) (n21 := ρ 21) (n22 := ρ 22) (n23 := ρ 23) (n24 := ρ 24) (n25 := ρ 25) (n26 := ρ 26) (n27 := ρ 27) (n28 := ρ 28) (n29 := ρ 29) (n30 := ρ 30) (n31 := ρ 31) (n32 := ρ 32) (n33 := ρ 33) (n34 := ρ 34) (H0 := η 0) (H1 := η 1) (H2 := η 2) (H3 := η 3) f75 f74 f73 f72 f71 f70 f69 f68 f67 f66 f65 f64 f63 f62 f61 f60 f59 f58 f57 f56 f55 f54 f53 f52 f51 f50 f49 f48 f47 f46 f45 f44 f43 f42 f41 f40 f39 f38 f37 f36 f35 f34 f33 f32 f31 f30 f29 f28 f27 f26 f25 f24 f23 f22 f21 f20 f19 f18 f17 f16 f15 f14 f13 f12 f11 f10 f9 f8 f7 f6 f5 f4 f3 f2 f1 f0
theorem q_270_11 {q0 : Nat} {n0 n1 n2 n3 n4 n5 n6 n7 n8 n9 n10 n11 n12 n13 n14 n15 n16 n17 n18 n19 n20 n21 n22 n23 n24 n25 n26 n27 n28 n29 n30 n31 n32 n33 n34 : Int} {H0 H1 H2 H3 : gH} (f0 : n0 ≤ 6) (f1 : (-1) ≤ n0) (f2 : n1 ≤ 7) (f3 : 0 ≤ n1) (f4 : n2 = 285) (f5 : n3 ≤ 7) (f6 : 0 ≤ n3) (f7 : n4 = 285) (f8 : (hLe T0 H0 H1 ∧ hFr s_270.2.2.2.2 H0 H1 ∧ hWt T0 H1) ∧ (Ab_270_34 n4 n3 n2 n1 n0 H0 H1 ∧ preb_270 n4 n3 H0) ∧ some q0 = some (mub_270_34 n4 n3 n2 n1 n0 H0 H1)) (f9 : 0 ≤ n0) (f10 : n5 = 347) (f11 : n5 = hV H1 (n2).toNat 86) (f12 : n6 ≤ 16) (f13 : 0 ≤ n6) (f14 : n6 = hV H1 (n5).toNat (n0).toNat) (f15 : n7 = 296) (f16 : n7 = hV H1 (n2).toNat 22) (f17 : n8 = 346) (f18 : n8 = hV H1 (n2).toNat 85) (f19 : n9 ≤ 62) (f20 : 0 ≤ n9) (f21 : n9 = hV H1 (n8).toNat (n0).toNat) (f22 : n10 ≤ 16) (f23 : 0 ≤ n10) (f24 : n10 = hV H1 (n7).toNat (n9).toNat) (f25 : n6 ≠ n10) (f26 : n11 = 16) (f27 : n12 = 346) (f28 : n12 = hV H1 (n2).toNat 85) (f29 : n13 ≤ 62) (f30 : 0 ≤ n13) (f31 : n13 = hV H1 (n12).toNat (n0).toNat) (f32 : n14 = w32 (n11 * n13)) (f33 : n15 = 347) (f34 : n15 = hV H1 (n2).toNat 86) (f35 : n16 ≤ 16) (f36 : 0 ≤ n16) (f37 : n16 = hV H1 (n15).toNat (n0).toNat) (f38 : n17 = w32 (n14 + n16)) (f39 : n18 = 347) (f40 : n18 = hV H1 (n2).toNat 86) (f41 : n19 ≤ 16) (f42 : 0 ≤ n19) (f43 : n19 = hV H1 (n18).toNat (n0).toNat) (f44 : n20 = 1) (f45 : n21 = w32 (n19 + n20)) (f46 : hUpd H2 H1 n18 n0 n21) (f47 : n22 = 298) (f48 : n22 = hV H2 (n2).toNat 24) (f49 : n23 ≤ 5) (f50 : 0 ≤ n23) (f51 : n23 = hV H2 (n22).toNat (n17).toNat) (f52 : n24 = 5) (f53 : n23 = n24) (f54 : n25 = 348) (f55 : n25 = hV H2 (n2).toNat 87) (f56 : n26 = 1) (f57 : n27 = w32 (n0 + n26)) (f58 : n28 = 301) (f59 : n28 = hV H2 (n2).toNat 27) (f60 : n29 ≤ 9999) (f61 : (-1) ≤ n29) (f62 : n29 = hV H2 (n28).toNat (n17).toNat) (f63 : n30 = 302) (f64 : n30 = hV H2 (n2).toNat 28) (f65 : n31 ≤ 9999) (f66 : (-9999) ≤ n31) (f67 : n31 = hV H2 (n30).toNat (n17).toNat) (f68 : n32 = 348) (f69 : n32 = hV H2 (n2).toNat 87) (f70 : n33 ≤ 1000) (f71 : (-1000) ≤ n33) (f72 : n33 = hV H2 (n32).toNat (n0).toNat) (f73 : n34 ≤ 10999) (f74 : (-10999) ≤ n34) (f75 : (hLe T0 H2 H3 ∧ hFr s_269.2.2.2.2 H2 H3 ∧ ((0 : Int) = 0 → H3.length = H2.length) ∧ hWt T0 H3) ∧ postb_269 n34 n2 n29 n31 n33 H2 H3) : (-1000) ≤ n34 := by
  have g4 := f8.2.1.1
  unfold Ab_270_34 at g4
  have g3 := f8.2.1.2
  unfold preb_270 at g3
  unfold postb_269 at f75
  have e0 : n6 = hV H1 347 (n0).toNat := (by rw [f10] at f14; exact f14 : n6 = hV H1 347 (n0).toNat)
  have e1 : n9 = hV H1 346 (n0).toNat := (by rw [f17] at f21; exact f21 : n9 = hV H1 346 (n0).toNat)
  have e2 : hV H1 296 = hV H0 296 := fRow f8.1.2.1 296 kR_270_296
  have e3 : n10 = hV H0 296 (n9).toNat := (by rw [f15] at f24; exact f24 : n10 = hV H1 296 (n9).toNat).trans ((congrFun e2 _))
  have e4 : n13 = hV H1 346 (n0).toNat := (by rw [f27] at f31; exact f31 : n13 = hV H1 346 (n0).toNat)
  have e5 : n16 = hV H1 347 (n0).toNat := (by rw [f33] at f37; exact f37 : n16 = hV H1 347 (n0).toNat)
  have e6 : n19 = hV H1 347 (n0).toNat := (by rw [f39] at f43; exact f43 : n19 = hV H1 347 (n0).toNat)
  have e8 : hV H1 298 = hV H0 298 := fRow f8.1.2.1 298 kR_270_298
  have e9 : n23 = hV H0 298 (n17).toNat := (by rw [f47] at f51; exact f51 : n23 = hV H2 298 (n17).toNat).trans (((congrFun (uRowNe f46 298 (iS (show n18 = ((347 : Nat) : Int) from f39) rfl)) _)).trans ((congrFun e8 _)))
  have e12 : n29 = hV H0 301 (n17).toNat := (by rw [f58] at f62; exact f62 : n29 = hV H2 301 (n17).toNat).trans (((congrFun (uRowNe f46 301 (iS (show n18 = ((347 : Nat) : Int) from f39) rfl)) _)).trans ((congrFun (fRow f8.1.2.1 301 kR_270_301) _)))
  have e15 : n31 = hV H0 302 (n17).toNat := (by rw [f63] at f67; exact f67 : n31 = hV H2 302 (n17).toNat).trans (((congrFun (uRowNe f46 302 (iS (show n18 = ((347 : Nat) : Int) from f39) rfl)) _)).trans ((congrFun (fRow f8.1.2.1 302 kR_270_302) _)))
  have e17 : n33 = hV H1 348 (n0).toNat := (by rw [f68] at f72; exact f72 : n33 = hV H2 348 (n0).toNat).trans ((congrFun (uRowNe f46 348 (iS (show n18 = ((347 : Nat) : Int) from f39) rfl)) _))
  have e20 : hV H1 294 = hV H0 294 := fRow f8.1.2.1 294 kR_270_294
  have e21 : hV H1 300 = hV H0 300 := fRow f8.1.2.1 300 kR_270_300
  have e22 : (0 : Int) ≤ hV H0 285 18 ∧ hV H0 285 18 ≤ 8 := bTo ((f8.1.2.1.1 285 18 kF_270_285_18)) (f8.1.2.2 285 18 _ _ kW_285_18)
  have e23 : (0 : Int) ≤ hV H1 285 82 ∧ hV H1 285 82 ≤ 40 := f8.1.2.2 285 82 _ _ kW_285_82
  try simp only [e20, e2, e8, e21] at g4
  have k0 := g4.1
  have y0 := g4.2.1
  have y1 := g4.2.2.1
  have y2 := g4.2.2.2
  have p0 := g3.1
  have p1 := g3.2
  have r0_0 := f75.2
  clear g3
  clear g4
  clear f11 f14 f16 f18 f21 f24 f28 f31 f34 f37 f40 f43 f48 f51 f55 f59 f62 f64 f67 f69 f72 e2 e8 e20 e21
  subst e0
  subst e1
  subst e3
  subst e4
  subst e5
  subst e6
  subst e9
  subst e12
  subst e15
  subst e17
  rw [f26] at f32
  try have ca := cue_at (p1 (n3).toNat (by omega)) y0 (by omega) (by omega) (c := (16 * hV H1 346 (n0).toNat + hV H1 347 (n0).toNat)) (by omega)
  try have sh := y1 (n0).toNat (by omega)
  try have lv := y0 (n0).toNat (by omega)
  first
  | (have ix0 : n14 = 16 * (hV H1 346 (n0).toNat) := Eq.trans f32 (w32_iv (Iml 16 rfl (Iat f20 f19)) (by decide)); subst ix0; clear f32)
  | (have ix0 : n14 = 16 * (hV H1 346 (n0).toNat) := Eq.trans f32 (w32_id (by omega) (by omega)); subst ix0; clear f32)
  | (unfold w32 at f32; have ix0 : n14 = 16 * (hV H1 346 (n0).toNat) := (by omega); subst ix0)
  | skip
  first
  | (have ix1 : n17 = (16 * (hV H1 346 (n0).toNat)) + hV H1 347 (n0).toNat := Eq.trans f38 (w32_iv (Iad (Iml 16 rfl (Iat f20 f19)) (Iat f13 f12)) (by decide)); subst ix1; clear f38)
  | (have ix1 : n17 = (16 * (hV H1 346 (n0).toNat)) + hV H1 347 (n0).toNat := Eq.trans f38 (w32_id (by omega) (by omega)); subst ix1; clear f38)
  | (unfold w32 at f38; have ix1 : n17 = (16 * (hV H1 346 (n0).toNat)) + hV H1 347 (n0).toNat := (by omega); subst ix1)
  | skip
  first
  | (have ix2 : n21 = hV H1 347 (n0).toNat + 1 := Eq.trans f45 (w32_iv (Iad (Iat f13 f12) (IC 1)) (by decide)); subst ix2; clear f45)
  | (have ix2 : n21 = hV H1 347 (n0).toNat + 1 := Eq.trans f45 (w32_id (by omega) (by omega)); subst ix2; clear f45)
  | (unfold w32 at f45; have ix2 : n21 = hV H1 347 (n0).toNat + 1 := (by omega); subst ix2)
  | skip
  try unfold w32 at f32
  try unfold w32 at f38
  try unfold w32 at f45
  try unfold w32 at f57

  first
  | omega
  | (have ca := cue_at (p1 (n3).toNat (by omega)) y0 (by omega) (by omega) (c := (16 * hV H1 346 (n0).toNat + hV H1 347 (n0).toNat)) (by omega)
     omega)
  | (have ua := use_at (p1 (n3).toNat (by omega)) y0 (by omega) (by omega) (c := (16 * hV H1 346 (n0).toNat + hV H1 347 (n0).toNat)) (by omega) (by omega)
     omega)
  | (have ul := ULp_lay y2 (p1 (n3).toNat (by omega)) y0 (by omega) (by omega) (by omega) (c := (16 * hV H1 346 (n0).toNat + hV H1 347 (n0).toNat)) (by omega) (by omega)
     omega)
theorem c_270_34_8 {q0 : Nat} : vOkm T0 (eP e_270 L_270 A_270 mu_270 (some q0)) 2 ([(1269, [34, 2, 29, 31, 33], [2, 3], 0), (90, [34], [], -10999), (91, [34], [], 10999), (22, [33, 32, 4], [2], 0), (90, [33], [], -1000), (91, [33], [], 1000), (20, [32, 2], [2], 87), (0, [32], [], 348), (22, [31, 30, 17], [2], 0), (90, [31], [], -9999), (91, [31], [], 9999), (20, [30, 2], [2], 28), (0, [30], [], 302), (22, [29, 28, 17], [2], 0), (90, [29], [], -1), (91, [29], [], 9999), (20, [28, 2], [2], 27), (0, [28], [], 301), (1, [27, 4, 26], [], 0), (0, [26], [], 1), (20, [25, 2], [2], 87), (0, [25], [], 348), (40, [23, 24], [], 0), (0, [24], [], 5), (22, [23, 22, 17], [2], 0), (90, [23], [], 0), (91, [23], [], 5), (20, [22, 2], [2], 24), (0, [22], [], 298), (80, [18, 4, 21], [2, 1], 0), (1, [21, 19, 20], [], 0), (0, [20], [], 1), (22, [19, 18, 4], [1], 0), (90, [19], [], 0), (91, [19], [], 16), (20, [18, 2], [1], 86), (0, [18], [], 347), (1, [17, 14, 16], [], 0), (22, [16, 15, 4], [1], 0), (90, [16], [], 0), (91, [16], [], 16), (20, [15, 2], [1], 86), (0, [15], [], 347), (3, [14, 11, 13], [], 0), (22, [13, 12, 4], [1], 0), (90, [13], [], 0), (91, [13], [], 62), (20, [12, 2], [1], 85), (0, [12], [], 346), (0, [11], [], 16), (41, [6, 10], [], 0), (22, [10, 7, 9], [1], 0), (90, [10], [], 0), (91, [10], [], 16), (22, [9, 8, 4], [1], 0), (90, [9], [], 0), (91, [9], [], 62), (20, [8, 2], [1], 85), (0, [8], [], 346), (20, [7, 2], [1], 22), (0, [7], [], 296), (22, [6, 5, 4], [1], 0), (90, [6], [], 0), (91, [6], [], 16), (20, [5, 2], [1], 86), (0, [5], [], 347), (33, [4], [], 0), (5000, [0, 1, 2, 3, 4], [0, 1], 34), (0, [0], [], 285), (90, [1], [], 0), (91, [1], [], 7), (0, [2], [], 285), (90, [3], [], 0), (91, [3], [], 7), (90, [4], [], -1), (91, [4], [], 6)], (90, [34], [], -1000)) := vOk_inI fun ρ η f0 f1 f2 f3 f4 f5 f6 f7 f8 f9 f10 f11 f12 f13 f14 f15 f16 f17 f18 f19 f20 f21 f22 f23 f24 f25 f26 f27 f28 f29 f30 f31 f32 f33 f34 f35 f36 f37 f38 f39 f40 f41 f42 f43 f44 f45 f46 f47 f48 f49 f50 f51 f52 f53 f54 f55 f56 f57 f58 f59 f60 f61 f62 f63 f64 f65 f66 f67 f68 f69 f70 f71 f72 f73 f74 f75 => q_270_11 (q0 := q0) (n0 := ρ 4) (n1 := ρ 3) (n2 := ρ 2) (n3 := ρ 1) (n4 := ρ 0) (n5 := ρ 5) (n6 := ρ 6) (n7 := ρ 7) (n8 := ρ 8) (n9 := ρ 9) (n10 := ρ 10) (n11 := ρ 11) (n12 := ρ 12) (n13 := ρ 13) (n14 := ρ 14) (n15 := ρ 15) (n16 := ρ 16) (n17 := ρ 17) (n18 := ρ 18) (n19 := ρ 19) (n20 := ρ 20) (n21 := ρ 21) (n22 := ρ 22) (n23 := ρ 23) (n24 := ρ 24) (n25 := ρ 25) (n26 := ρ 26) (n27 := ρ 27) (n28 := ρ 28) (n29 := ρ 29) (n30 := ρ 30) (n31 := ρ 31) (n32 := ρ 32) (n33 := ρ 33) (n34 := ρ 34) (H0 := η 0) (H1 := η 1) (H2 := η 2) (H3 := η 3) f75 f74 f73 f72 f71 f70 f69 f68 f67 f66 f65 f64 f63 f62 f61 f60 f59 f58 f57 f56 f55 f54 f53 f52 f51 f50 f49 f48 f47 f46 f45 f44 f43 f42 f41 f40 f39 f38 f37 f36 f35 f34 f33 f32 f31 f30 f29 f28 f27 f26 f25 f24 f23 f22 f21 f20 f19 f18 f17 f16 f15 f14 f13 f12 f11 f10 f9 f8 f7 f6 f5 f4 f3 f2 f1 f0
theorem q_270_12 {q0 : Nat} {n0 n1 n2 n3 n4 n5 n6 n7 n8 n9 n10 n11 n12 n13 n14 n15 n16 n17 n18 n19 n20 n21 n22 n23 n24 n25 n26 n27 n28 n29 n30 n31 n32 n33 n34 : Int} {H0 H1 H2 H3 : gH} (f0 : n0 ≤ 6) (f1 : (-1) ≤ n0) (f2 : n1 ≤ 7) (f3 : 0 ≤ n1) (f4 : n2 = 285) (f5 : n3 ≤ 7) (f6 : 0 ≤ n3) (f7 : n4 = 285) (f8 : (hLe T0 H0 H1 ∧ hFr s_270.2.2.2.2 H0 H1 ∧ hWt T0 H1) ∧ (Ab_270_34 n4 n3 n2 n1 n0 H0 H1 ∧ preb_270 n4 n3 H0) ∧ some q0 = some (mub_270_34 n4 n3 n2 n1 n0 H0 H1)) (f9 : 0 ≤ n0) (f10 : n5 = 347) (f11 : n5 = hV H1 (n2).toNat 86) (f12 : n6 ≤ 16) (f13 : 0 ≤ n6) (f14 : n6 = hV H1 (n5).toNat (n0).toNat) (f15 : n7 = 296) (f16 : n7 = hV H1 (n2).toNat 22) (f17 : n8 = 346) (f18 : n8 = hV H1 (n2).toNat 85) (f19 : n9 ≤ 62) (f20 : 0 ≤ n9) (f21 : n9 = hV H1 (n8).toNat (n0).toNat) (f22 : n10 ≤ 16) (f23 : 0 ≤ n10) (f24 : n10 = hV H1 (n7).toNat (n9).toNat) (f25 : n6 ≠ n10) (f26 : n11 = 16) (f27 : n12 = 346) (f28 : n12 = hV H1 (n2).toNat 85) (f29 : n13 ≤ 62) (f30 : 0 ≤ n13) (f31 : n13 = hV H1 (n12).toNat (n0).toNat) (f32 : n14 = w32 (n11 * n13)) (f33 : n15 = 347) (f34 : n15 = hV H1 (n2).toNat 86) (f35 : n16 ≤ 16) (f36 : 0 ≤ n16) (f37 : n16 = hV H1 (n15).toNat (n0).toNat) (f38 : n17 = w32 (n14 + n16)) (f39 : n18 = 347) (f40 : n18 = hV H1 (n2).toNat 86) (f41 : n19 ≤ 16) (f42 : 0 ≤ n19) (f43 : n19 = hV H1 (n18).toNat (n0).toNat) (f44 : n20 = 1) (f45 : n21 = w32 (n19 + n20)) (f46 : hUpd H2 H1 n18 n0 n21) (f47 : n22 = 298) (f48 : n22 = hV H2 (n2).toNat 24) (f49 : n23 ≤ 5) (f50 : 0 ≤ n23) (f51 : n23 = hV H2 (n22).toNat (n17).toNat) (f52 : n24 = 5) (f53 : n23 = n24) (f54 : n25 = 348) (f55 : n25 = hV H2 (n2).toNat 87) (f56 : n26 = 1) (f57 : n27 = w32 (n0 + n26)) (f58 : n28 = 301) (f59 : n28 = hV H2 (n2).toNat 27) (f60 : n29 ≤ 9999) (f61 : (-1) ≤ n29) (f62 : n29 = hV H2 (n28).toNat (n17).toNat) (f63 : n30 = 302) (f64 : n30 = hV H2 (n2).toNat 28) (f65 : n31 ≤ 9999) (f66 : (-9999) ≤ n31) (f67 : n31 = hV H2 (n30).toNat (n17).toNat) (f68 : n32 = 348) (f69 : n32 = hV H2 (n2).toNat 87) (f70 : n33 ≤ 1000) (f71 : (-1000) ≤ n33) (f72 : n33 = hV H2 (n32).toNat (n0).toNat) (f73 : n34 ≤ 10999) (f74 : (-10999) ≤ n34) (f75 : (hLe T0 H2 H3 ∧ hFr s_269.2.2.2.2 H2 H3 ∧ ((0 : Int) = 0 → H3.length = H2.length) ∧ hWt T0 H3) ∧ postb_269 n34 n2 n29 n31 n33 H2 H3) : n34 ≤ 1000 := by
  have g4 := f8.2.1.1
  unfold Ab_270_34 at g4
  have g3 := f8.2.1.2
  unfold preb_270 at g3
  unfold postb_269 at f75
  have e0 : n6 = hV H1 347 (n0).toNat := (by rw [f10] at f14; exact f14 : n6 = hV H1 347 (n0).toNat)
  have e1 : n9 = hV H1 346 (n0).toNat := (by rw [f17] at f21; exact f21 : n9 = hV H1 346 (n0).toNat)
  have e2 : hV H1 296 = hV H0 296 := fRow f8.1.2.1 296 kR_270_296
  have e3 : n10 = hV H0 296 (n9).toNat := (by rw [f15] at f24; exact f24 : n10 = hV H1 296 (n9).toNat).trans ((congrFun e2 _))
  have e4 : n13 = hV H1 346 (n0).toNat := (by rw [f27] at f31; exact f31 : n13 = hV H1 346 (n0).toNat)
  have e5 : n16 = hV H1 347 (n0).toNat := (by rw [f33] at f37; exact f37 : n16 = hV H1 347 (n0).toNat)
  have e6 : n19 = hV H1 347 (n0).toNat := (by rw [f39] at f43; exact f43 : n19 = hV H1 347 (n0).toNat)
  have e8 : hV H1 298 = hV H0 298 := fRow f8.1.2.1 298 kR_270_298
  have e9 : n23 = hV H0 298 (n17).toNat := (by rw [f47] at f51; exact f51 : n23 = hV H2 298 (n17).toNat).trans (((congrFun (uRowNe f46 298 (iS (show n18 = ((347 : Nat) : Int) from f39) rfl)) _)).trans ((congrFun e8 _)))
  have e12 : n29 = hV H0 301 (n17).toNat := (by rw [f58] at f62; exact f62 : n29 = hV H2 301 (n17).toNat).trans (((congrFun (uRowNe f46 301 (iS (show n18 = ((347 : Nat) : Int) from f39) rfl)) _)).trans ((congrFun (fRow f8.1.2.1 301 kR_270_301) _)))
  have e15 : n31 = hV H0 302 (n17).toNat := (by rw [f63] at f67; exact f67 : n31 = hV H2 302 (n17).toNat).trans (((congrFun (uRowNe f46 302 (iS (show n18 = ((347 : Nat) : Int) from f39) rfl)) _)).trans ((congrFun (fRow f8.1.2.1 302 kR_270_302) _)))
  have e17 : n33 = hV H1 348 (n0).toNat := (by rw [f68] at f72; exact f72 : n33 = hV H2 348 (n0).toNat).trans ((congrFun (uRowNe f46 348 (iS (show n18 = ((347 : Nat) : Int) from f39) rfl)) _))
  have e20 : hV H1 294 = hV H0 294 := fRow f8.1.2.1 294 kR_270_294
  have e21 : hV H1 300 = hV H0 300 := fRow f8.1.2.1 300 kR_270_300
  have e22 : (0 : Int) ≤ hV H0 285 18 ∧ hV H0 285 18 ≤ 8 := bTo ((f8.1.2.1.1 285 18 kF_270_285_18)) (f8.1.2.2 285 18 _ _ kW_285_18)
  have e23 : (0 : Int) ≤ hV H1 285 82 ∧ hV H1 285 82 ≤ 40 := f8.1.2.2 285 82 _ _ kW_285_82
  try simp only [e20, e2, e8, e21] at g4
  have k0 := g4.1
  have y0 := g4.2.1
  have y1 := g4.2.2.1
  have y2 := g4.2.2.2
  have p0 := g3.1
  have p1 := g3.2
  have r0_0 := f75.2
  clear g3
  clear g4
  clear f11 f14 f16 f18 f21 f24 f28 f31 f34 f37 f40 f43 f48 f51 f55 f59 f62 f64 f67 f69 f72 e2 e8 e20 e21
  subst e0
  subst e1
  subst e3
  subst e4
  subst e5
  subst e6
  subst e9
  subst e12
  subst e15
  subst e17
  rw [f26] at f32
  try have ca := cue_at (p1 (n3).toNat (by omega)) y0 (by omega) (by omega) (c := (16 * hV H1 346 (n0).toNat + hV H1 347 (n0).toNat)) (by omega)
  try have sh := y1 (n0).toNat (by omega)
  try have lv := y0 (n0).toNat (by omega)
  first
  | (have ix0 : n14 = 16 * (hV H1 346 (n0).toNat) := Eq.trans f32 (w32_iv (Iml 16 rfl (Iat f20 f19)) (by decide)); subst ix0; clear f32)
  | (have ix0 : n14 = 16 * (hV H1 346 (n0).toNat) := Eq.trans f32 (w32_id (by omega) (by omega)); subst ix0; clear f32)
  | (unfold w32 at f32; have ix0 : n14 = 16 * (hV H1 346 (n0).toNat) := (by omega); subst ix0)
  | skip
  first
  | (have ix1 : n17 = (16 * (hV H1 346 (n0).toNat)) + hV H1 347 (n0).toNat := Eq.trans f38 (w32_iv (Iad (Iml 16 rfl (Iat f20 f19)) (Iat f13 f12)) (by decide)); subst ix1; clear f38)
  | (have ix1 : n17 = (16 * (hV H1 346 (n0).toNat)) + hV H1 347 (n0).toNat := Eq.trans f38 (w32_id (by omega) (by omega)); subst ix1; clear f38)
  | (unfold w32 at f38; have ix1 : n17 = (16 * (hV H1 346 (n0).toNat)) + hV H1 347 (n0).toNat := (by omega); subst ix1)
  | skip
  first
  | (have ix2 : n21 = hV H1 347 (n0).toNat + 1 := Eq.trans f45 (w32_iv (Iad (Iat f13 f12) (IC 1)) (by decide)); subst ix2; clear f45)
  | (have ix2 : n21 = hV H1 347 (n0).toNat + 1 := Eq.trans f45 (w32_id (by omega) (by omega)); subst ix2; clear f45)
  | (unfold w32 at f45; have ix2 : n21 = hV H1 347 (n0).toNat + 1 := (by omega); subst ix2)
  | skip
  try unfold w32 at f32
  try unfold w32 at f38
  try unfold w32 at f45
  try unfold w32 at f57

  first
  | omega
  | (have ca := cue_at (p1 (n3).toNat (by omega)) y0 (by omega) (by omega) (c := (16 * hV H1 346 (n0).toNat + hV H1 347 (n0).toNat)) (by omega)
     omega)
  | (have ua := use_at (p1 (n3).toNat (by omega)) y0 (by omega) (by omega) (c := (16 * hV H1 346 (n0).toNat + hV H1 347 (n0).toNat)) (by omega) (by omega)
     omega)
  | (have ul := ULp_lay y2 (p1 (n3).toNat (by omega)) y0 (by omega) (by omega) (by omega) (c := (16 * hV H1 346 (n0).toNat + hV H1 347 (n0).toNat)) (by omega) (by omega)
     omega)
theorem c_270_34_9 {q0 : Nat} : vOkm T0 (eP e_270 L_270 A_270 mu_270 (some q0)) 2 ([(1269, [34, 2, 29, 31, 33], [2, 3], 0), (90, [34], [], -10999), (91, [34], [], 10999), (22, [33, 32, 4], [2], 0), (90, [33], [], -1000), (91, [33], [], 1000), (20, [32, 2], [2], 87), (0, [32], [], 348), (22, [31, 30, 17], [2], 0), (90, [31], [], -9999), (91, [31], [], 9999), (20, [30, 2], [2], 28), (0, [30], [], 302), (22, [29, 28, 17], [2], 0), (90, [29], [], -1), (91, [29], [], 9999), (20, [28, 2], [2], 27), (0, [28], [], 301), (1, [27, 4, 26], [], 0), (0, [26], [], 1), (20, [25, 2], [2], 87), (0, [25], [], 348), (40, [23, 24], [], 0), (0, [24], [], 5), (22, [23, 22, 17], [2], 0), (90, [23], [], 0), (91, [23], [], 5), (20, [22, 2], [2], 24), (0, [22], [], 298), (80, [18, 4, 21], [2, 1], 0), (1, [21, 19, 20], [], 0), (0, [20], [], 1), (22, [19, 18, 4], [1], 0), (90, [19], [], 0), (91, [19], [], 16), (20, [18, 2], [1], 86), (0, [18], [], 347), (1, [17, 14, 16], [], 0), (22, [16, 15, 4], [1], 0), (90, [16], [], 0), (91, [16], [], 16), (20, [15, 2], [1], 86), (0, [15], [], 347), (3, [14, 11, 13], [], 0), (22, [13, 12, 4], [1], 0), (90, [13], [], 0), (91, [13], [], 62), (20, [12, 2], [1], 85), (0, [12], [], 346), (0, [11], [], 16), (41, [6, 10], [], 0), (22, [10, 7, 9], [1], 0), (90, [10], [], 0), (91, [10], [], 16), (22, [9, 8, 4], [1], 0), (90, [9], [], 0), (91, [9], [], 62), (20, [8, 2], [1], 85), (0, [8], [], 346), (20, [7, 2], [1], 22), (0, [7], [], 296), (22, [6, 5, 4], [1], 0), (90, [6], [], 0), (91, [6], [], 16), (20, [5, 2], [1], 86), (0, [5], [], 347), (33, [4], [], 0), (5000, [0, 1, 2, 3, 4], [0, 1], 34), (0, [0], [], 285), (90, [1], [], 0), (91, [1], [], 7), (0, [2], [], 285), (90, [3], [], 0), (91, [3], [], 7), (90, [4], [], -1), (91, [4], [], 6)], (91, [34], [], 1000)) := vOk_inI fun ρ η f0 f1 f2 f3 f4 f5 f6 f7 f8 f9 f10 f11 f12 f13 f14 f15 f16 f17 f18 f19 f20 f21 f22 f23 f24 f25 f26 f27 f28 f29 f30 f31 f32 f33 f34 f35 f36 f37 f38 f39 f40 f41 f42 f43 f44 f45 f46 f47 f48 f49 f50 f51 f52 f53 f54 f55 f56 f57 f58 f59 f60 f61 f62 f63 f64 f65 f66 f67 f68 f69 f70 f71 f72 f73 f74 f75 => q_270_12 (q0 := q0) (n0 := ρ 4) (n1 := ρ 3) (n2 := ρ 2) (n3 := ρ 1) (n4 := ρ 0) (n5 := ρ 5) (n6 := ρ 6) (n7 := ρ 7) (n8 := ρ 8) (n9 := ρ 9) (n10 := ρ 10) (n11 := ρ 11) (n12 := ρ 12) (n13 := ρ 13) (n14 := ρ 14) (n15 := ρ 15) (n16 := ρ 16) (n17 := ρ 17) (n18 := ρ 18) (n19 := ρ 19) (n20 := ρ 20) (n21 := ρ 21) (n22 := ρ 22) (n23 := ρ 23) (n24 := ρ 24) (n25 := ρ 25) (n26 := ρ 26) (n27 := ρ 27) (n28 := ρ 28) (n29 := ρ 29) (n30 := ρ 30) (n31 := ρ 31) (n32 := ρ 32) (n33 := ρ 33) (n34 := ρ 34) (H0 := η 0) (H1 := η 1) (H2 := η 2) (H3 := η 3) f75 f74 f73 f72 f71 f70 f69 f68 f67 f66 f65 f64 f63 f62 f61 f60 f59 f58 f57 f56 f55 f54 f53 f52 f51 f50 f49 f48 f47 f46 f45 f44 f43 f42 f41 f40 f39 f38 f37 f36 f35 f34 f33 f32 f31 f30 f29 f28 f27 f26 f25 f24 f23 f22 f21 f20 f19 f18 f17 f16 f15 f14 f13 f12 f11 f10 f9 f8 f7 f6 f5 f4 f3 f2 f1 f0
theorem q_270_13 {q0 : Nat} {n0 n1 n2 n3 n4 n5 n6 n7 n8 n9 n10 n11 n12 n13 n14 n15 n16 n17 n18 n19 n20 n21 n22 n23 n24 n25 n26 n27 n28 n29 n30 n31 n32 n33 n34 n35 n36 n37 n38 n39 : Int} {H0 H1 H2 H3 H4 : gH} (f0 : n0 ≤ 6) (f1 : (-1) ≤ n0) (f2 : n1 ≤ 7) (f3 : 0 ≤ n1) (f4 : n2 = 285) (f5 : n3 ≤ 7) (f6 : 0 ≤ n3) (f7 : n4 = 285) (f8 : (hLe T0 H0 H1 ∧ hFr s_270.2.2.2.2 H0 H1 ∧ hWt T0 H1) ∧ (Ab_270_34 n4 n3 n2 n1 n0 H0 H1 ∧ preb_270 n4 n3 H0) ∧ some q0 = some (mub_270_34 n4 n3 n2 n1 n0 H0 H1)) (f9 : 0 ≤ n0) (f10 : n5 = 347) (f11 : n5 = hV H1 (n2).toNat 86) (f12 : n6 ≤ 16) (f13 : 0 ≤ n6) (f14 : n6 = hV H1 (n5).toNat (n0).toNat) (f15 : n7 = 296) (f16 : n7 = hV H1 (n2).toNat 22) (f17 : n8 = 346) (f18 : n8 = hV H1 (n2).toNat 85) (f19 : n9 ≤ 62) (f20 : 0 ≤ n9) (f21 : n9 = hV H1 (n8).toNat (n0).toNat) (f22 : n10 ≤ 16) (f23 : 0 ≤ n10) (f24 : n10 = hV H1 (n7).toNat (n9).toNat) (f25 : n6 ≠ n10) (f26 : n11 = 16) (f27 : n12 = 346) (f28 : n12 = hV H1 (n2).toNat 85) (f29 : n13 ≤ 62) (f30 : 0 ≤ n13) (f31 : n13 = hV H1 (n12).toNat (n0).toNat) (f32 : n14 = w32 (n11 * n13)) (f33 : n15 = 347) (f34 : n15 = hV H1 (n2).toNat 86) (f35 : n16 ≤ 16) (f36 : 0 ≤ n16) (f37 : n16 = hV H1 (n15).toNat (n0).toNat) (f38 : n17 = w32 (n14 + n16)) (f39 : n18 = 347) (f40 : n18 = hV H1 (n2).toNat 86) (f41 : n19 ≤ 16) (f42 : 0 ≤ n19) (f43 : n19 = hV H1 (n18).toNat (n0).toNat) (f44 : n20 = 1) (f45 : n21 = w32 (n19 + n20)) (f46 : hUpd H2 H1 n18 n0 n21) (f47 : n22 = 298) (f48 : n22 = hV H2 (n2).toNat 24) (f49 : n23 ≤ 5) (f50 : 0 ≤ n23) (f51 : n23 = hV H2 (n22).toNat (n17).toNat) (f52 : n24 = 5) (f53 : n23 = n24) (f54 : n25 = 348) (f55 : n25 = hV H2 (n2).toNat 87) (f56 : n26 = 1) (f57 : n27 = w32 (n0 + n26)) (f58 : n28 = 301) (f59 : n28 = hV H2 (n2).toNat 27) (f60 : n29 ≤ 9999) (f61 : (-1) ≤ n29) (f62 : n29 = hV H2 (n28).toNat (n17).toNat) (f63 : n30 = 302) (f64 : n30 = hV H2 (n2).toNat 28) (f65 : n31 ≤ 9999) (f66 : (-9999) ≤ n31) (f67 : n31 = hV H2 (n30).toNat (n17).toNat) (f68 : n32 = 348) (f69 : n32 = hV H2 (n2).toNat 87) (f70 : n33 ≤ 1000) (f71 : (-1000) ≤ n33) (f72 : n33 = hV H2 (n32).toNat (n0).toNat) (f73 : n34 ≤ 10999) (f74 : (-10999) ≤ n34) (f75 : (hLe T0 H2 H3 ∧ hFr s_269.2.2.2.2 H2 H3 ∧ ((0 : Int) = 0 → H3.length = H2.length) ∧ hWt T0 H3) ∧ postb_269 n34 n2 n29 n31 n33 H2 H3) (f76 : hUpd H4 H3 n25 n27 n34) (f77 : n35 = 346) (f78 : n35 = hV H4 (n2).toNat 85) (f79 : n36 = 1) (f80 : n37 = w32 (n0 + n36)) (f81 : n38 = 7) (f82 : n39 = w32 (n38 * n1)) : 0 ≤ n17 ∧ n17 < 1008 := by
  have g4 := f8.2.1.1
  unfold Ab_270_34 at g4
  have g3 := f8.2.1.2
  unfold preb_270 at g3
  unfold postb_269 at f75
  have e0 : n6 = hV H1 347 (n0).toNat := (by rw [f10] at f14; exact f14 : n6 = hV H1 347 (n0).toNat)
  have e1 : n9 = hV H1 346 (n0).toNat := (by rw [f17] at f21; exact f21 : n9 = hV H1 346 (n0).toNat)
  have e2 : hV H1 296 = hV H0 296 := fRow f8.1.2.1 296 kR_270_296
  have e3 : n10 = hV H0 296 (n9).toNat := (by rw [f15] at f24; exact f24 : n10 = hV H1 296 (n9).toNat).trans ((congrFun e2 _))
  have e4 : n13 = hV H1 346 (n0).toNat := (by rw [f27] at f31; exact f31 : n13 = hV H1 346 (n0).toNat)
  have e5 : n16 = hV H1 347 (n0).toNat := (by rw [f33] at f37; exact f37 : n16 = hV H1 347 (n0).toNat)
  have e6 : n19 = hV H1 347 (n0).toNat := (by rw [f39] at f43; exact f43 : n19 = hV H1 347 (n0).toNat)
  have e8 : hV H1 298 = hV H0 298 := fRow f8.1.2.1 298 kR_270_298
  have e9 : n23 = hV H0 298 (n17).toNat := (by rw [f47] at f51; exact f51 : n23 = hV H2 298 (n17).toNat).trans (((congrFun (uRowNe f46 298 (iS (show n18 = ((347 : Nat) : Int) from f39) rfl)) _)).trans ((congrFun e8 _)))
  have e12 : n29 = hV H0 301 (n17).toNat := (by rw [f58] at f62; exact f62 : n29 = hV H2 301 (n17).toNat).trans (((congrFun (uRowNe f46 301 (iS (show n18 = ((347 : Nat) : Int) from f39) rfl)) _)).trans ((congrFun (fRow f8.1.2.1 301 kR_270_301) _)))
  have e15 : n31 = hV H0 302 (n17).toNat := (by rw [f63] at f67; exact f67 : n31 = hV H2 302 (n17).toNat).trans (((congrFun (uRowNe f46 302 (iS (show n18 = ((347 : Nat) : Int) from f39) rfl)) _)).trans ((congrFun (fRow f8.1.2.1 302 kR_270_302) _)))
  have e17 : n33 = hV H1 348 (n0).toNat := (by rw [f68] at f72; exact f72 : n33 = hV H2 348 (n0).toNat).trans ((congrFun (uRowNe f46 348 (iS (show n18 = ((347 : Nat) : Int) from f39) rfl)) _))
  have e20 : hV H1 294 = hV H0 294 := fRow f8.1.2.1 294 kR_270_294
  have e21 : hV H1 300 = hV H0 300 := fRow f8.1.2.1 300 kR_270_300
  have e22 : (0 : Int) ≤ hV H0 285 18 ∧ hV H0 285 18 ≤ 8 := bTo ((f8.1.2.1.1 285 18 kF_270_285_18)) (f8.1.2.2 285 18 _ _ kW_285_18)
  have e23 : (0 : Int) ≤ hV H1 285 82 ∧ hV H1 285 82 ≤ 40 := f8.1.2.2 285 82 _ _ kW_285_82
  try simp only [e20, e2, e8, e21] at g4
  have k0 := g4.1
  have y0 := g4.2.1
  have y1 := g4.2.2.1
  have y2 := g4.2.2.2
  have p0 := g3.1
  have p1 := g3.2
  have r0_0 := f75.2
  clear g3
  clear g4
  clear f11 f14 f16 f18 f21 f24 f28 f31 f34 f37 f40 f43 f48 f51 f55 f59 f62 f64 f67 f69 f72 f78 e2 e8 e20 e21
  subst e0
  subst e1
  subst e3
  subst e4
  subst e5
  subst e6
  subst e9
  subst e12
  subst e15
  subst e17
  rw [f26] at f32
  rw [f81] at f82
  try have ca := cue_at (p1 (n3).toNat (by omega)) y0 (by omega) (by omega) (c := (16 * hV H1 346 (n0).toNat + hV H1 347 (n0).toNat)) (by omega)
  try have sh := y1 (n0).toNat (by omega)
  try have lv := y0 (n0).toNat (by omega)
  first
  | (have ix0 : n14 = 16 * (hV H1 346 (n0).toNat) := Eq.trans f32 (w32_iv (Iml 16 rfl (Iat f20 f19)) (by decide)); subst ix0; clear f32)
  | (have ix0 : n14 = 16 * (hV H1 346 (n0).toNat) := Eq.trans f32 (w32_id (by omega) (by omega)); subst ix0; clear f32)
  | (unfold w32 at f32; have ix0 : n14 = 16 * (hV H1 346 (n0).toNat) := (by omega); subst ix0)
  | skip
  first
  | (have ix1 : n17 = (16 * (hV H1 346 (n0).toNat)) + hV H1 347 (n0).toNat := Eq.trans f38 (w32_iv (Iad (Iml 16 rfl (Iat f20 f19)) (Iat f13 f12)) (by decide)); subst ix1; clear f38)
  | (have ix1 : n17 = (16 * (hV H1 346 (n0).toNat)) + hV H1 347 (n0).toNat := Eq.trans f38 (w32_id (by omega) (by omega)); subst ix1; clear f38)
  | (unfold w32 at f38; have ix1 : n17 = (16 * (hV H1 346 (n0).toNat)) + hV H1 347 (n0).toNat := (by omega); subst ix1)
  | skip
  first
  | (have ix2 : n21 = hV H1 347 (n0).toNat + 1 := Eq.trans f45 (w32_iv (Iad (Iat f13 f12) (IC 1)) (by decide)); subst ix2; clear f45)
  | (have ix2 : n21 = hV H1 347 (n0).toNat + 1 := Eq.trans f45 (w32_id (by omega) (by omega)); subst ix2; clear f45)
  | (unfold w32 at f45; have ix2 : n21 = hV H1 347 (n0).toNat + 1 := (by omega); subst ix2)
  | skip
  first
  | (have ix3 : n27 = n0 + 1 := Eq.trans f57 (w32_iv (Iad (Iat f1 f0) (IC 1)) (by decide)); subst ix3; clear f57)
  | (have ix3 : n27 = n0 + 1 := Eq.trans f57 (w32_id (by omega) (by omega)); subst ix3; clear f57)
  | (unfold w32 at f57; have ix3 : n27 = n0 + 1 := (by omega); subst ix3)
  | skip
  try unfold w32 at f32
  try unfold w32 at f38
  try unfold w32 at f45
  try unfold w32 at f57
  try unfold w32 at f80
  try unfold w32 at f82

  first
  | omega
  | (have ca := cue_at (p1 (n3).toNat (by omega)) y0 (by omega) (by omega) (c := (16 * hV H1 346 (n0).toNat + hV H1 347 (n0).toNat)) (by omega)
     omega)
  | (have ua := use_at (p1 (n3).toNat (by omega)) y0 (by omega) (by omega) (c := (16 * hV H1 346 (n0).toNat + hV H1 347 (n0).toNat)) (by omega) (by omega)
     omega)
  | (have ul := ULp_lay y2 (p1 (n3).toNat (by omega)) y0 (by omega) (by omega) (by omega) (c := (16 * hV H1 346 (n0).toNat + hV H1 347 (n0).toNat)) (by omega) (by omega)
     omega)
theorem c_270_34_10 {q0 : Nat} : vOkm T0 (eP e_270 L_270 A_270 mu_270 (some q0)) 2 ([(3, [39, 38, 3], [], 0), (0, [38], [], 7), (1, [37, 4, 36], [], 0), (0, [36], [], 1), (20, [35, 2], [4], 85), (0, [35], [], 346), (80, [25, 27, 34], [4, 3], 0), (1269, [34, 2, 29, 31, 33], [2, 3], 0), (90, [34], [], -10999), (91, [34], [], 10999), (22, [33, 32, 4], [2], 0), (90, [33], [], -1000), (91, [33], [], 1000), (20, [32, 2], [2], 87), (0, [32], [], 348), (22, [31, 30, 17], [2], 0), (90, [31], [], -9999), (91, [31], [], 9999), (20, [30, 2], [2], 28), (0, [30], [], 302), (22, [29, 28, 17], [2], 0), (90, [29], [], -1), (91, [29], [], 9999), (20, [28, 2], [2], 27), (0, [28], [], 301), (1, [27, 4, 26], [], 0), (0, [26], [], 1), (20, [25, 2], [2], 87), (0, [25], [], 348), (40, [23, 24], [], 0), (0, [24], [], 5), (22, [23, 22, 17], [2], 0), (90, [23], [], 0), (91, [23], [], 5), (20, [22, 2], [2], 24), (0, [22], [], 298), (80, [18, 4, 21], [2, 1], 0), (1, [21, 19, 20], [], 0), (0, [20], [], 1), (22, [19, 18, 4], [1], 0), (90, [19], [], 0), (91, [19], [], 16), (20, [18, 2], [1], 86), (0, [18], [], 347), (1, [17, 14, 16], [], 0), (22, [16, 15, 4], [1], 0), (90, [16], [], 0), (91, [16], [], 16), (20, [15, 2], [1], 86), (0, [15], [], 347), (3, [14, 11, 13], [], 0), (22, [13, 12, 4], [1], 0), (90, [13], [], 0), (91, [13], [], 62), (20, [12, 2], [1], 85), (0, [12], [], 346), (0, [11], [], 16), (41, [6, 10], [], 0), (22, [10, 7, 9], [1], 0), (90, [10], [], 0), (91, [10], [], 16), (22, [9, 8, 4], [1], 0), (90, [9], [], 0), (91, [9], [], 62), (20, [8, 2], [1], 85), (0, [8], [], 346), (20, [7, 2], [1], 22), (0, [7], [], 296), (22, [6, 5, 4], [1], 0), (90, [6], [], 0), (91, [6], [], 16), (20, [5, 2], [1], 86), (0, [5], [], 347), (33, [4], [], 0), (5000, [0, 1, 2, 3, 4], [0, 1], 34), (0, [0], [], 285), (90, [1], [], 0), (91, [1], [], 7), (0, [2], [], 285), (90, [3], [], 0), (91, [3], [], 7), (90, [4], [], -1), (91, [4], [], 6)], (70, [17], [], 1008)) := vOk_inI fun ρ η f0 f1 f2 f3 f4 f5 f6 f7 f8 f9 f10 f11 f12 f13 f14 f15 f16 f17 f18 f19 f20 f21 f22 f23 f24 f25 f26 f27 f28 f29 f30 f31 f32 f33 f34 f35 f36 f37 f38 f39 f40 f41 f42 f43 f44 f45 f46 f47 f48 f49 f50 f51 f52 f53 f54 f55 f56 f57 f58 f59 f60 f61 f62 f63 f64 f65 f66 f67 f68 f69 f70 f71 f72 f73 f74 f75 f76 f77 f78 f79 f80 f81 f82 => q_270_13 (q0 := q0) (n0 := ρ 4) (n1 := ρ 3) (n2 := ρ 2) (n3 := ρ 1) (n4 := ρ 0) (n5 := ρ 5) (n6 := ρ 6) (n7 := ρ 7) (n8 := ρ 8) (n9 := ρ 9) (n10 := ρ 10) (n11 := ρ 11) (n12 := ρ 12) (n13 := ρ 13) (n14 := ρ 14) (n15 := ρ 15) (n16 := ρ 16) (n17 := ρ 17) (n18 := ρ 18) (n19 := ρ 19) (n20 := ρ 20) (n21 := ρ 21) (n22 := ρ 22) (n23 := ρ 23) (n24 := ρ 24) (n25 := ρ 25) (n26 := ρ 26) (n27 := ρ 27) (n28 := ρ 28) (n29 := ρ 29) (n30 := ρ 30) (n31 := ρ 31) (n32 := ρ 32) (n33 := ρ 33) (n34 := ρ 34) (n35 := ρ 35) (n36 := ρ 36) (n37 := ρ 37) (n38 := ρ 38) (n39 := ρ 39) (H0 := η 0) (H1 := η 1) (H2 := η 2) (H3 := η 3) (H4 := η 4) f82 f81 f80 f79 f78 f77 f76 f75 f74 f73 f72 f71 f70 f69 f68 f67 f66 f65 f64 f63 f62 f61 f60 f59 f58 f57 f56 f55 f54 f53 f52 f51 f50 f49 f48 f47 f46 f45 f44 f43 f42 f41 f40 f39 f38 f37 f36 f35 f34 f33 f32 f31 f30 f29 f28 f27 f26 f25 f24 f23 f22 f21 f20 f19 f18 f17 f16 f15 f14 f13 f12 f11 f10 f9 f8 f7 f6 f5 f4 f3 f2 f1 f0
theorem kR_269_300 : vFreeR s_269.2.2.2.2 300 = true := by decide +kernel
theorem q_270_14 {q0 : Nat} {n0 n1 n2 n3 n4 n5 n6 n7 n8 n9 n10 n11 n12 n13 n14 n15 n16 n17 n18 n19 n20 n21 n22 n23 n24 n25 n26 n27 n28 n29 n30 n31 n32 n33 n34 n35 n36 n37 n38 n39 n40 n41 n42 : Int} {H0 H1 H2 H3 H4 : gH} (f0 : n0 ≤ 6) (f1 : (-1) ≤ n0) (f2 : n1 ≤ 7) (f3 : 0 ≤ n1) (f4 : n2 = 285) (f5 : n3 ≤ 7) (f6 : 0 ≤ n3) (f7 : n4 = 285) (f8 : (hLe T0 H0 H1 ∧ hFr s_270.2.2.2.2 H0 H1 ∧ hWt T0 H1) ∧ (Ab_270_34 n4 n3 n2 n1 n0 H0 H1 ∧ preb_270 n4 n3 H0) ∧ some q0 = some (mub_270_34 n4 n3 n2 n1 n0 H0 H1)) (f9 : 0 ≤ n0) (f10 : n5 = 347) (f11 : n5 = hV H1 (n2).toNat 86) (f12 : n6 ≤ 16) (f13 : 0 ≤ n6) (f14 : n6 = hV H1 (n5).toNat (n0).toNat) (f15 : n7 = 296) (f16 : n7 = hV H1 (n2).toNat 22) (f17 : n8 = 346) (f18 : n8 = hV H1 (n2).toNat 85) (f19 : n9 ≤ 62) (f20 : 0 ≤ n9) (f21 : n9 = hV H1 (n8).toNat (n0).toNat) (f22 : n10 ≤ 16) (f23 : 0 ≤ n10) (f24 : n10 = hV H1 (n7).toNat (n9).toNat) (f25 : n6 ≠ n10) (f26 : n11 = 16) (f27 : n12 = 346) (f28 : n12 = hV H1 (n2).toNat 85) (f29 : n13 ≤ 62) (f30 : 0 ≤ n13) (f31 : n13 = hV H1 (n12).toNat (n0).toNat) (f32 : n14 = w32 (n11 * n13)) (f33 : n15 = 347) (f34 : n15 = hV H1 (n2).toNat 86) (f35 : n16 ≤ 16) (f36 : 0 ≤ n16) (f37 : n16 = hV H1 (n15).toNat (n0).toNat) (f38 : n17 = w32 (n14 + n16)) (f39 : n18 = 347) (f40 : n18 = hV H1 (n2).toNat 86) (f41 : n19 ≤ 16) (f42 : 0 ≤ n19) (f43 : n19 = hV H1 (n18).toNat (n0).toNat) (f44 : n20 = 1) (f45 : n21 = w32 (n19 + n20)) (f46 : hUpd H2 H1 n18 n0 n21) (f47 : n22 = 298) (f48 : n22 = hV H2 (n2).toNat 24) (f49 : n23 ≤ 5) (f50 : 0 ≤ n23) (f51 : n23 = hV H2 (n22).toNat (n17).toNat) (f52 : n24 = 5) (f53 : n23 = n24) (f54 : n25 = 348) (f55 : n25 = hV H2 (n2).toNat 87) (f56 : n26 = 1) (f57 : n27 = w32 (n0 + n26)) (f58 : n28 = 301) (f59 : n28 = hV H2 (n2).toNat 27) (f60 : n29 ≤ 9999) (f61 : (-1) ≤ n29) (f62 : n29 = hV H2 (n28).toNat (n17).toNat) (f63 : n30 = 302) (f64 : n30 = hV H2 (n2).toNat 28) (f65 : n31 ≤ 9999) (f66 : (-9999) ≤ n31) (f67 : n31 = hV H2 (n30).toNat (n17).toNat) (f68 : n32 = 348) (f69 : n32 = hV H2 (n2).toNat 87) (f70 : n33 ≤ 1000) (f71 : (-1000) ≤ n33) (f72 : n33 = hV H2 (n32).toNat (n0).toNat) (f73 : n34 ≤ 10999) (f74 : (-10999) ≤ n34) (f75 : (hLe T0 H2 H3 ∧ hFr s_269.2.2.2.2 H2 H3 ∧ ((0 : Int) = 0 → H3.length = H2.length) ∧ hWt T0 H3) ∧ postb_269 n34 n2 n29 n31 n33 H2 H3) (f76 : hUpd H4 H3 n25 n27 n34) (f77 : n35 = 346) (f78 : n35 = hV H4 (n2).toNat 85) (f79 : n36 = 1) (f80 : n37 = w32 (n0 + n36)) (f81 : n38 = 7) (f82 : n39 = w32 (n38 * n1)) (f83 : n40 = 300) (f84 : n40 = hV H4 (n2).toNat 26) (f85 : n41 ≤ 9999) (f86 : (-1) ≤ n41) (f87 : n41 = hV H4 (n40).toNat (n17).toNat) (f88 : n42 = w32 (n39 + n41)) : 0 ≤ n37 ∧ n37 < 8 := by
  have g4 := f8.2.1.1
  unfold Ab_270_34 at g4
  have g3 := f8.2.1.2
  unfold preb_270 at g3
  unfold postb_269 at f75
  have e0 : n6 = hV H1 347 (n0).toNat := (by rw [f10] at f14; exact f14 : n6 = hV H1 347 (n0).toNat)
  have e1 : n9 = hV H1 346 (n0).toNat := (by rw [f17] at f21; exact f21 : n9 = hV H1 346 (n0).toNat)
  have e2 : hV H1 296 = hV H0 296 := fRow f8.1.2.1 296 kR_270_296
  have e3 : n10 = hV H0 296 (n9).toNat := (by rw [f15] at f24; exact f24 : n10 = hV H1 296 (n9).toNat).trans ((congrFun e2 _))
  have e4 : n13 = hV H1 346 (n0).toNat := (by rw [f27] at f31; exact f31 : n13 = hV H1 346 (n0).toNat)
  have e5 : n16 = hV H1 347 (n0).toNat := (by rw [f33] at f37; exact f37 : n16 = hV H1 347 (n0).toNat)
  have e6 : n19 = hV H1 347 (n0).toNat := (by rw [f39] at f43; exact f43 : n19 = hV H1 347 (n0).toNat)
  have e8 : hV H1 298 = hV H0 298 := fRow f8.1.2.1 298 kR_270_298
  have e9 : n23 = hV H0 298 (n17).toNat := (by rw [f47] at f51; exact f51 : n23 = hV H2 298 (n17).toNat).trans (((congrFun (uRowNe f46 298 (iS (show n18 = ((347 : Nat) : Int) from f39) rfl)) _)).trans ((congrFun e8 _)))
  have e12 : n29 = hV H0 301 (n17).toNat := (by rw [f58] at f62; exact f62 : n29 = hV H2 301 (n17).toNat).trans (((congrFun (uRowNe f46 301 (iS (show n18 = ((347 : Nat) : Int) from f39) rfl)) _)).trans ((congrFun (fRow f8.1.2.1 301 kR_270_301) _)))
  have e15 : n31 = hV H0 302 (n17).toNat := (by rw [f63] at f67; exact f67 : n31 = hV H2 302 (n17).toNat).trans (((congrFun (uRowNe f46 302 (iS (show n18 = ((347 : Nat) : Int) from f39) rfl)) _)).trans ((congrFun (fRow f8.1.2.1 302 kR_270_302) _)))
  have e17 : n33 = hV H1 348 (n0).toNat := (by rw [f68] at f72; exact f72 : n33 = hV H2 348 (n0).toNat).trans ((congrFun (uRowNe f46 348 (iS (show n18 = ((347 : Nat) : Int) from f39) rfl)) _))
  have e21 : hV H1 300 = hV H0 300 := fRow f8.1.2.1 300 kR_270_300
  have e22 : n41 = hV H0 300 (n17).toNat := (by rw [f83] at f87; exact f87 : n41 = hV H4 300 (n17).toNat).trans (((congrFun (uRowNe f76 300 (iS (show n25 = ((348 : Nat) : Int) from f54) rfl)) _)).trans (((congrFun (fRow f75.1.2.1 300 kR_269_300) _)).trans (((congrFun (uRowNe f46 300 (iS (show n18 = ((347 : Nat) : Int) from f39) rfl)) _)).trans ((congrFun e21 _)))))
  have e25 : hV H1 294 = hV H0 294 := fRow f8.1.2.1 294 kR_270_294
  have e26 : (0 : Int) ≤ hV H0 285 18 ∧ hV H0 285 18 ≤ 8 := bTo ((f8.1.2.1.1 285 18 kF_270_285_18)) (f8.1.2.2 285 18 _ _ kW_285_18)
  have e27 : (0 : Int) ≤ hV H1 285 82 ∧ hV H1 285 82 ≤ 40 := f8.1.2.2 285 82 _ _ kW_285_82
  try simp only [e25, e2, e8, e21] at g4
  have k0 := g4.1
  have y0 := g4.2.1
  have y1 := g4.2.2.1
  have y2 := g4.2.2.2
  have p0 := g3.1
  have p1 := g3.2
  have r0_0 := f75.2
  clear g3
  clear g4
  clear f11 f14 f16 f18 f21 f24 f28 f31 f34 f37 f40 f43 f48 f51 f55 f59 f62 f64 f67 f69 f72 f78 f84 f87 e2 e8 e21 e25
  subst e0
  subst e1
  subst e3
  subst e4
  subst e5
  subst e6
  subst e9
  subst e12
  subst e15
  subst e17
  subst e22
  rw [f26] at f32
  rw [f81] at f82
  try have ca := cue_at (p1 (n3).toNat (by omega)) y0 (by omega) (by omega) (c := (16 * hV H1 346 (n0).toNat + hV H1 347 (n0).toNat)) (by omega)
  try have sh := y1 (n0).toNat (by omega)
  try have lv := y0 (n0).toNat (by omega)
  first
  | (have ix0 : n14 = 16 * (hV H1 346 (n0).toNat) := Eq.trans f32 (w32_iv (Iml 16 rfl (Iat f20 f19)) (by decide)); subst ix0; clear f32)
  | (have ix0 : n14 = 16 * (hV H1 346 (n0).toNat) := Eq.trans f32 (w32_id (by omega) (by omega)); subst ix0; clear f32)
  | (unfold w32 at f32; have ix0 : n14 = 16 * (hV H1 346 (n0).toNat) := (by omega); subst ix0)
  | skip
  first
  | (have ix1 : n17 = (16 * (hV H1 346 (n0).toNat)) + hV H1 347 (n0).toNat := Eq.trans f38 (w32_iv (Iad (Iml 16 rfl (Iat f20 f19)) (Iat f13 f12)) (by decide)); subst ix1; clear f38)
  | (have ix1 : n17 = (16 * (hV H1 346 (n0).toNat)) + hV H1 347 (n0).toNat := Eq.trans f38 (w32_id (by omega) (by omega)); subst ix1; clear f38)
  | (unfold w32 at f38; have ix1 : n17 = (16 * (hV H1 346 (n0).toNat)) + hV H1 347 (n0).toNat := (by omega); subst ix1)
  | skip
  first
  | (have ix2 : n21 = hV H1 347 (n0).toNat + 1 := Eq.trans f45 (w32_iv (Iad (Iat f13 f12) (IC 1)) (by decide)); subst ix2; clear f45)
  | (have ix2 : n21 = hV H1 347 (n0).toNat + 1 := Eq.trans f45 (w32_id (by omega) (by omega)); subst ix2; clear f45)
  | (unfold w32 at f45; have ix2 : n21 = hV H1 347 (n0).toNat + 1 := (by omega); subst ix2)
  | skip
  first
  | (have ix3 : n27 = n0 + 1 := Eq.trans f57 (w32_iv (Iad (Iat f1 f0) (IC 1)) (by decide)); subst ix3; clear f57)
  | (have ix3 : n27 = n0 + 1 := Eq.trans f57 (w32_id (by omega) (by omega)); subst ix3; clear f57)
  | (unfold w32 at f57; have ix3 : n27 = n0 + 1 := (by omega); subst ix3)
  | skip
  first
  | (have ix4 : n37 = n0 + 1 := Eq.trans f80 (w32_iv (Iad (Iat f1 f0) (IC 1)) (by decide)); subst ix4; clear f80)
  | (have ix4 : n37 = n0 + 1 := Eq.trans f80 (w32_id (by omega) (by omega)); subst ix4; clear f80)
  | (unfold w32 at f80; have ix4 : n37 = n0 + 1 := (by omega); subst ix4)
  | skip
  try unfold w32 at f32
  try unfold w32 at f38
  try unfold w32 at f45
  try unfold w32 at f57
  try unfold w32 at f80
  try unfold w32 at f82
  try unfold w32 at f88

  first
  | omega
  | (have ca := cue_at (p1 (n3).toNat (by omega)) y0 (by omega) (by omega) (c := (16 * hV H1 346 (n0).toNat + hV H1 347 (n0).toNat)) (by omega)
     omega)
  | (have ua := use_at (p1 (n3).toNat (by omega)) y0 (by omega) (by omega) (c := (16 * hV H1 346 (n0).toNat + hV H1 347 (n0).toNat)) (by omega) (by omega)
     omega)
  | (have ul := ULp_lay y2 (p1 (n3).toNat (by omega)) y0 (by omega) (by omega) (by omega) (c := (16 * hV H1 346 (n0).toNat + hV H1 347 (n0).toNat)) (by omega) (by omega)
     omega)
theorem c_270_34_11 {q0 : Nat} : vOkm T0 (eP e_270 L_270 A_270 mu_270 (some q0)) 2 ([(1, [42, 39, 41], [], 0), (22, [41, 40, 17], [4], 0), (90, [41], [], -1), (91, [41], [], 9999), (20, [40, 2], [4], 26), (0, [40], [], 300), (3, [39, 38, 3], [], 0), (0, [38], [], 7), (1, [37, 4, 36], [], 0), (0, [36], [], 1), (20, [35, 2], [4], 85), (0, [35], [], 346), (80, [25, 27, 34], [4, 3], 0), (1269, [34, 2, 29, 31, 33], [2, 3], 0), (90, [34], [], -10999), (91, [34], [], 10999), (22, [33, 32, 4], [2], 0), (90, [33], [], -1000), (91, [33], [], 1000), (20, [32, 2], [2], 87), (0, [32], [], 348), (22, [31, 30, 17], [2], 0), (90, [31], [], -9999), (91, [31], [], 9999), (20, [30, 2], [2], 28), (0, [30], [], 302), (22, [29, 28, 17], [2], 0), (90, [29], [], -1), (91, [29], [], 9999), (20, [28, 2], [2], 27), (0, [28], [], 301), (1, [27, 4, 26], [], 0), (0, [26], [], 1), (20, [25, 2], [2], 87), (0, [25], [], 348), (40, [23, 24], [], 0), (0, [24], [], 5), (22, [23, 22, 17], [2], 0), (90, [23], [], 0), (91, [23], [], 5), (20, [22, 2], [2], 24), (0, [22], [], 298), (80, [18, 4, 21], [2, 1], 0), (1, [21, 19, 20], [], 0), (0, [20], [], 1), (22, [19, 18, 4], [1], 0), (90, [19], [], 0), (91, [19], [], 16), (20, [18, 2], [1], 86), (0, [18], [], 347), (1, [17, 14, 16], [], 0), (22, [16, 15, 4], [1], 0), (90, [16], [], 0), (91, [16], [], 16), (20, [15, 2], [1], 86), (0, [15], [], 347), (3, [14, 11, 13], [], 0), (22, [13, 12, 4], [1], 0), (90, [13], [], 0), (91, [13], [], 62), (20, [12, 2], [1], 85), (0, [12], [], 346), (0, [11], [], 16), (41, [6, 10], [], 0), (22, [10, 7, 9], [1], 0), (90, [10], [], 0), (91, [10], [], 16), (22, [9, 8, 4], [1], 0), (90, [9], [], 0), (91, [9], [], 62), (20, [8, 2], [1], 85), (0, [8], [], 346), (20, [7, 2], [1], 22), (0, [7], [], 296), (22, [6, 5, 4], [1], 0), (90, [6], [], 0), (91, [6], [], 16), (20, [5, 2], [1], 86), (0, [5], [], 347), (33, [4], [], 0), (5000, [0, 1, 2, 3, 4], [0, 1], 34), (0, [0], [], 285), (90, [1], [], 0), (91, [1], [], 7), (0, [2], [], 285), (90, [3], [], 0), (91, [3], [], 7), (90, [4], [], -1), (91, [4], [], 6)], (70, [37], [], 8)) := vOk_inI fun ρ η f0 f1 f2 f3 f4 f5 f6 f7 f8 f9 f10 f11 f12 f13 f14 f15 f16 f17 f18 f19 f20 f21 f22 f23 f24 f25 f26 f27 f28 f29 f30 f31 f32 f33 f34 f35 f36 f37 f38 f39 f40 f41 f42 f43 f44 f45 f46 f47 f48 f49 f50 f51 f52 f53 f54 f55 f56 f57 f58 f59 f60 f61 f62 f63 f64 f65 f66 f67 f68 f69 f70 f71 f72 f73 f74 f75 f76 f77 f78 f79 f80 f81 f82 f83 f84 f85 f86 f87 f88 => q_270_14 (q0 := q0) (n0 := ρ 4) (n1 := ρ 3) (n2 := ρ 2) (n3 := ρ 1) (n4 := ρ 0) (n5 := ρ 5) (n6 := ρ 6) (n7 := ρ 7) (n8 := ρ 8) (n9 := ρ 9) (n10 := ρ 10) (n11 := ρ 11) (n12 := ρ 12) (n13 := ρ 13) (n14 := ρ 14) (n15 := ρ 15) (n16 := ρ 16) (n17 := ρ 17) (n18 := ρ 18) (n19 := ρ 19) (n20 := ρ 20) (n21 := ρ 21) (n22 := ρ 22) (n23 := ρ 23) (n24 := ρ 24) (n25 := ρ 25) (n26 := ρ 26) (n27 := ρ 27) (n28 := ρ 28) (n29 := ρ 29) (n30 := ρ 30) (n31 := ρ 31) (n32 := ρ 32) (n33 := ρ 33) (n34 := ρ 34) (n35 := ρ 35) (n36 := ρ 36) (n37 := ρ 37) (n38 := ρ 38) (n39 := ρ 39) (n40 := ρ 40) (n41 := ρ 41) (n42 := ρ 42) (H0 := η 0) (H1 := η 1) (H2 := η 2) (H3 := η 3) (H4 := η 4) f88 f87 f86 f85 f84 f83 f82 f81 f80 f79 f78 f77 f76 f75 f74 f73 f72 f71 f70 f69 f68 f67 f66 f65 f64 f63 f62 f61 f60 f59 f58 f57 f56 f55 f54 f53 f52 f51 f50 f49 f48 f47 f46 f45 f44 f43 f42 f41 f40 f39 f38 f37 f36 f35 f34 f33 f32 f31 f30 f29 f28 f27 f26 f25 f24 f23 f22 f21 f20 f19 f18 f17 f16 f15 f14 f13 f12 f11 f10 f9 f8 f7 f6 f5 f4 f3 f2 f1 f0
theorem q_270_15 {q0 : Nat} {n0 n1 n2 n3 n4 n5 n6 n7 n8 n9 n10 n11 n12 n13 n14 n15 n16 n17 n18 n19 n20 n21 n22 n23 n24 n25 n26 n27 n28 n29 n30 n31 n32 n33 n34 n35 n36 n37 n38 n39 n40 n41 n42 : Int} {H0 H1 H2 H3 H4 : gH} (f0 : n0 ≤ 6) (f1 : (-1) ≤ n0) (f2 : n1 ≤ 7) (f3 : 0 ≤ n1) (f4 : n2 = 285) (f5 : n3 ≤ 7) (f6 : 0 ≤ n3) (f7 : n4 = 285) (f8 : (hLe T0 H0 H1 ∧ hFr s_270.2.2.2.2 H0 H1 ∧ hWt T0 H1) ∧ (Ab_270_34 n4 n3 n2 n1 n0 H0 H1 ∧ preb_270 n4 n3 H0) ∧ some q0 = some (mub_270_34 n4 n3 n2 n1 n0 H0 H1)) (f9 : 0 ≤ n0) (f10 : n5 = 347) (f11 : n5 = hV H1 (n2).toNat 86) (f12 : n6 ≤ 16) (f13 : 0 ≤ n6) (f14 : n6 = hV H1 (n5).toNat (n0).toNat) (f15 : n7 = 296) (f16 : n7 = hV H1 (n2).toNat 22) (f17 : n8 = 346) (f18 : n8 = hV H1 (n2).toNat 85) (f19 : n9 ≤ 62) (f20 : 0 ≤ n9) (f21 : n9 = hV H1 (n8).toNat (n0).toNat) (f22 : n10 ≤ 16) (f23 : 0 ≤ n10) (f24 : n10 = hV H1 (n7).toNat (n9).toNat) (f25 : n6 ≠ n10) (f26 : n11 = 16) (f27 : n12 = 346) (f28 : n12 = hV H1 (n2).toNat 85) (f29 : n13 ≤ 62) (f30 : 0 ≤ n13) (f31 : n13 = hV H1 (n12).toNat (n0).toNat) (f32 : n14 = w32 (n11 * n13)) (f33 : n15 = 347) (f34 : n15 = hV H1 (n2).toNat 86) (f35 : n16 ≤ 16) (f36 : 0 ≤ n16) (f37 : n16 = hV H1 (n15).toNat (n0).toNat) (f38 : n17 = w32 (n14 + n16)) (f39 : n18 = 347) (f40 : n18 = hV H1 (n2).toNat 86) (f41 : n19 ≤ 16) (f42 : 0 ≤ n19) (f43 : n19 = hV H1 (n18).toNat (n0).toNat) (f44 : n20 = 1) (f45 : n21 = w32 (n19 + n20)) (f46 : hUpd H2 H1 n18 n0 n21) (f47 : n22 = 298) (f48 : n22 = hV H2 (n2).toNat 24) (f49 : n23 ≤ 5) (f50 : 0 ≤ n23) (f51 : n23 = hV H2 (n22).toNat (n17).toNat) (f52 : n24 = 5) (f53 : n23 = n24) (f54 : n25 = 348) (f55 : n25 = hV H2 (n2).toNat 87) (f56 : n26 = 1) (f57 : n27 = w32 (n0 + n26)) (f58 : n28 = 301) (f59 : n28 = hV H2 (n2).toNat 27) (f60 : n29 ≤ 9999) (f61 : (-1) ≤ n29) (f62 : n29 = hV H2 (n28).toNat (n17).toNat) (f63 : n30 = 302) (f64 : n30 = hV H2 (n2).toNat 28) (f65 : n31 ≤ 9999) (f66 : (-9999) ≤ n31) (f67 : n31 = hV H2 (n30).toNat (n17).toNat) (f68 : n32 = 348) (f69 : n32 = hV H2 (n2).toNat 87) (f70 : n33 ≤ 1000) (f71 : (-1000) ≤ n33) (f72 : n33 = hV H2 (n32).toNat (n0).toNat) (f73 : n34 ≤ 10999) (f74 : (-10999) ≤ n34) (f75 : (hLe T0 H2 H3 ∧ hFr s_269.2.2.2.2 H2 H3 ∧ ((0 : Int) = 0 → H3.length = H2.length) ∧ hWt T0 H3) ∧ postb_269 n34 n2 n29 n31 n33 H2 H3) (f76 : hUpd H4 H3 n25 n27 n34) (f77 : n35 = 346) (f78 : n35 = hV H4 (n2).toNat 85) (f79 : n36 = 1) (f80 : n37 = w32 (n0 + n36)) (f81 : n38 = 7) (f82 : n39 = w32 (n38 * n1)) (f83 : n40 = 300) (f84 : n40 = hV H4 (n2).toNat 26) (f85 : n41 ≤ 9999) (f86 : (-1) ≤ n41) (f87 : n41 = hV H4 (n40).toNat (n17).toNat) (f88 : n42 = w32 (n39 + n41)) : 0 ≤ n42 := by
  have g4 := f8.2.1.1
  unfold Ab_270_34 at g4
  have g3 := f8.2.1.2
  unfold preb_270 at g3
  unfold postb_269 at f75
  have e0 : n6 = hV H1 347 (n0).toNat := (by rw [f10] at f14; exact f14 : n6 = hV H1 347 (n0).toNat)
  have e1 : n9 = hV H1 346 (n0).toNat := (by rw [f17] at f21; exact f21 : n9 = hV H1 346 (n0).toNat)
  have e2 : hV H1 296 = hV H0 296 := fRow f8.1.2.1 296 kR_270_296
  have e3 : n10 = hV H0 296 (n9).toNat := (by rw [f15] at f24; exact f24 : n10 = hV H1 296 (n9).toNat).trans ((congrFun e2 _))
  have e4 : n13 = hV H1 346 (n0).toNat := (by rw [f27] at f31; exact f31 : n13 = hV H1 346 (n0).toNat)
  have e5 : n16 = hV H1 347 (n0).toNat := (by rw [f33] at f37; exact f37 : n16 = hV H1 347 (n0).toNat)
  have e6 : n19 = hV H1 347 (n0).toNat := (by rw [f39] at f43; exact f43 : n19 = hV H1 347 (n0).toNat)
  have e8 : hV H1 298 = hV H0 298 := fRow f8.1.2.1 298 kR_270_298
  have e9 : n23 = hV H0 298 (n17).toNat := (by rw [f47] at f51; exact f51 : n23 = hV H2 298 (n17).toNat).trans (((congrFun (uRowNe f46 298 (iS (show n18 = ((347 : Nat) : Int) from f39) rfl)) _)).trans ((congrFun e8 _)))
  have e12 : n29 = hV H0 301 (n17).toNat := (by rw [f58] at f62; exact f62 : n29 = hV H2 301 (n17).toNat).trans (((congrFun (uRowNe f46 301 (iS (show n18 = ((347 : Nat) : Int) from f39) rfl)) _)).trans ((congrFun (fRow f8.1.2.1 301 kR_270_301) _)))
  have e15 : n31 = hV H0 302 (n17).toNat := (by rw [f63] at f67; exact f67 : n31 = hV H2 302 (n17).toNat).trans (((congrFun (uRowNe f46 302 (iS (show n18 = ((347 : Nat) : Int) from f39) rfl)) _)).trans ((congrFun (fRow f8.1.2.1 302 kR_270_302) _)))
  have e17 : n33 = hV H1 348 (n0).toNat := (by rw [f68] at f72; exact f72 : n33 = hV H2 348 (n0).toNat).trans ((congrFun (uRowNe f46 348 (iS (show n18 = ((347 : Nat) : Int) from f39) rfl)) _))
  have e21 : hV H1 300 = hV H0 300 := fRow f8.1.2.1 300 kR_270_300
  have e22 : n41 = hV H0 300 (n17).toNat := (by rw [f83] at f87; exact f87 : n41 = hV H4 300 (n17).toNat).trans (((congrFun (uRowNe f76 300 (iS (show n25 = ((348 : Nat) : Int) from f54) rfl)) _)).trans (((congrFun (fRow f75.1.2.1 300 kR_269_300) _)).trans (((congrFun (uRowNe f46 300 (iS (show n18 = ((347 : Nat) : Int) from f39) rfl)) _)).trans ((congrFun e21 _)))))
  have e25 : hV H1 294 = hV H0 294 := fRow f8.1.2.1 294 kR_270_294
  have e26 : (0 : Int) ≤ hV H0 285 18 ∧ hV H0 285 18 ≤ 8 := bTo ((f8.1.2.1.1 285 18 kF_270_285_18)) (f8.1.2.2 285 18 _ _ kW_285_18)
  have e27 : (0 : Int) ≤ hV H1 285 82 ∧ hV H1 285 82 ≤ 40 := f8.1.2.2 285 82 _ _ kW_285_82
  try simp only [e25, e2, e8, e21] at g4
  have k0 := g4.1
  have y0 := g4.2.1
  have y1 := g4.2.2.1
  have y2 := g4.2.2.2
  have p0 := g3.1
  have p1 := g3.2
  have r0_0 := f75.2
  clear g3
  clear g4
  clear f11 f14 f16 f18 f21 f24 f28 f31 f34 f37 f40 f43 f48 f51 f55 f59 f62 f64 f67 f69 f72 f78 f84 f87 e2 e8 e21 e25
  subst e0
  subst e1
  subst e3
  subst e4
  subst e5
  subst e6
  subst e9
  subst e12
  subst e15
  subst e17
  subst e22
  rw [f26] at f32
  rw [f81] at f82
  try have ca := cue_at (p1 (n3).toNat (by omega)) y0 (by omega) (by omega) (c := (16 * hV H1 346 (n0).toNat + hV H1 347 (n0).toNat)) (by omega)
  try have sh := y1 (n0).toNat (by omega)
  try have lv := y0 (n0).toNat (by omega)
  first
  | (have ix0 : n14 = 16 * (hV H1 346 (n0).toNat) := Eq.trans f32 (w32_iv (Iml 16 rfl (Iat f20 f19)) (by decide)); subst ix0; clear f32)
  | (have ix0 : n14 = 16 * (hV H1 346 (n0).toNat) := Eq.trans f32 (w32_id (by omega) (by omega)); subst ix0; clear f32)
  | (unfold w32 at f32; have ix0 : n14 = 16 * (hV H1 346 (n0).toNat) := (by omega); subst ix0)
  | skip
  first
  | (have ix1 : n17 = (16 * (hV H1 346 (n0).toNat)) + hV H1 347 (n0).toNat := Eq.trans f38 (w32_iv (Iad (Iml 16 rfl (Iat f20 f19)) (Iat f13 f12)) (by decide)); subst ix1; clear f38)
  | (have ix1 : n17 = (16 * (hV H1 346 (n0).toNat)) + hV H1 347 (n0).toNat := Eq.trans f38 (w32_id (by omega) (by omega)); subst ix1; clear f38)
  | (unfold w32 at f38; have ix1 : n17 = (16 * (hV H1 346 (n0).toNat)) + hV H1 347 (n0).toNat := (by omega); subst ix1)
  | skip
  first
  | (have ix2 : n21 = hV H1 347 (n0).toNat + 1 := Eq.trans f45 (w32_iv (Iad (Iat f13 f12) (IC 1)) (by decide)); subst ix2; clear f45)
  | (have ix2 : n21 = hV H1 347 (n0).toNat + 1 := Eq.trans f45 (w32_id (by omega) (by omega)); subst ix2; clear f45)
  | (unfold w32 at f45; have ix2 : n21 = hV H1 347 (n0).toNat + 1 := (by omega); subst ix2)
  | skip
  first
  | (have ix3 : n27 = n0 + 1 := Eq.trans f57 (w32_iv (Iad (Iat f1 f0) (IC 1)) (by decide)); subst ix3; clear f57)
  | (have ix3 : n27 = n0 + 1 := Eq.trans f57 (w32_id (by omega) (by omega)); subst ix3; clear f57)
  | (unfold w32 at f57; have ix3 : n27 = n0 + 1 := (by omega); subst ix3)
  | skip
  first
  | (have ix4 : n39 = 7 * n1 := Eq.trans f82 (w32_iv (Iml 7 rfl (Iat f3 f2)) (by decide)); subst ix4; clear f82)
  | (have ix4 : n39 = 7 * n1 := Eq.trans f82 (w32_id (by omega) (by omega)); subst ix4; clear f82)
  | (unfold w32 at f82; have ix4 : n39 = 7 * n1 := (by omega); subst ix4)
  | skip
  first
  | (have ix5 : n42 = (7 * n1) + hV H0 300 (((16 * (hV H1 346 (n0).toNat)) + hV H1 347 (n0).toNat)).toNat := Eq.trans f88 (w32_iv (Iad (Iml 7 rfl (Iat f3 f2)) (Iat f86 f85)) (by decide)); subst ix5; clear f88)
  | (have ix5 : n42 = (7 * n1) + hV H0 300 (((16 * (hV H1 346 (n0).toNat)) + hV H1 347 (n0).toNat)).toNat := Eq.trans f88 (w32_id (by omega) (by omega)); subst ix5; clear f88)
  | (unfold w32 at f88; have ix5 : n42 = (7 * n1) + hV H0 300 (((16 * (hV H1 346 (n0).toNat)) + hV H1 347 (n0).toNat)).toNat := (by omega); subst ix5)
  | skip
  try unfold w32 at f32
  try unfold w32 at f38
  try unfold w32 at f45
  try unfold w32 at f57
  try unfold w32 at f80
  try unfold w32 at f82
  try unfold w32 at f88

  first
  | omega
  | (have ca := cue_at (p1 (n3).toNat (by omega)) y0 (by omega) (by omega) (c := (16 * hV H1 346 (n0).toNat + hV H1 347 (n0).toNat)) (by omega)
     omega)
  | (have ua := use_at (p1 (n3).toNat (by omega)) y0 (by omega) (by omega) (c := (16 * hV H1 346 (n0).toNat + hV H1 347 (n0).toNat)) (by omega) (by omega)
     omega)
  | (have ul := ULp_lay y2 (p1 (n3).toNat (by omega)) y0 (by omega) (by omega) (by omega) (c := (16 * hV H1 346 (n0).toNat + hV H1 347 (n0).toNat)) (by omega) (by omega)
     omega)
theorem c_270_34_12 {q0 : Nat} : vOkm T0 (eP e_270 L_270 A_270 mu_270 (some q0)) 2 ([(1, [42, 39, 41], [], 0), (22, [41, 40, 17], [4], 0), (90, [41], [], -1), (91, [41], [], 9999), (20, [40, 2], [4], 26), (0, [40], [], 300), (3, [39, 38, 3], [], 0), (0, [38], [], 7), (1, [37, 4, 36], [], 0), (0, [36], [], 1), (20, [35, 2], [4], 85), (0, [35], [], 346), (80, [25, 27, 34], [4, 3], 0), (1269, [34, 2, 29, 31, 33], [2, 3], 0), (90, [34], [], -10999), (91, [34], [], 10999), (22, [33, 32, 4], [2], 0), (90, [33], [], -1000), (91, [33], [], 1000), (20, [32, 2], [2], 87), (0, [32], [], 348), (22, [31, 30, 17], [2], 0), (90, [31], [], -9999), (91, [31], [], 9999), (20, [30, 2], [2], 28), (0, [30], [], 302), (22, [29, 28, 17], [2], 0), (90, [29], [], -1), (91, [29], [], 9999), (20, [28, 2], [2], 27), (0, [28], [], 301), (1, [27, 4, 26], [], 0), (0, [26], [], 1), (20, [25, 2], [2], 87), (0, [25], [], 348), (40, [23, 24], [], 0), (0, [24], [], 5), (22, [23, 22, 17], [2], 0), (90, [23], [], 0), (91, [23], [], 5), (20, [22, 2], [2], 24), (0, [22], [], 298), (80, [18, 4, 21], [2, 1], 0), (1, [21, 19, 20], [], 0), (0, [20], [], 1), (22, [19, 18, 4], [1], 0), (90, [19], [], 0), (91, [19], [], 16), (20, [18, 2], [1], 86), (0, [18], [], 347), (1, [17, 14, 16], [], 0), (22, [16, 15, 4], [1], 0), (90, [16], [], 0), (91, [16], [], 16), (20, [15, 2], [1], 86), (0, [15], [], 347), (3, [14, 11, 13], [], 0), (22, [13, 12, 4], [1], 0), (90, [13], [], 0), (91, [13], [], 62), (20, [12, 2], [1], 85), (0, [12], [], 346), (0, [11], [], 16), (41, [6, 10], [], 0), (22, [10, 7, 9], [1], 0), (90, [10], [], 0), (91, [10], [], 16), (22, [9, 8, 4], [1], 0), (90, [9], [], 0), (91, [9], [], 62), (20, [8, 2], [1], 85), (0, [8], [], 346), (20, [7, 2], [1], 22), (0, [7], [], 296), (22, [6, 5, 4], [1], 0), (90, [6], [], 0), (91, [6], [], 16), (20, [5, 2], [1], 86), (0, [5], [], 347), (33, [4], [], 0), (5000, [0, 1, 2, 3, 4], [0, 1], 34), (0, [0], [], 285), (90, [1], [], 0), (91, [1], [], 7), (0, [2], [], 285), (90, [3], [], 0), (91, [3], [], 7), (90, [4], [], -1), (91, [4], [], 6)], (90, [42], [], 0)) := vOk_inI fun ρ η f0 f1 f2 f3 f4 f5 f6 f7 f8 f9 f10 f11 f12 f13 f14 f15 f16 f17 f18 f19 f20 f21 f22 f23 f24 f25 f26 f27 f28 f29 f30 f31 f32 f33 f34 f35 f36 f37 f38 f39 f40 f41 f42 f43 f44 f45 f46 f47 f48 f49 f50 f51 f52 f53 f54 f55 f56 f57 f58 f59 f60 f61 f62 f63 f64 f65 f66 f67 f68 f69 f70 f71 f72 f73 f74 f75 f76 f77 f78 f79 f80 f81 f82 f83 f84 f85 f86 f87 f88 => q_270_15 (q0 := q0) (n0 := ρ 4) (n1 := ρ 3) (n2 := ρ 2) (n3 := ρ 1) (n4 := ρ 0) (n5 := ρ 5) (n6 := ρ 6) (n7 := ρ 7) (n8 := ρ 8) (n9 := ρ 9) (n10 := ρ 10) (n11 := ρ 11) (n12 := ρ 12) (n13 := ρ 13) (n14 := ρ 14) (n15 := ρ 15) (n16 := ρ 16) (n17 := ρ 17) (n18 := ρ 18) (n19 := ρ 19) (n20 := ρ 20) (n21 := ρ 21) (n22 := ρ 22) (n23 := ρ 23) (n24 := ρ 24) (n25 := ρ 25) (n26 := ρ 26) (n27 := ρ 27) (n28 := ρ 28) (n29 := ρ 29) (n30 := ρ 30) (n31 := ρ 31) (n32 := ρ 32) (n33 := ρ 33) (n34 := ρ 34) (n35 := ρ 35) (n36 := ρ 36) (n37 := ρ 37) (n38 := ρ 38) (n39 := ρ 39) (n40 := ρ 40) (n41 := ρ 41) (n42 := ρ 42) (H0 := η 0) (H1 := η 1) (H2 := η 2) (H3 := η 3) (H4 := η 4) f88 f87 f86 f85 f84 f83 f82 f81 f80 f79 f78 f77 f76 f75 f74 f73 f72 f71 f70 f69 f68 f67 f66 f65 f64 f63 f62 f61 f60 f59 f58 f57 f56 f55 f54 f53 f52 f51 f50 f49 f48 f47 f46 f45 f44 f43 f42 f41 f40 f39 f38 f37 f36 f35 f34 f33 f32 f31 f30 f29 f28 f27 f26 f25 f24 f23 f22 f21 f20 f19 f18 f17 f16 f15 f14 f13 f12 f11 f10 f9 f8 f7 f6 f5 f4 f3 f2 f1 f0
theorem q_270_16 {q0 : Nat} {n0 n1 n2 n3 n4 n5 n6 n7 n8 n9 n10 n11 n12 n13 n14 n15 n16 n17 n18 n19 n20 n21 n22 n23 n24 n25 n26 n27 n28 n29 n30 n31 n32 n33 n34 n35 n36 n37 n38 n39 n40 n41 n42 : Int} {H0 H1 H2 H3 H4 : gH} (f0 : n0 ≤ 6) (f1 : (-1) ≤ n0) (f2 : n1 ≤ 7) (f3 : 0 ≤ n1) (f4 : n2 = 285) (f5 : n3 ≤ 7) (f6 : 0 ≤ n3) (f7 : n4 = 285) (f8 : (hLe T0 H0 H1 ∧ hFr s_270.2.2.2.2 H0 H1 ∧ hWt T0 H1) ∧ (Ab_270_34 n4 n3 n2 n1 n0 H0 H1 ∧ preb_270 n4 n3 H0) ∧ some q0 = some (mub_270_34 n4 n3 n2 n1 n0 H0 H1)) (f9 : 0 ≤ n0) (f10 : n5 = 347) (f11 : n5 = hV H1 (n2).toNat 86) (f12 : n6 ≤ 16) (f13 : 0 ≤ n6) (f14 : n6 = hV H1 (n5).toNat (n0).toNat) (f15 : n7 = 296) (f16 : n7 = hV H1 (n2).toNat 22) (f17 : n8 = 346) (f18 : n8 = hV H1 (n2).toNat 85) (f19 : n9 ≤ 62) (f20 : 0 ≤ n9) (f21 : n9 = hV H1 (n8).toNat (n0).toNat) (f22 : n10 ≤ 16) (f23 : 0 ≤ n10) (f24 : n10 = hV H1 (n7).toNat (n9).toNat) (f25 : n6 ≠ n10) (f26 : n11 = 16) (f27 : n12 = 346) (f28 : n12 = hV H1 (n2).toNat 85) (f29 : n13 ≤ 62) (f30 : 0 ≤ n13) (f31 : n13 = hV H1 (n12).toNat (n0).toNat) (f32 : n14 = w32 (n11 * n13)) (f33 : n15 = 347) (f34 : n15 = hV H1 (n2).toNat 86) (f35 : n16 ≤ 16) (f36 : 0 ≤ n16) (f37 : n16 = hV H1 (n15).toNat (n0).toNat) (f38 : n17 = w32 (n14 + n16)) (f39 : n18 = 347) (f40 : n18 = hV H1 (n2).toNat 86) (f41 : n19 ≤ 16) (f42 : 0 ≤ n19) (f43 : n19 = hV H1 (n18).toNat (n0).toNat) (f44 : n20 = 1) (f45 : n21 = w32 (n19 + n20)) (f46 : hUpd H2 H1 n18 n0 n21) (f47 : n22 = 298) (f48 : n22 = hV H2 (n2).toNat 24) (f49 : n23 ≤ 5) (f50 : 0 ≤ n23) (f51 : n23 = hV H2 (n22).toNat (n17).toNat) (f52 : n24 = 5) (f53 : n23 = n24) (f54 : n25 = 348) (f55 : n25 = hV H2 (n2).toNat 87) (f56 : n26 = 1) (f57 : n27 = w32 (n0 + n26)) (f58 : n28 = 301) (f59 : n28 = hV H2 (n2).toNat 27) (f60 : n29 ≤ 9999) (f61 : (-1) ≤ n29) (f62 : n29 = hV H2 (n28).toNat (n17).toNat) (f63 : n30 = 302) (f64 : n30 = hV H2 (n2).toNat 28) (f65 : n31 ≤ 9999) (f66 : (-9999) ≤ n31) (f67 : n31 = hV H2 (n30).toNat (n17).toNat) (f68 : n32 = 348) (f69 : n32 = hV H2 (n2).toNat 87) (f70 : n33 ≤ 1000) (f71 : (-1000) ≤ n33) (f72 : n33 = hV H2 (n32).toNat (n0).toNat) (f73 : n34 ≤ 10999) (f74 : (-10999) ≤ n34) (f75 : (hLe T0 H2 H3 ∧ hFr s_269.2.2.2.2 H2 H3 ∧ ((0 : Int) = 0 → H3.length = H2.length) ∧ hWt T0 H3) ∧ postb_269 n34 n2 n29 n31 n33 H2 H3) (f76 : hUpd H4 H3 n25 n27 n34) (f77 : n35 = 346) (f78 : n35 = hV H4 (n2).toNat 85) (f79 : n36 = 1) (f80 : n37 = w32 (n0 + n36)) (f81 : n38 = 7) (f82 : n39 = w32 (n38 * n1)) (f83 : n40 = 300) (f84 : n40 = hV H4 (n2).toNat 26) (f85 : n41 ≤ 9999) (f86 : (-1) ≤ n41) (f87 : n41 = hV H4 (n40).toNat (n17).toNat) (f88 : n42 = w32 (n39 + n41)) : n42 ≤ 62 := by
  have g4 := f8.2.1.1
  unfold Ab_270_34 at g4
  have g3 := f8.2.1.2
  unfold preb_270 at g3
  unfold postb_269 at f75
  have e0 : n6 = hV H1 347 (n0).toNat := (by rw [f10] at f14; exact f14 : n6 = hV H1 347 (n0).toNat)
  have e1 : n9 = hV H1 346 (n0).toNat := (by rw [f17] at f21; exact f21 : n9 = hV H1 346 (n0).toNat)
  have e2 : hV H1 296 = hV H0 296 := fRow f8.1.2.1 296 kR_270_296
  have e3 : n10 = hV H0 296 (n9).toNat := (by rw [f15] at f24; exact f24 : n10 = hV H1 296 (n9).toNat).trans ((congrFun e2 _))
  have e4 : n13 = hV H1 346 (n0).toNat := (by rw [f27] at f31; exact f31 : n13 = hV H1 346 (n0).toNat)
  have e5 : n16 = hV H1 347 (n0).toNat := (by rw [f33] at f37; exact f37 : n16 = hV H1 347 (n0).toNat)
  have e6 : n19 = hV H1 347 (n0).toNat := (by rw [f39] at f43; exact f43 : n19 = hV H1 347 (n0).toNat)
  have e8 : hV H1 298 = hV H0 298 := fRow f8.1.2.1 298 kR_270_298
  have e9 : n23 = hV H0 298 (n17).toNat := (by rw [f47] at f51; exact f51 : n23 = hV H2 298 (n17).toNat).trans (((congrFun (uRowNe f46 298 (iS (show n18 = ((347 : Nat) : Int) from f39) rfl)) _)).trans ((congrFun e8 _)))
  have e12 : n29 = hV H0 301 (n17).toNat := (by rw [f58] at f62; exact f62 : n29 = hV H2 301 (n17).toNat).trans (((congrFun (uRowNe f46 301 (iS (show n18 = ((347 : Nat) : Int) from f39) rfl)) _)).trans ((congrFun (fRow f8.1.2.1 301 kR_270_301) _)))
  have e15 : n31 = hV H0 302 (n17).toNat := (by rw [f63] at f67; exact f67 : n31 = hV H2 302 (n17).toNat).trans (((congrFun (uRowNe f46 302 (iS (show n18 = ((347 : Nat) : Int) from f39) rfl)) _)).trans ((congrFun (fRow f8.1.2.1 302 kR_270_302) _)))
  have e17 : n33 = hV H1 348 (n0).toNat := (by rw [f68] at f72; exact f72 : n33 = hV H2 348 (n0).toNat).trans ((congrFun (uRowNe f46 348 (iS (show n18 = ((347 : Nat) : Int) from f39) rfl)) _))
  have e21 : hV H1 300 = hV H0 300 := fRow f8.1.2.1 300 kR_270_300
  have e22 : n41 = hV H0 300 (n17).toNat := (by rw [f83] at f87; exact f87 : n41 = hV H4 300 (n17).toNat).trans (((congrFun (uRowNe f76 300 (iS (show n25 = ((348 : Nat) : Int) from f54) rfl)) _)).trans (((congrFun (fRow f75.1.2.1 300 kR_269_300) _)).trans (((congrFun (uRowNe f46 300 (iS (show n18 = ((347 : Nat) : Int) from f39) rfl)) _)).trans ((congrFun e21 _)))))
  have e25 : hV H1 294 = hV H0 294 := fRow f8.1.2.1 294 kR_270_294
  have e26 : (0 : Int) ≤ hV H0 285 18 ∧ hV H0 285 18 ≤ 8 := bTo ((f8.1.2.1.1 285 18 kF_270_285_18)) (f8.1.2.2 285 18 _ _ kW_285_18)
  have e27 : (0 : Int) ≤ hV H1 285 82 ∧ hV H1 285 82 ≤ 40 := f8.1.2.2 285 82 _ _ kW_285_82
  try simp only [e25, e2, e8, e21] at g4
  have k0 := g4.1
  have y0 := g4.2.1
  have y1 := g4.2.2.1
  have y2 := g4.2.2.2
  have p0 := g3.1
  have p1 := g3.2
  have r0_0 := f75.2
  clear g3
  clear g4
  clear f11 f14 f16 f18 f21 f24 f28 f31 f34 f37 f40 f43 f48 f51 f55 f59 f62 f64 f67 f69 f72 f78 f84 f87 e2 e8 e21 e25
  subst e0
  subst e1
  subst e3
  subst e4
  subst e5
  subst e6
  subst e9
  subst e12
  subst e15
  subst e17
  subst e22
  rw [f26] at f32
  rw [f81] at f82
  try have ca := cue_at (p1 (n3).toNat (by omega)) y0 (by omega) (by omega) (c := (16 * hV H1 346 (n0).toNat + hV H1 347 (n0).toNat)) (by omega)
  try have sh := y1 (n0).toNat (by omega)
  try have lv := y0 (n0).toNat (by omega)
  first
  | (have ix0 : n14 = 16 * (hV H1 346 (n0).toNat) := Eq.trans f32 (w32_iv (Iml 16 rfl (Iat f20 f19)) (by decide)); subst ix0; clear f32)
  | (have ix0 : n14 = 16 * (hV H1 346 (n0).toNat) := Eq.trans f32 (w32_id (by omega) (by omega)); subst ix0; clear f32)
  | (unfold w32 at f32; have ix0 : n14 = 16 * (hV H1 346 (n0).toNat) := (by omega); subst ix0)
  | skip
  first
  | (have ix1 : n17 = (16 * (hV H1 346 (n0).toNat)) + hV H1 347 (n0).toNat := Eq.trans f38 (w32_iv (Iad (Iml 16 rfl (Iat f20 f19)) (Iat f13 f12)) (by decide)); subst ix1; clear f38)
  | (have ix1 : n17 = (16 * (hV H1 346 (n0).toNat)) + hV H1 347 (n0).toNat := Eq.trans f38 (w32_id (by omega) (by omega)); subst ix1; clear f38)
  | (unfold w32 at f38; have ix1 : n17 = (16 * (hV H1 346 (n0).toNat)) + hV H1 347 (n0).toNat := (by omega); subst ix1)
  | skip
  first
  | (have ix2 : n21 = hV H1 347 (n0).toNat + 1 := Eq.trans f45 (w32_iv (Iad (Iat f13 f12) (IC 1)) (by decide)); subst ix2; clear f45)
  | (have ix2 : n21 = hV H1 347 (n0).toNat + 1 := Eq.trans f45 (w32_id (by omega) (by omega)); subst ix2; clear f45)
  | (unfold w32 at f45; have ix2 : n21 = hV H1 347 (n0).toNat + 1 := (by omega); subst ix2)
  | skip
  first
  | (have ix3 : n27 = n0 + 1 := Eq.trans f57 (w32_iv (Iad (Iat f1 f0) (IC 1)) (by decide)); subst ix3; clear f57)
  | (have ix3 : n27 = n0 + 1 := Eq.trans f57 (w32_id (by omega) (by omega)); subst ix3; clear f57)
  | (unfold w32 at f57; have ix3 : n27 = n0 + 1 := (by omega); subst ix3)
  | skip
  first
  | (have ix4 : n39 = 7 * n1 := Eq.trans f82 (w32_iv (Iml 7 rfl (Iat f3 f2)) (by decide)); subst ix4; clear f82)
  | (have ix4 : n39 = 7 * n1 := Eq.trans f82 (w32_id (by omega) (by omega)); subst ix4; clear f82)
  | (unfold w32 at f82; have ix4 : n39 = 7 * n1 := (by omega); subst ix4)
  | skip
  first
  | (have ix5 : n42 = (7 * n1) + hV H0 300 (((16 * (hV H1 346 (n0).toNat)) + hV H1 347 (n0).toNat)).toNat := Eq.trans f88 (w32_iv (Iad (Iml 7 rfl (Iat f3 f2)) (Iat f86 f85)) (by decide)); subst ix5; clear f88)
  | (have ix5 : n42 = (7 * n1) + hV H0 300 (((16 * (hV H1 346 (n0).toNat)) + hV H1 347 (n0).toNat)).toNat := Eq.trans f88 (w32_id (by omega) (by omega)); subst ix5; clear f88)
  | (unfold w32 at f88; have ix5 : n42 = (7 * n1) + hV H0 300 (((16 * (hV H1 346 (n0).toNat)) + hV H1 347 (n0).toNat)).toNat := (by omega); subst ix5)
  | skip
  try unfold w32 at f32
  try unfold w32 at f38
  try unfold w32 at f45
  try unfold w32 at f57
  try unfold w32 at f80
  try unfold w32 at f82
  try unfold w32 at f88

  first
  | omega
  | (have ca := cue_at (p1 (n3).toNat (by omega)) y0 (by omega) (by omega) (c := (16 * hV H1 346 (n0).toNat + hV H1 347 (n0).toNat)) (by omega)
     omega)
  | (have ua := use_at (p1 (n3).toNat (by omega)) y0 (by omega) (by omega) (c := (16 * hV H1 346 (n0).toNat + hV H1 347 (n0).toNat)) (by omega) (by omega)
     omega)
  | (have ul := ULp_lay y2 (p1 (n3).toNat (by omega)) y0 (by omega) (by omega) (by omega) (c := (16 * hV H1 346 (n0).toNat + hV H1 347 (n0).toNat)) (by omega) (by omega)
     omega)
theorem c_270_34_13 {q0 : Nat} : vOkm T0 (eP e_270 L_270 A_270 mu_270 (some q0)) 2 ([(1, [42, 39, 41], [], 0), (22, [41, 40, 17], [4], 0), (90, [41], [], -1), (91, [41], [], 9999), (20, [40, 2], [4], 26), (0, [40], [], 300), (3, [39, 38, 3], [], 0), (0, [38], [], 7), (1, [37, 4, 36], [], 0), (0, [36], [], 1), (20, [35, 2], [4], 85), (0, [35], [], 346), (80, [25, 27, 34], [4, 3], 0), (1269, [34, 2, 29, 31, 33], [2, 3], 0), (90, [34], [], -10999), (91, [34], [], 10999), (22, [33, 32, 4], [2], 0), (90, [33], [], -1000), (91, [33], [], 1000), (20, [32, 2], [2], 87), (0, [32], [], 348), (22, [31, 30, 17], [2], 0), (90, [31], [], -9999), (91, [31], [], 9999), (20, [30, 2], [2], 28), (0, [30], [], 302), (22, [29, 28, 17], [2], 0), (90, [29], [], -1), (91, [29], [], 9999), (20, [28, 2], [2], 27), (0, [28], [], 301), (1, [27, 4, 26], [], 0), (0, [26], [], 1), (20, [25, 2], [2], 87), (0, [25], [], 348), (40, [23, 24], [], 0), (0, [24], [], 5), (22, [23, 22, 17], [2], 0), (90, [23], [], 0), (91, [23], [], 5), (20, [22, 2], [2], 24), (0, [22], [], 298), (80, [18, 4, 21], [2, 1], 0), (1, [21, 19, 20], [], 0), (0, [20], [], 1), (22, [19, 18, 4], [1], 0), (90, [19], [], 0), (91, [19], [], 16), (20, [18, 2], [1], 86), (0, [18], [], 347), (1, [17, 14, 16], [], 0), (22, [16, 15, 4], [1], 0), (90, [16], [], 0), (91, [16], [], 16), (20, [15, 2], [1], 86), (0, [15], [], 347), (3, [14, 11, 13], [], 0), (22, [13, 12, 4], [1], 0), (90, [13], [], 0), (91, [13], [], 62), (20, [12, 2], [1], 85), (0, [12], [], 346), (0, [11], [], 16), (41, [6, 10], [], 0), (22, [10, 7, 9], [1], 0), (90, [10], [], 0), (91, [10], [], 16), (22, [9, 8, 4], [1], 0), (90, [9], [], 0), (91, [9], [], 62), (20, [8, 2], [1], 85), (0, [8], [], 346), (20, [7, 2], [1], 22), (0, [7], [], 296), (22, [6, 5, 4], [1], 0), (90, [6], [], 0), (91, [6], [], 16), (20, [5, 2], [1], 86), (0, [5], [], 347), (33, [4], [], 0), (5000, [0, 1, 2, 3, 4], [0, 1], 34), (0, [0], [], 285), (90, [1], [], 0), (91, [1], [], 7), (0, [2], [], 285), (90, [3], [], 0), (91, [3], [], 7), (90, [4], [], -1), (91, [4], [], 6)], (91, [42], [], 62)) := vOk_inI fun ρ η f0 f1 f2 f3 f4 f5 f6 f7 f8 f9 f10 f11 f12 f13 f14 f15 f16 f17 f18 f19 f20 f21 f22 f23 f24 f25 f26 f27 f28 f29 f30 f31 f32 f33 f34 f35 f36 f37 f38 f39 f40 f41 f42 f43 f44 f45 f46 f47 f48 f49 f50 f51 f52 f53 f54 f55 f56 f57 f58 f59 f60 f61 f62 f63 f64 f65 f66 f67 f68 f69 f70 f71 f72 f73 f74 f75 f76 f77 f78 f79 f80 f81 f82 f83 f84 f85 f86 f87 f88 => q_270_16 (q0 := q0) (n0 := ρ 4) (n1 := ρ 3) (n2 := ρ 2) (n3 := ρ 1) (n4 := ρ 0) (n5 := ρ 5) (n6 := ρ 6) (n7 := ρ 7) (n8 := ρ 8) (n9 := ρ 9) (n10 := ρ 10) (n11 := ρ 11) (n12 := ρ 12) (n13 := ρ 13) (n14 := ρ 14) (n15 := ρ 15) (n16 := ρ 16) (n17 := ρ 17) (n18 := ρ 18) (n19 := ρ 19) (n20 := ρ 20) (n21 := ρ 21) (n22 := ρ 22) (n23 := ρ 23) (n24 := ρ 24) (n25 := ρ 25) (n26 := ρ 26) (n27 := ρ 27) (n28 := ρ 28) (n29 := ρ 29) (n30 := ρ 30) (n31 := ρ 31) (n32 := ρ 32) (n33 := ρ 33) (n34 := ρ 34) (n35 := ρ 35) (n36 := ρ 36) (n37 := ρ 37) (n38 := ρ 38) (n39 := ρ 39) (n40 := ρ 40) (n41 := ρ 41) (n42 := ρ 42) (H0 := η 0) (H1 := η 1) (H2 := η 2) (H3 := η 3) (H4 := η 4) f88 f87 f86 f85 f84 f83 f82 f81 f80 f79 f78 f77 f76 f75 f74 f73 f72 f71 f70 f69 f68 f67 f66 f65 f64 f63 f62 f61 f60 f59 f58 f57 f56 f55 f54 f53 f52 f51 f50 f49 f48 f47 f46 f45 f44 f43 f42 f41 f40 f39 f38 f37 f36 f35 f34 f33 f32 f31 f30 f29 f28 f27 f26 f25 f24 f23 f22 f21 f20 f19 f18 f17 f16 f15 f14 f13 f12 f11 f10 f9 f8 f7 f6 f5 f4 f3 f2 f1 f0
theorem q_270_17 {q0 : Nat} {n0 n1 n2 n3 n4 n5 n6 n7 n8 n9 n10 n11 n12 n13 n14 n15 n16 n17 n18 n19 n20 n21 n22 n23 n24 n25 n26 n27 n28 n29 n30 n31 n32 n33 n34 n35 n36 n37 n38 n39 n40 n41 n42 n43 n44 n45 : Int} {H0 H1 H2 H3 H4 H5 : gH} (f0 : n0 ≤ 6) (f1 : (-1) ≤ n0) (f2 : n1 ≤ 7) (f3 : 0 ≤ n1) (f4 : n2 = 285) (f5 : n3 ≤ 7) (f6 : 0 ≤ n3) (f7 : n4 = 285) (f8 : (hLe T0 H0 H1 ∧ hFr s_270.2.2.2.2 H0 H1 ∧ hWt T0 H1) ∧ (Ab_270_34 n4 n3 n2 n1 n0 H0 H1 ∧ preb_270 n4 n3 H0) ∧ some q0 = some (mub_270_34 n4 n3 n2 n1 n0 H0 H1)) (f9 : 0 ≤ n0) (f10 : n5 = 347) (f11 : n5 = hV H1 (n2).toNat 86) (f12 : n6 ≤ 16) (f13 : 0 ≤ n6) (f14 : n6 = hV H1 (n5).toNat (n0).toNat) (f15 : n7 = 296) (f16 : n7 = hV H1 (n2).toNat 22) (f17 : n8 = 346) (f18 : n8 = hV H1 (n2).toNat 85) (f19 : n9 ≤ 62) (f20 : 0 ≤ n9) (f21 : n9 = hV H1 (n8).toNat (n0).toNat) (f22 : n10 ≤ 16) (f23 : 0 ≤ n10) (f24 : n10 = hV H1 (n7).toNat (n9).toNat) (f25 : n6 ≠ n10) (f26 : n11 = 16) (f27 : n12 = 346) (f28 : n12 = hV H1 (n2).toNat 85) (f29 : n13 ≤ 62) (f30 : 0 ≤ n13) (f31 : n13 = hV H1 (n12).toNat (n0).toNat) (f32 : n14 = w32 (n11 * n13)) (f33 : n15 = 347) (f34 : n15 = hV H1 (n2).toNat 86) (f35 : n16 ≤ 16) (f36 : 0 ≤ n16) (f37 : n16 = hV H1 (n15).toNat (n0).toNat) (f38 : n17 = w32 (n14 + n16)) (f39 : n18 = 347) (f40 : n18 = hV H1 (n2).toNat 86) (f41 : n19 ≤ 16) (f42 : 0 ≤ n19) (f43 : n19 = hV H1 (n18).toNat (n0).toNat) (f44 : n20 = 1) (f45 : n21 = w32 (n19 + n20)) (f46 : hUpd H2 H1 n18 n0 n21) (f47 : n22 = 298) (f48 : n22 = hV H2 (n2).toNat 24) (f49 : n23 ≤ 5) (f50 : 0 ≤ n23) (f51 : n23 = hV H2 (n22).toNat (n17).toNat) (f52 : n24 = 5) (f53 : n23 = n24) (f54 : n25 = 348) (f55 : n25 = hV H2 (n2).toNat 87) (f56 : n26 = 1) (f57 : n27 = w32 (n0 + n26)) (f58 : n28 = 301) (f59 : n28 = hV H2 (n2).toNat 27) (f60 : n29 ≤ 9999) (f61 : (-1) ≤ n29) (f62 : n29 = hV H2 (n28).toNat (n17).toNat) (f63 : n30 = 302) (f64 : n30 = hV H2 (n2).toNat 28) (f65 : n31 ≤ 9999) (f66 : (-9999) ≤ n31) (f67 : n31 = hV H2 (n30).toNat (n17).toNat) (f68 : n32 = 348) (f69 : n32 = hV H2 (n2).toNat 87) (f70 : n33 ≤ 1000) (f71 : (-1000) ≤ n33) (f72 : n33 = hV H2 (n32).toNat (n0).toNat) (f73 : n34 ≤ 10999) (f74 : (-10999) ≤ n34) (f75 : (hLe T0 H2 H3 ∧ hFr s_269.2.2.2.2 H2 H3 ∧ ((0 : Int) = 0 → H3.length = H2.length) ∧ hWt T0 H3) ∧ postb_269 n34 n2 n29 n31 n33 H2 H3) (f76 : hUpd H4 H3 n25 n27 n34) (f77 : n35 = 346) (f78 : n35 = hV H4 (n2).toNat 85) (f79 : n36 = 1) (f80 : n37 = w32 (n0 + n36)) (f81 : n38 = 7) (f82 : n39 = w32 (n38 * n1)) (f83 : n40 = 300) (f84 : n40 = hV H4 (n2).toNat 26) (f85 : n41 ≤ 9999) (f86 : (-1) ≤ n41) (f87 : n41 = hV H4 (n40).toNat (n17).toNat) (f88 : n42 = w32 (n39 + n41)) (f89 : hUpd H5 H4 n35 n37 n42) (f90 : n43 = 347) (f91 : n43 = hV H5 (n2).toNat 86) (f92 : n44 = 1) (f93 : n45 = w32 (n0 + n44)) : 0 ≤ n45 ∧ n45 < 8 := by
  have g4 := f8.2.1.1
  unfold Ab_270_34 at g4
  have g3 := f8.2.1.2
  unfold preb_270 at g3
  unfold postb_269 at f75
  have e0 : n6 = hV H1 347 (n0).toNat := (by rw [f10] at f14; exact f14 : n6 = hV H1 347 (n0).toNat)
  have e1 : n9 = hV H1 346 (n0).toNat := (by rw [f17] at f21; exact f21 : n9 = hV H1 346 (n0).toNat)
  have e2 : hV H1 296 = hV H0 296 := fRow f8.1.2.1 296 kR_270_296
  have e3 : n10 = hV H0 296 (n9).toNat := (by rw [f15] at f24; exact f24 : n10 = hV H1 296 (n9).toNat).trans ((congrFun e2 _))
  have e4 : n13 = hV H1 346 (n0).toNat := (by rw [f27] at f31; exact f31 : n13 = hV H1 346 (n0).toNat)
  have e5 : n16 = hV H1 347 (n0).toNat := (by rw [f33] at f37; exact f37 : n16 = hV H1 347 (n0).toNat)
  have e6 : n19 = hV H1 347 (n0).toNat := (by rw [f39] at f43; exact f43 : n19 = hV H1 347 (n0).toNat)
  have e8 : hV H1 298 = hV H0 298 := fRow f8.1.2.1 298 kR_270_298
  have e9 : n23 = hV H0 298 (n17).toNat := (by rw [f47] at f51; exact f51 : n23 = hV H2 298 (n17).toNat).trans (((congrFun (uRowNe f46 298 (iS (show n18 = ((347 : Nat) : Int) from f39) rfl)) _)).trans ((congrFun e8 _)))
  have e12 : n29 = hV H0 301 (n17).toNat := (by rw [f58] at f62; exact f62 : n29 = hV H2 301 (n17).toNat).trans (((congrFun (uRowNe f46 301 (iS (show n18 = ((347 : Nat) : Int) from f39) rfl)) _)).trans ((congrFun (fRow f8.1.2.1 301 kR_270_301) _)))
  have e15 : n31 = hV H0 302 (n17).toNat := (by rw [f63] at f67; exact f67 : n31 = hV H2 302 (n17).toNat).trans (((congrFun (uRowNe f46 302 (iS (show n18 = ((347 : Nat) : Int) from f39) rfl)) _)).trans ((congrFun (fRow f8.1.2.1 302 kR_270_302) _)))
  have e17 : n33 = hV H1 348 (n0).toNat := (by rw [f68] at f72; exact f72 : n33 = hV H2 348 (n0).toNat).trans ((congrFun (uRowNe f46 348 (iS (show n18 = ((347 : Nat) : Int) from f39) rfl)) _))
  have e21 : hV H1 300 = hV H0 300 := fRow f8.1.2.1 300 kR_270_300
  have e22 : n41 = hV H0 300 (n17).toNat := (by rw [f83] at f87; exact f87 : n41 = hV H4 300 (n17).toNat).trans (((congrFun (uRowNe f76 300 (iS (show n25 = ((348 : Nat) : Int) from f54) rfl)) _)).trans (((congrFun (fRow f75.1.2.1 300 kR_269_300) _)).trans (((congrFun (uRowNe f46 300 (iS (show n18 = ((347 : Nat) : Int) from f39) rfl)) _)).trans ((congrFun e21 _)))))
  have e25 : hV H1 294 = hV H0 294 := fRow f8.1.2.1 294 kR_270_294
  have e26 : (0 : Int) ≤ hV H0 285 18 ∧ hV H0 285 18 ≤ 8 := bTo ((f8.1.2.1.1 285 18 kF_270_285_18)) (f8.1.2.2 285 18 _ _ kW_285_18)
  have e27 : (0 : Int) ≤ hV H1 285 82 ∧ hV H1 285 82 ≤ 40 := f8.1.2.2 285 82 _ _ kW_285_82
  try simp only [e25, e2, e8, e21] at g4
  have k0 := g4.1
  have y0 := g4.2.1
  have y1 := g4.2.2.1
  have y2 := g4.2.2.2
  have p0 := g3.1
  have p1 := g3.2
  have r0_0 := f75.2
  clear g3
  clear g4
  clear f11 f14 f16 f18 f21 f24 f28 f31 f34 f37 f40 f43 f48 f51 f55 f59 f62 f64 f67 f69 f72 f78 f84 f87 f91 e2 e8 e21 e25
  subst e0
  subst e1
  subst e3
  subst e4
  subst e5
  subst e6
  subst e9
  subst e12
  subst e15
  subst e17
  subst e22
  rw [f26] at f32
  rw [f81] at f82
  try have ca := cue_at (p1 (n3).toNat (by omega)) y0 (by omega) (by omega) (c := (16 * hV H1 346 (n0).toNat + hV H1 347 (n0).toNat)) (by omega)
  try have sh := y1 (n0).toNat (by omega)
  try have lv := y0 (n0).toNat (by omega)
  first
  | (have ix0 : n14 = 16 * (hV H1 346 (n0).toNat) := Eq.trans f32 (w32_iv (Iml 16 rfl (Iat f20 f19)) (by decide)); subst ix0; clear f32)
  | (have ix0 : n14 = 16 * (hV H1 346 (n0).toNat) := Eq.trans f32 (w32_id (by omega) (by omega)); subst ix0; clear f32)
  | (unfold w32 at f32; have ix0 : n14 = 16 * (hV H1 346 (n0).toNat) := (by omega); subst ix0)
  | skip
  first
  | (have ix1 : n17 = (16 * (hV H1 346 (n0).toNat)) + hV H1 347 (n0).toNat := Eq.trans f38 (w32_iv (Iad (Iml 16 rfl (Iat f20 f19)) (Iat f13 f12)) (by decide)); subst ix1; clear f38)
  | (have ix1 : n17 = (16 * (hV H1 346 (n0).toNat)) + hV H1 347 (n0).toNat := Eq.trans f38 (w32_id (by omega) (by omega)); subst ix1; clear f38)
  | (unfold w32 at f38; have ix1 : n17 = (16 * (hV H1 346 (n0).toNat)) + hV H1 347 (n0).toNat := (by omega); subst ix1)
  | skip
  first
  | (have ix2 : n21 = hV H1 347 (n0).toNat + 1 := Eq.trans f45 (w32_iv (Iad (Iat f13 f12) (IC 1)) (by decide)); subst ix2; clear f45)
  | (have ix2 : n21 = hV H1 347 (n0).toNat + 1 := Eq.trans f45 (w32_id (by omega) (by omega)); subst ix2; clear f45)
  | (unfold w32 at f45; have ix2 : n21 = hV H1 347 (n0).toNat + 1 := (by omega); subst ix2)
  | skip
  first
  | (have ix3 : n27 = n0 + 1 := Eq.trans f57 (w32_iv (Iad (Iat f1 f0) (IC 1)) (by decide)); subst ix3; clear f57)
  | (have ix3 : n27 = n0 + 1 := Eq.trans f57 (w32_id (by omega) (by omega)); subst ix3; clear f57)
  | (unfold w32 at f57; have ix3 : n27 = n0 + 1 := (by omega); subst ix3)
  | skip
  first
  | (have ix4 : n37 = n0 + 1 := Eq.trans f80 (w32_iv (Iad (Iat f1 f0) (IC 1)) (by decide)); subst ix4; clear f80)
  | (have ix4 : n37 = n0 + 1 := Eq.trans f80 (w32_id (by omega) (by omega)); subst ix4; clear f80)
  | (unfold w32 at f80; have ix4 : n37 = n0 + 1 := (by omega); subst ix4)
  | skip
  first
  | (have ix5 : n39 = 7 * n1 := Eq.trans f82 (w32_iv (Iml 7 rfl (Iat f3 f2)) (by decide)); subst ix5; clear f82)
  | (have ix5 : n39 = 7 * n1 := Eq.trans f82 (w32_id (by omega) (by omega)); subst ix5; clear f82)
  | (unfold w32 at f82; have ix5 : n39 = 7 * n1 := (by omega); subst ix5)
  | skip
  first
  | (have ix6 : n42 = (7 * n1) + hV H0 300 (((16 * (hV H1 346 (n0).toNat)) + hV H1 347 (n0).toNat)).toNat := Eq.trans f88 (w32_iv (Iad (Iml 7 rfl (Iat f3 f2)) (Iat f86 f85)) (by decide)); subst ix6; clear f88)
  | (have ix6 : n42 = (7 * n1) + hV H0 300 (((16 * (hV H1 346 (n0).toNat)) + hV H1 347 (n0).toNat)).toNat := Eq.trans f88 (w32_id (by omega) (by omega)); subst ix6; clear f88)
  | (unfold w32 at f88; have ix6 : n42 = (7 * n1) + hV H0 300 (((16 * (hV H1 346 (n0).toNat)) + hV H1 347 (n0).toNat)).toNat := (by omega); subst ix6)
  | skip
  first
  | (have ix7 : n45 = n0 + 1 := Eq.trans f93 (w32_iv (Iad (Iat f1 f0) (IC 1)) (by decide)); subst ix7; clear f93)
  | (have ix7 : n45 = n0 + 1 := Eq.trans f93 (w32_id (by omega) (by omega)); subst ix7; clear f93)
  | (unfold w32 at f93; have ix7 : n45 = n0 + 1 := (by omega); subst ix7)
  | skip
  try unfold w32 at f32
  try unfold w32 at f38
  try unfold w32 at f45
  try unfold w32 at f57
  try unfold w32 at f80
  try unfold w32 at f82
  try unfold w32 at f88
  try unfold w32 at f93

  first
  | omega
  | (have ca := cue_at (p1 (n3).toNat (by omega)) y0 (by omega) (by omega) (c := (16 * hV H1 346 (n0).toNat + hV H1 347 (n0).toNat)) (by omega)
     omega)
  | (have ua := use_at (p1 (n3).toNat (by omega)) y0 (by omega) (by omega) (c := (16 * hV H1 346 (n0).toNat + hV H1 347 (n0).toNat)) (by omega) (by omega)
     omega)
  | (have ul := ULp_lay y2 (p1 (n3).toNat (by omega)) y0 (by omega) (by omega) (by omega) (c := (16 * hV H1 346 (n0).toNat + hV H1 347 (n0).toNat)) (by omega) (by omega)
     omega)
theorem c_270_34_14 {q0 : Nat} : vOkm T0 (eP e_270 L_270 A_270 mu_270 (some q0)) 2 ([(1, [45, 4, 44], [], 0), (0, [44], [], 1), (20, [43, 2], [5], 86), (0, [43], [], 347), (80, [35, 37, 42], [5, 4], 0), (1, [42, 39, 41], [], 0), (22, [41, 40, 17], [4], 0), (90, [41], [], -1), (91, [41], [], 9999), (20, [40, 2], [4], 26), (0, [40], [], 300), (3, [39, 38, 3], [], 0), (0, [38], [], 7), (1, [37, 4, 36], [], 0), (0, [36], [], 1), (20, [35, 2], [4], 85), (0, [35], [], 346), (80, [25, 27, 34], [4, 3], 0), (1269, [34, 2, 29, 31, 33], [2, 3], 0), (90, [34], [], -10999), (91, [34], [], 10999), (22, [33, 32, 4], [2], 0), (90, [33], [], -1000), (91, [33], [], 1000), (20, [32, 2], [2], 87), (0, [32], [], 348), (22, [31, 30, 17], [2], 0), (90, [31], [], -9999), (91, [31], [], 9999), (20, [30, 2], [2], 28), (0, [30], [], 302), (22, [29, 28, 17], [2], 0), (90, [29], [], -1), (91, [29], [], 9999), (20, [28, 2], [2], 27), (0, [28], [], 301), (1, [27, 4, 26], [], 0), (0, [26], [], 1), (20, [25, 2], [2], 87), (0, [25], [], 348), (40, [23, 24], [], 0), (0, [24], [], 5), (22, [23, 22, 17], [2], 0), (90, [23], [], 0), (91, [23], [], 5), (20, [22, 2], [2], 24), (0, [22], [], 298), (80, [18, 4, 21], [2, 1], 0), (1, [21, 19, 20], [], 0), (0, [20], [], 1), (22, [19, 18, 4], [1], 0), (90, [19], [], 0), (91, [19], [], 16), (20, [18, 2], [1], 86), (0, [18], [], 347), (1, [17, 14, 16], [], 0), (22, [16, 15, 4], [1], 0), (90, [16], [], 0), (91, [16], [], 16), (20, [15, 2], [1], 86), (0, [15], [], 347), (3, [14, 11, 13], [], 0), (22, [13, 12, 4], [1], 0), (90, [13], [], 0), (91, [13], [], 62), (20, [12, 2], [1], 85), (0, [12], [], 346), (0, [11], [], 16), (41, [6, 10], [], 0), (22, [10, 7, 9], [1], 0), (90, [10], [], 0), (91, [10], [], 16), (22, [9, 8, 4], [1], 0), (90, [9], [], 0), (91, [9], [], 62), (20, [8, 2], [1], 85), (0, [8], [], 346), (20, [7, 2], [1], 22), (0, [7], [], 296), (22, [6, 5, 4], [1], 0), (90, [6], [], 0), (91, [6], [], 16), (20, [5, 2], [1], 86), (0, [5], [], 347), (33, [4], [], 0), (5000, [0, 1, 2, 3, 4], [0, 1], 34), (0, [0], [], 285), (90, [1], [], 0), (91, [1], [], 7), (0, [2], [], 285), (90, [3], [], 0), (91, [3], [], 7), (90, [4], [], -1), (91, [4], [], 6)], (70, [45], [], 8)) := vOk_inI fun ρ η f0 f1 f2 f3 f4 f5 f6 f7 f8 f9 f10 f11 f12 f13 f14 f15 f16 f17 f18 f19 f20 f21 f22 f23 f24 f25 f26 f27 f28 f29 f30 f31 f32 f33 f34 f35 f36 f37 f38 f39 f40 f41 f42 f43 f44 f45 f46 f47 f48 f49 f50 f51 f52 f53 f54 f55 f56 f57 f58 f59 f60 f61 f62 f63 f64 f65 f66 f67 f68 f69 f70 f71 f72 f73 f74 f75 f76 f77 f78 f79 f80 f81 f82 f83 f84 f85 f86 f87 f88 f89 f90 f91 f92 f93 => q_270_17 (q0 := q0) (n0 := ρ 4) (n1 := ρ 3) (n2 := ρ 2) (n3 := ρ 1) (n4 := ρ 0) (n5 := ρ 5) (n6 := ρ 6) (n7 := ρ 7) (n8 := ρ 8) (n9 := ρ 9) (n10 := ρ 10) (n11 := ρ 11) (n12 := ρ 12) (n13 := ρ 13) (n14 := ρ 14) (n15 := ρ 15) (n16 := ρ 16) (n17 := ρ 17) (n18 := ρ 18) (n19 := ρ 19) (n20 := ρ 20) (n21 := ρ 21) (n22 := ρ 22) (n23 := ρ 23) (n24 := ρ 24) (n25 := ρ 25) (n26 := ρ 26) (n27 := ρ 27) (n28 := ρ 28) (n29 := ρ 29) (n30 := ρ 30) (n31 := ρ 31) (n32 := ρ 32) (n33 := ρ 33) (n34 := ρ 34) (n35 := ρ 35) (n36 := ρ 36) (n37 := ρ 37) (n38 := ρ 38) (n39 := ρ 39) (n40 := ρ 40) (n41 := ρ 41) (n42 := ρ 42) (n43 := ρ 43) (n44 := ρ 44) (n45 := ρ 45) (H0 := η 0) (H1 := η 1) (H2 := η 2) (H3 := η 3) (H4 := η 4) (H5 := η 5) f93 f92 f91 f90 f89 f88 f87 f86 f85 f84 f83 f82 f81 f80 f79 f78 f77 f76 f75 f74 f73 f72 f71 f70 f69 f68 f67 f66 f65 f64 f63 f62 f61 f60 f59 f58 f57 f56 f55 f54 f53 f52 f51 f50 f49 f48 f47 f46 f45 f44 f43 f42 f41 f40 f39 f38 f37 f36 f35 f34 f33 f32 f31 f30 f29 f28 f27 f26 f25 f24 f23 f22 f21 f20 f19 f18 f17 f16 f15 f14 f13 f12 f11 f10 f9 f8 f7 f6 f5 f4 f3 f2 f1 f0
theorem q_270_18 {q0 : Nat} {n0 n1 n2 n3 n4 n5 n6 n7 n8 n9 n10 n11 n12 n13 n14 n15 n16 n17 n18 n19 n20 n21 n22 n23 n24 n25 n26 n27 n28 n29 n30 n31 n32 n33 n34 n35 n36 n37 n38 n39 n40 n41 n42 n43 n44 n45 n46 : Int} {H0 H1 H2 H3 H4 H5 : gH} (f0 : n0 ≤ 6) (f1 : (-1) ≤ n0) (f2 : n1 ≤ 7) (f3 : 0 ≤ n1) (f4 : n2 = 285) (f5 : n3 ≤ 7) (f6 : 0 ≤ n3) (f7 : n4 = 285) (f8 : (hLe T0 H0 H1 ∧ hFr s_270.2.2.2.2 H0 H1 ∧ hWt T0 H1) ∧ (Ab_270_34 n4 n3 n2 n1 n0 H0 H1 ∧ preb_270 n4 n3 H0) ∧ some q0 = some (mub_270_34 n4 n3 n2 n1 n0 H0 H1)) (f9 : 0 ≤ n0) (f10 : n5 = 347) (f11 : n5 = hV H1 (n2).toNat 86) (f12 : n6 ≤ 16) (f13 : 0 ≤ n6) (f14 : n6 = hV H1 (n5).toNat (n0).toNat) (f15 : n7 = 296) (f16 : n7 = hV H1 (n2).toNat 22) (f17 : n8 = 346) (f18 : n8 = hV H1 (n2).toNat 85) (f19 : n9 ≤ 62) (f20 : 0 ≤ n9) (f21 : n9 = hV H1 (n8).toNat (n0).toNat) (f22 : n10 ≤ 16) (f23 : 0 ≤ n10) (f24 : n10 = hV H1 (n7).toNat (n9).toNat) (f25 : n6 ≠ n10) (f26 : n11 = 16) (f27 : n12 = 346) (f28 : n12 = hV H1 (n2).toNat 85) (f29 : n13 ≤ 62) (f30 : 0 ≤ n13) (f31 : n13 = hV H1 (n12).toNat (n0).toNat) (f32 : n14 = w32 (n11 * n13)) (f33 : n15 = 347) (f34 : n15 = hV H1 (n2).toNat 86) (f35 : n16 ≤ 16) (f36 : 0 ≤ n16) (f37 : n16 = hV H1 (n15).toNat (n0).toNat) (f38 : n17 = w32 (n14 + n16)) (f39 : n18 = 347) (f40 : n18 = hV H1 (n2).toNat 86) (f41 : n19 ≤ 16) (f42 : 0 ≤ n19) (f43 : n19 = hV H1 (n18).toNat (n0).toNat) (f44 : n20 = 1) (f45 : n21 = w32 (n19 + n20)) (f46 : hUpd H2 H1 n18 n0 n21) (f47 : n22 = 298) (f48 : n22 = hV H2 (n2).toNat 24) (f49 : n23 ≤ 5) (f50 : 0 ≤ n23) (f51 : n23 = hV H2 (n22).toNat (n17).toNat) (f52 : n24 = 5) (f53 : n23 = n24) (f54 : n25 = 348) (f55 : n25 = hV H2 (n2).toNat 87) (f56 : n26 = 1) (f57 : n27 = w32 (n0 + n26)) (f58 : n28 = 301) (f59 : n28 = hV H2 (n2).toNat 27) (f60 : n29 ≤ 9999) (f61 : (-1) ≤ n29) (f62 : n29 = hV H2 (n28).toNat (n17).toNat) (f63 : n30 = 302) (f64 : n30 = hV H2 (n2).toNat 28) (f65 : n31 ≤ 9999) (f66 : (-9999) ≤ n31) (f67 : n31 = hV H2 (n30).toNat (n17).toNat) (f68 : n32 = 348) (f69 : n32 = hV H2 (n2).toNat 87) (f70 : n33 ≤ 1000) (f71 : (-1000) ≤ n33) (f72 : n33 = hV H2 (n32).toNat (n0).toNat) (f73 : n34 ≤ 10999) (f74 : (-10999) ≤ n34) (f75 : (hLe T0 H2 H3 ∧ hFr s_269.2.2.2.2 H2 H3 ∧ ((0 : Int) = 0 → H3.length = H2.length) ∧ hWt T0 H3) ∧ postb_269 n34 n2 n29 n31 n33 H2 H3) (f76 : hUpd H4 H3 n25 n27 n34) (f77 : n35 = 346) (f78 : n35 = hV H4 (n2).toNat 85) (f79 : n36 = 1) (f80 : n37 = w32 (n0 + n36)) (f81 : n38 = 7) (f82 : n39 = w32 (n38 * n1)) (f83 : n40 = 300) (f84 : n40 = hV H4 (n2).toNat 26) (f85 : n41 ≤ 9999) (f86 : (-1) ≤ n41) (f87 : n41 = hV H4 (n40).toNat (n17).toNat) (f88 : n42 = w32 (n39 + n41)) (f89 : hUpd H5 H4 n35 n37 n42) (f90 : n43 = 347) (f91 : n43 = hV H5 (n2).toNat 86) (f92 : n44 = 1) (f93 : n45 = w32 (n0 + n44)) (f94 : n46 = w32 (n0 + 1)) : (-1) ≤ n46 := by
  have g4 := f8.2.1.1
  unfold Ab_270_34 at g4
  have g3 := f8.2.1.2
  unfold preb_270 at g3
  unfold postb_269 at f75
  have e0 : n6 = hV H1 347 (n0).toNat := (by rw [f10] at f14; exact f14 : n6 = hV H1 347 (n0).toNat)
  have e1 : n9 = hV H1 346 (n0).toNat := (by rw [f17] at f21; exact f21 : n9 = hV H1 346 (n0).toNat)
  have e2 : hV H1 296 = hV H0 296 := fRow f8.1.2.1 296 kR_270_296
  have e3 : n10 = hV H0 296 (n9).toNat := (by rw [f15] at f24; exact f24 : n10 = hV H1 296 (n9).toNat).trans ((congrFun e2 _))
  have e4 : n13 = hV H1 346 (n0).toNat := (by rw [f27] at f31; exact f31 : n13 = hV H1 346 (n0).toNat)
  have e5 : n16 = hV H1 347 (n0).toNat := (by rw [f33] at f37; exact f37 : n16 = hV H1 347 (n0).toNat)
  have e6 : n19 = hV H1 347 (n0).toNat := (by rw [f39] at f43; exact f43 : n19 = hV H1 347 (n0).toNat)
  have e8 : hV H1 298 = hV H0 298 := fRow f8.1.2.1 298 kR_270_298
  have e9 : n23 = hV H0 298 (n17).toNat := (by rw [f47] at f51; exact f51 : n23 = hV H2 298 (n17).toNat).trans (((congrFun (uRowNe f46 298 (iS (show n18 = ((347 : Nat) : Int) from f39) rfl)) _)).trans ((congrFun e8 _)))
  have e12 : n29 = hV H0 301 (n17).toNat := (by rw [f58] at f62; exact f62 : n29 = hV H2 301 (n17).toNat).trans (((congrFun (uRowNe f46 301 (iS (show n18 = ((347 : Nat) : Int) from f39) rfl)) _)).trans ((congrFun (fRow f8.1.2.1 301 kR_270_301) _)))
  have e15 : n31 = hV H0 302 (n17).toNat := (by rw [f63] at f67; exact f67 : n31 = hV H2 302 (n17).toNat).trans (((congrFun (uRowNe f46 302 (iS (show n18 = ((347 : Nat) : Int) from f39) rfl)) _)).trans ((congrFun (fRow f8.1.2.1 302 kR_270_302) _)))
  have e17 : n33 = hV H1 348 (n0).toNat := (by rw [f68] at f72; exact f72 : n33 = hV H2 348 (n0).toNat).trans ((congrFun (uRowNe f46 348 (iS (show n18 = ((347 : Nat) : Int) from f39) rfl)) _))
  have e21 : hV H1 300 = hV H0 300 := fRow f8.1.2.1 300 kR_270_300
  have e22 : n41 = hV H0 300 (n17).toNat := (by rw [f83] at f87; exact f87 : n41 = hV H4 300 (n17).toNat).trans (((congrFun (uRowNe f76 300 (iS (show n25 = ((348 : Nat) : Int) from f54) rfl)) _)).trans (((congrFun (fRow f75.1.2.1 300 kR_269_300) _)).trans (((congrFun (uRowNe f46 300 (iS (show n18 = ((347 : Nat) : Int) from f39) rfl)) _)).trans ((congrFun e21 _)))))
  have e25 : hV H1 294 = hV H0 294 := fRow f8.1.2.1 294 kR_270_294
  have e26 : (0 : Int) ≤ hV H0 285 18 ∧ hV H0 285 18 ≤ 8 := bTo ((f8.1.2.1.1 285 18 kF_270_285_18)) (f8.1.2.2 285 18 _ _ kW_285_18)
  have e27 : (0 : Int) ≤ hV H1 285 82 ∧ hV H1 285 82 ≤ 40 := f8.1.2.2 285 82 _ _ kW_285_82
  try simp only [e25, e2, e8, e21] at g4
  have k0 := g4.1
  have y0 := g4.2.1
  have y1 := g4.2.2.1
  have y2 := g4.2.2.2
  have p0 := g3.1
  have p1 := g3.2
  have r0_0 := f75.2
  clear g3
  clear g4
  clear f11 f14 f16 f18 f21 f24 f28 f31 f34 f37 f40 f43 f48 f51 f55 f59 f62 f64 f67 f69 f72 f78 f84 f87 f91 e2 e8 e21 e25
  subst e0
  subst e1
  subst e3
  subst e4
  subst e5
  subst e6
  subst e9
  subst e12
  subst e15
  subst e17
  subst e22
  rw [f26] at f32
  rw [f81] at f82
  try have ca := cue_at (p1 (n3).toNat (by omega)) y0 (by omega) (by omega) (c := (16 * hV H1 346 (n0).toNat + hV H1 347 (n0).toNat)) (by omega)
  try have sh := y1 (n0).toNat (by omega)
  try have lv := y0 (n0).toNat (by omega)
  first
  | (have ix0 : n14 = 16 * (hV H1 346 (n0).toNat) := Eq.trans f32 (w32_iv (Iml 16 rfl (Iat f20 f19)) (by decide)); subst ix0; clear f32)
  | (have ix0 : n14 = 16 * (hV H1 346 (n0).toNat) := Eq.trans f32 (w32_id (by omega) (by omega)); subst ix0; clear f32)
  | (unfold w32 at f32; have ix0 : n14 = 16 * (hV H1 346 (n0).toNat) := (by omega); subst ix0)
  | skip
  first
  | (have ix1 : n17 = (16 * (hV H1 346 (n0).toNat)) + hV H1 347 (n0).toNat := Eq.trans f38 (w32_iv (Iad (Iml 16 rfl (Iat f20 f19)) (Iat f13 f12)) (by decide)); subst ix1; clear f38)
  | (have ix1 : n17 = (16 * (hV H1 346 (n0).toNat)) + hV H1 347 (n0).toNat := Eq.trans f38 (w32_id (by omega) (by omega)); subst ix1; clear f38)
  | (unfold w32 at f38; have ix1 : n17 = (16 * (hV H1 346 (n0).toNat)) + hV H1 347 (n0).toNat := (by omega); subst ix1)
  | skip
  first
  | (have ix2 : n21 = hV H1 347 (n0).toNat + 1 := Eq.trans f45 (w32_iv (Iad (Iat f13 f12) (IC 1)) (by decide)); subst ix2; clear f45)
  | (have ix2 : n21 = hV H1 347 (n0).toNat + 1 := Eq.trans f45 (w32_id (by omega) (by omega)); subst ix2; clear f45)
  | (unfold w32 at f45; have ix2 : n21 = hV H1 347 (n0).toNat + 1 := (by omega); subst ix2)
  | skip
  first
  | (have ix3 : n27 = n0 + 1 := Eq.trans f57 (w32_iv (Iad (Iat f1 f0) (IC 1)) (by decide)); subst ix3; clear f57)
  | (have ix3 : n27 = n0 + 1 := Eq.trans f57 (w32_id (by omega) (by omega)); subst ix3; clear f57)
  | (unfold w32 at f57; have ix3 : n27 = n0 + 1 := (by omega); subst ix3)
  | skip
  first
  | (have ix4 : n37 = n0 + 1 := Eq.trans f80 (w32_iv (Iad (Iat f1 f0) (IC 1)) (by decide)); subst ix4; clear f80)
  | (have ix4 : n37 = n0 + 1 := Eq.trans f80 (w32_id (by omega) (by omega)); subst ix4; clear f80)
  | (unfold w32 at f80; have ix4 : n37 = n0 + 1 := (by omega); subst ix4)
  | skip
  first
  | (have ix5 : n39 = 7 * n1 := Eq.trans f82 (w32_iv (Iml 7 rfl (Iat f3 f2)) (by decide)); subst ix5; clear f82)
  | (have ix5 : n39 = 7 * n1 := Eq.trans f82 (w32_id (by omega) (by omega)); subst ix5; clear f82)
  | (unfold w32 at f82; have ix5 : n39 = 7 * n1 := (by omega); subst ix5)
  | skip
  first
  | (have ix6 : n42 = (7 * n1) + hV H0 300 (((16 * (hV H1 346 (n0).toNat)) + hV H1 347 (n0).toNat)).toNat := Eq.trans f88 (w32_iv (Iad (Iml 7 rfl (Iat f3 f2)) (Iat f86 f85)) (by decide)); subst ix6; clear f88)
  | (have ix6 : n42 = (7 * n1) + hV H0 300 (((16 * (hV H1 346 (n0).toNat)) + hV H1 347 (n0).toNat)).toNat := Eq.trans f88 (w32_id (by omega) (by omega)); subst ix6; clear f88)
  | (unfold w32 at f88; have ix6 : n42 = (7 * n1) + hV H0 300 (((16 * (hV H1 346 (n0).toNat)) + hV H1 347 (n0).toNat)).toNat := (by omega); subst ix6)
  | skip
  first
  | (have ix7 : n46 = n0 + 1 := Eq.trans f94 (w32_iv (Iad (Iat f1 f0) (IC 1)) (by decide)); subst ix7; clear f94)
  | (have ix7 : n46 = n0 + 1 := Eq.trans f94 (w32_id (by omega) (by omega)); subst ix7; clear f94)
  | (unfold w32 at f94; have ix7 : n46 = n0 + 1 := (by omega); subst ix7)
  | skip
  try unfold w32 at f32
  try unfold w32 at f38
  try unfold w32 at f45
  try unfold w32 at f57
  try unfold w32 at f80
  try unfold w32 at f82
  try unfold w32 at f88
  try unfold w32 at f93
  try unfold w32 at f94

  first
  | omega
  | (have ca := cue_at (p1 (n3).toNat (by omega)) y0 (by omega) (by omega) (c := (16 * hV H1 346 (n0).toNat + hV H1 347 (n0).toNat)) (by omega)
     omega)
  | (have ua := use_at (p1 (n3).toNat (by omega)) y0 (by omega) (by omega) (c := (16 * hV H1 346 (n0).toNat + hV H1 347 (n0).toNat)) (by omega) (by omega)
     omega)
  | (have ul := ULp_lay y2 (p1 (n3).toNat (by omega)) y0 (by omega) (by omega) (by omega) (c := (16 * hV H1 346 (n0).toNat + hV H1 347 (n0).toNat)) (by omega) (by omega)
     omega)
theorem c_270_34_15 {q0 : Nat} : vOkm T0 (eP e_270 L_270 A_270 mu_270 (some q0)) 2 ([(10, [47, 4], [], 1), (1, [45, 4, 44], [], 0), (0, [44], [], 1), (20, [43, 2], [5], 86), (0, [43], [], 347), (80, [35, 37, 42], [5, 4], 0), (1, [42, 39, 41], [], 0), (22, [41, 40, 17], [4], 0), (90, [41], [], -1), (91, [41], [], 9999), (20, [40, 2], [4], 26), (0, [40], [], 300), (3, [39, 38, 3], [], 0), (0, [38], [], 7), (1, [37, 4, 36], [], 0), (0, [36], [], 1), (20, [35, 2], [4], 85), (0, [35], [], 346), (80, [25, 27, 34], [4, 3], 0), (1269, [34, 2, 29, 31, 33], [2, 3], 0), (90, [34], [], -10999), (91, [34], [], 10999), (22, [33, 32, 4], [2], 0), (90, [33], [], -1000), (91, [33], [], 1000), (20, [32, 2], [2], 87), (0, [32], [], 348), (22, [31, 30, 17], [2], 0), (90, [31], [], -9999), (91, [31], [], 9999), (20, [30, 2], [2], 28), (0, [30], [], 302), (22, [29, 28, 17], [2], 0), (90, [29], [], -1), (91, [29], [], 9999), (20, [28, 2], [2], 27), (0, [28], [], 301), (1, [27, 4, 26], [], 0), (0, [26], [], 1), (20, [25, 2], [2], 87), (0, [25], [], 348), (40, [23, 24], [], 0), (0, [24], [], 5), (22, [23, 22, 17], [2], 0), (90, [23], [], 0), (91, [23], [], 5), (20, [22, 2], [2], 24), (0, [22], [], 298), (80, [18, 4, 21], [2, 1], 0), (1, [21, 19, 20], [], 0), (0, [20], [], 1), (22, [19, 18, 4], [1], 0), (90, [19], [], 0), (91, [19], [], 16), (20, [18, 2], [1], 86), (0, [18], [], 347), (1, [17, 14, 16], [], 0), (22, [16, 15, 4], [1], 0), (90, [16], [], 0), (91, [16], [], 16), (20, [15, 2], [1], 86), (0, [15], [], 347), (3, [14, 11, 13], [], 0), (22, [13, 12, 4], [1], 0), (90, [13], [], 0), (91, [13], [], 62), (20, [12, 2], [1], 85), (0, [12], [], 346), (0, [11], [], 16), (41, [6, 10], [], 0), (22, [10, 7, 9], [1], 0), (90, [10], [], 0), (91, [10], [], 16), (22, [9, 8, 4], [1], 0), (90, [9], [], 0), (91, [9], [], 62), (20, [8, 2], [1], 85), (0, [8], [], 346), (20, [7, 2], [1], 22), (0, [7], [], 296), (22, [6, 5, 4], [1], 0), (90, [6], [], 0), (91, [6], [], 16), (20, [5, 2], [1], 86), (0, [5], [], 347), (33, [4], [], 0), (5000, [0, 1, 2, 3, 4], [0, 1], 34), (0, [0], [], 285), (90, [1], [], 0), (91, [1], [], 7), (0, [2], [], 285), (90, [3], [], 0), (91, [3], [], 7), (90, [4], [], -1), (91, [4], [], 6)], (90, [47], [], -1)) := vOk_inI fun ρ η f0 f1 f2 f3 f4 f5 f6 f7 f8 f9 f10 f11 f12 f13 f14 f15 f16 f17 f18 f19 f20 f21 f22 f23 f24 f25 f26 f27 f28 f29 f30 f31 f32 f33 f34 f35 f36 f37 f38 f39 f40 f41 f42 f43 f44 f45 f46 f47 f48 f49 f50 f51 f52 f53 f54 f55 f56 f57 f58 f59 f60 f61 f62 f63 f64 f65 f66 f67 f68 f69 f70 f71 f72 f73 f74 f75 f76 f77 f78 f79 f80 f81 f82 f83 f84 f85 f86 f87 f88 f89 f90 f91 f92 f93 f94 => q_270_18 (q0 := q0) (n0 := ρ 4) (n1 := ρ 3) (n2 := ρ 2) (n3 := ρ 1) (n4 := ρ 0) (n5 := ρ 5) (n6 := ρ 6) (n7 := ρ 7) (n8 := ρ 8) (n9 := ρ 9) (n10 := ρ 10) (n11 := ρ 11) (n12 := ρ 12) (n13 := ρ 13) (n14 := ρ 14) (n15 := ρ 15) (n16 := ρ 16) (n17 := ρ 17) (n18 := ρ 18) (n19 := ρ 19) (n20 := ρ 20) (n21 := ρ 21) (n22 := ρ 22) (n23 := ρ 23) (n24 := ρ 24) (n25 := ρ 25) (n26 := ρ 26) (n27 := ρ 27) (n28 := ρ 28) (n29 := ρ 29) (n30 := ρ 30) (n31 := ρ 31) (n32 := ρ 32) (n33 := ρ 33) (n34 := ρ 34) (n35 := ρ 35) (n36 := ρ 36) (n37 := ρ 37) (n38 := ρ 38) (n39 := ρ 39) (n40 := ρ 40) (n41 := ρ 41) (n42 := ρ 42) (n43 := ρ 43) (n44 := ρ 44) (n45 := ρ 45) (n46 := ρ 47) (H0 := η 0) (H1 := η 1) (H2 := η 2) (H3 := η 3) (H4 := η 4) (H5 := η 5) f94 f93 f92 f91 f90 f89 f88 f87 f86 f85 f84 f83 f82 f81 f80 f79 f78 f77 f76 f75 f74 f73 f72 f71 f70 f69 f68 f67 f66 f65 f64 f63 f62 f61 f60 f59 f58 f57 f56 f55 f54 f53 f52 f51 f50 f49 f48 f47 f46 f45 f44 f43 f42 f41 f40 f39 f38 f37 f36 f35 f34 f33 f32 f31 f30 f29 f28 f27 f26 f25 f24 f23 f22 f21 f20 f19 f18 f17 f16 f15 f14 f13 f12 f11 f10 f9 f8 f7 f6 f5 f4 f3 f2 f1 f0
theorem q_270_19 {q0 : Nat} {n0 n1 n2 n3 n4 n5 n6 n7 n8 n9 n10 n11 n12 n13 n14 n15 n16 n17 n18 n19 n20 n21 n22 n23 n24 n25 n26 n27 n28 n29 n30 n31 n32 n33 n34 n35 n36 n37 n38 n39 n40 n41 n42 n43 n44 n45 n46 : Int} {H0 H1 H2 H3 H4 H5 : gH} (f0 : n0 ≤ 6) (f1 : (-1) ≤ n0) (f2 : n1 ≤ 7) (f3 : 0 ≤ n1) (f4 : n2 = 285) (f5 : n3 ≤ 7) (f6 : 0 ≤ n3) (f7 : n4 = 285) (f8 : (hLe T0 H0 H1 ∧ hFr s_270.2.2.2.2 H0 H1 ∧ hWt T0 H1) ∧ (Ab_270_34 n4 n3 n2 n1 n0 H0 H1 ∧ preb_270 n4 n3 H0) ∧ some q0 = some (mub_270_34 n4 n3 n2 n1 n0 H0 H1)) (f9 : 0 ≤ n0) (f10 : n5 = 347) (f11 : n5 = hV H1 (n2).toNat 86) (f12 : n6 ≤ 16) (f13 : 0 ≤ n6) (f14 : n6 = hV H1 (n5).toNat (n0).toNat) (f15 : n7 = 296) (f16 : n7 = hV H1 (n2).toNat 22) (f17 : n8 = 346) (f18 : n8 = hV H1 (n2).toNat 85) (f19 : n9 ≤ 62) (f20 : 0 ≤ n9) (f21 : n9 = hV H1 (n8).toNat (n0).toNat) (f22 : n10 ≤ 16) (f23 : 0 ≤ n10) (f24 : n10 = hV H1 (n7).toNat (n9).toNat) (f25 : n6 ≠ n10) (f26 : n11 = 16) (f27 : n12 = 346) (f28 : n12 = hV H1 (n2).toNat 85) (f29 : n13 ≤ 62) (f30 : 0 ≤ n13) (f31 : n13 = hV H1 (n12).toNat (n0).toNat) (f32 : n14 = w32 (n11 * n13)) (f33 : n15 = 347) (f34 : n15 = hV H1 (n2).toNat 86) (f35 : n16 ≤ 16) (f36 : 0 ≤ n16) (f37 : n16 = hV H1 (n15).toNat (n0).toNat) (f38 : n17 = w32 (n14 + n16)) (f39 : n18 = 347) (f40 : n18 = hV H1 (n2).toNat 86) (f41 : n19 ≤ 16) (f42 : 0 ≤ n19) (f43 : n19 = hV H1 (n18).toNat (n0).toNat) (f44 : n20 = 1) (f45 : n21 = w32 (n19 + n20)) (f46 : hUpd H2 H1 n18 n0 n21) (f47 : n22 = 298) (f48 : n22 = hV H2 (n2).toNat 24) (f49 : n23 ≤ 5) (f50 : 0 ≤ n23) (f51 : n23 = hV H2 (n22).toNat (n17).toNat) (f52 : n24 = 5) (f53 : n23 = n24) (f54 : n25 = 348) (f55 : n25 = hV H2 (n2).toNat 87) (f56 : n26 = 1) (f57 : n27 = w32 (n0 + n26)) (f58 : n28 = 301) (f59 : n28 = hV H2 (n2).toNat 27) (f60 : n29 ≤ 9999) (f61 : (-1) ≤ n29) (f62 : n29 = hV H2 (n28).toNat (n17).toNat) (f63 : n30 = 302) (f64 : n30 = hV H2 (n2).toNat 28) (f65 : n31 ≤ 9999) (f66 : (-9999) ≤ n31) (f67 : n31 = hV H2 (n30).toNat (n17).toNat) (f68 : n32 = 348) (f69 : n32 = hV H2 (n2).toNat 87) (f70 : n33 ≤ 1000) (f71 : (-1000) ≤ n33) (f72 : n33 = hV H2 (n32).toNat (n0).toNat) (f73 : n34 ≤ 10999) (f74 : (-10999) ≤ n34) (f75 : (hLe T0 H2 H3 ∧ hFr s_269.2.2.2.2 H2 H3 ∧ ((0 : Int) = 0 → H3.length = H2.length) ∧ hWt T0 H3) ∧ postb_269 n34 n2 n29 n31 n33 H2 H3) (f76 : hUpd H4 H3 n25 n27 n34) (f77 : n35 = 346) (f78 : n35 = hV H4 (n2).toNat 85) (f79 : n36 = 1) (f80 : n37 = w32 (n0 + n36)) (f81 : n38 = 7) (f82 : n39 = w32 (n38 * n1)) (f83 : n40 = 300) (f84 : n40 = hV H4 (n2).toNat 26) (f85 : n41 ≤ 9999) (f86 : (-1) ≤ n41) (f87 : n41 = hV H4 (n40).toNat (n17).toNat) (f88 : n42 = w32 (n39 + n41)) (f89 : hUpd H5 H4 n35 n37 n42) (f90 : n43 = 347) (f91 : n43 = hV H5 (n2).toNat 86) (f92 : n44 = 1) (f93 : n45 = w32 (n0 + n44)) (f94 : n46 = w32 (n0 + 1)) : n46 ≤ 6 := by
  have g4 := f8.2.1.1
  unfold Ab_270_34 at g4
  have g3 := f8.2.1.2
  unfold preb_270 at g3
  unfold postb_269 at f75
  have e0 : n6 = hV H1 347 (n0).toNat := (by rw [f10] at f14; exact f14 : n6 = hV H1 347 (n0).toNat)
  have e1 : n9 = hV H1 346 (n0).toNat := (by rw [f17] at f21; exact f21 : n9 = hV H1 346 (n0).toNat)
  have e2 : hV H1 296 = hV H0 296 := fRow f8.1.2.1 296 kR_270_296
  have e3 : n10 = hV H0 296 (n9).toNat := (by rw [f15] at f24; exact f24 : n10 = hV H1 296 (n9).toNat).trans ((congrFun e2 _))
  have e4 : n13 = hV H1 346 (n0).toNat := (by rw [f27] at f31; exact f31 : n13 = hV H1 346 (n0).toNat)
  have e5 : n16 = hV H1 347 (n0).toNat := (by rw [f33] at f37; exact f37 : n16 = hV H1 347 (n0).toNat)
  have e6 : n19 = hV H1 347 (n0).toNat := (by rw [f39] at f43; exact f43 : n19 = hV H1 347 (n0).toNat)
  have e8 : hV H1 298 = hV H0 298 := fRow f8.1.2.1 298 kR_270_298
  have e9 : n23 = hV H0 298 (n17).toNat := (by rw [f47] at f51; exact f51 : n23 = hV H2 298 (n17).toNat).trans (((congrFun (uRowNe f46 298 (iS (show n18 = ((347 : Nat) : Int) from f39) rfl)) _)).trans ((congrFun e8 _)))
  have e12 : n29 = hV H0 301 (n17).toNat := (by rw [f58] at f62; exact f62 : n29 = hV H2 301 (n17).toNat).trans (((congrFun (uRowNe f46 301 (iS (show n18 = ((347 : Nat) : Int) from f39) rfl)) _)).trans ((congrFun (fRow f8.1.2.1 301 kR_270_301) _)))
  have e15 : n31 = hV H0 302 (n17).toNat := (by rw [f63] at f67; exact f67 : n31 = hV H2 302 (n17).toNat).trans (((congrFun (uRowNe f46 302 (iS (show n18 = ((347 : Nat) : Int) from f39) rfl)) _)).trans ((congrFun (fRow f8.1.2.1 302 kR_270_302) _)))
  have e17 : n33 = hV H1 348 (n0).toNat := (by rw [f68] at f72; exact f72 : n33 = hV H2 348 (n0).toNat).trans ((congrFun (uRowNe f46 348 (iS (show n18 = ((347 : Nat) : Int) from f39) rfl)) _))
  have e21 : hV H1 300 = hV H0 300 := fRow f8.1.2.1 300 kR_270_300
  have e22 : n41 = hV H0 300 (n17).toNat := (by rw [f83] at f87; exact f87 : n41 = hV H4 300 (n17).toNat).trans (((congrFun (uRowNe f76 300 (iS (show n25 = ((348 : Nat) : Int) from f54) rfl)) _)).trans (((congrFun (fRow f75.1.2.1 300 kR_269_300) _)).trans (((congrFun (uRowNe f46 300 (iS (show n18 = ((347 : Nat) : Int) from f39) rfl)) _)).trans ((congrFun e21 _)))))
  have e25 : hV H1 294 = hV H0 294 := fRow f8.1.2.1 294 kR_270_294
  have e26 : (0 : Int) ≤ hV H0 285 18 ∧ hV H0 285 18 ≤ 8 := bTo ((f8.1.2.1.1 285 18 kF_270_285_18)) (f8.1.2.2 285 18 _ _ kW_285_18)
  have e27 : (0 : Int) ≤ hV H1 285 82 ∧ hV H1 285 82 ≤ 40 := f8.1.2.2 285 82 _ _ kW_285_82
  try simp only [e25, e2, e8, e21] at g4
  have k0 := g4.1
  have y0 := g4.2.1
  have y1 := g4.2.2.1
  have y2 := g4.2.2.2
  have p0 := g3.1
  have p1 := g3.2
  have r0_0 := f75.2
  clear g3
  clear g4
  clear f11 f14 f16 f18 f21 f24 f28 f31 f34 f37 f40 f43 f48 f51 f55 f59 f62 f64 f67 f69 f72 f78 f84 f87 f91 e2 e8 e21 e25
  subst e0
  subst e1
  subst e3
  subst e4
  subst e5
  subst e6
  subst e9
  subst e12
  subst e15
  subst e17
  subst e22
  rw [f26] at f32
  rw [f81] at f82
  try have ca := cue_at (p1 (n3).toNat (by omega)) y0 (by omega) (by omega) (c := (16 * hV H1 346 (n0).toNat + hV H1 347 (n0).toNat)) (by omega)
  try have sh := y1 (n0).toNat (by omega)
  try have lv := y0 (n0).toNat (by omega)
  first
  | (have ix0 : n14 = 16 * (hV H1 346 (n0).toNat) := Eq.trans f32 (w32_iv (Iml 16 rfl (Iat f20 f19)) (by decide)); subst ix0; clear f32)
  | (have ix0 : n14 = 16 * (hV H1 346 (n0).toNat) := Eq.trans f32 (w32_id (by omega) (by omega)); subst ix0; clear f32)
  | (unfold w32 at f32; have ix0 : n14 = 16 * (hV H1 346 (n0).toNat) := (by omega); subst ix0)
  | skip
  first
  | (have ix1 : n17 = (16 * (hV H1 346 (n0).toNat)) + hV H1 347 (n0).toNat := Eq.trans f38 (w32_iv (Iad (Iml 16 rfl (Iat f20 f19)) (Iat f13 f12)) (by decide)); subst ix1; clear f38)
  | (have ix1 : n17 = (16 * (hV H1 346 (n0).toNat)) + hV H1 347 (n0).toNat := Eq.trans f38 (w32_id (by omega) (by omega)); subst ix1; clear f38)
  | (unfold w32 at f38; have ix1 : n17 = (16 * (hV H1 346 (n0).toNat)) + hV H1 347 (n0).toNat := (by omega); subst ix1)
  | skip
  first
  | (have ix2 : n21 = hV H1 347 (n0).toNat + 1 := Eq.trans f45 (w32_iv (Iad (Iat f13 f12) (IC 1)) (by decide)); subst ix2; clear f45)
  | (have ix2 : n21 = hV H1 347 (n0).toNat + 1 := Eq.trans f45 (w32_id (by omega) (by omega)); subst ix2; clear f45)
  | (unfold w32 at f45; have ix2 : n21 = hV H1 347 (n0).toNat + 1 := (by omega); subst ix2)
  | skip
  first
  | (have ix3 : n27 = n0 + 1 := Eq.trans f57 (w32_iv (Iad (Iat f1 f0) (IC 1)) (by decide)); subst ix3; clear f57)
  | (have ix3 : n27 = n0 + 1 := Eq.trans f57 (w32_id (by omega) (by omega)); subst ix3; clear f57)
  | (unfold w32 at f57; have ix3 : n27 = n0 + 1 := (by omega); subst ix3)
  | skip
  first
  | (have ix4 : n37 = n0 + 1 := Eq.trans f80 (w32_iv (Iad (Iat f1 f0) (IC 1)) (by decide)); subst ix4; clear f80)
  | (have ix4 : n37 = n0 + 1 := Eq.trans f80 (w32_id (by omega) (by omega)); subst ix4; clear f80)
  | (unfold w32 at f80; have ix4 : n37 = n0 + 1 := (by omega); subst ix4)
  | skip
  first
  | (have ix5 : n39 = 7 * n1 := Eq.trans f82 (w32_iv (Iml 7 rfl (Iat f3 f2)) (by decide)); subst ix5; clear f82)
  | (have ix5 : n39 = 7 * n1 := Eq.trans f82 (w32_id (by omega) (by omega)); subst ix5; clear f82)
  | (unfold w32 at f82; have ix5 : n39 = 7 * n1 := (by omega); subst ix5)
  | skip
  first
  | (have ix6 : n42 = (7 * n1) + hV H0 300 (((16 * (hV H1 346 (n0).toNat)) + hV H1 347 (n0).toNat)).toNat := Eq.trans f88 (w32_iv (Iad (Iml 7 rfl (Iat f3 f2)) (Iat f86 f85)) (by decide)); subst ix6; clear f88)
  | (have ix6 : n42 = (7 * n1) + hV H0 300 (((16 * (hV H1 346 (n0).toNat)) + hV H1 347 (n0).toNat)).toNat := Eq.trans f88 (w32_id (by omega) (by omega)); subst ix6; clear f88)
  | (unfold w32 at f88; have ix6 : n42 = (7 * n1) + hV H0 300 (((16 * (hV H1 346 (n0).toNat)) + hV H1 347 (n0).toNat)).toNat := (by omega); subst ix6)
  | skip
  first
  | (have ix7 : n46 = n0 + 1 := Eq.trans f94 (w32_iv (Iad (Iat f1 f0) (IC 1)) (by decide)); subst ix7; clear f94)
  | (have ix7 : n46 = n0 + 1 := Eq.trans f94 (w32_id (by omega) (by omega)); subst ix7; clear f94)
  | (unfold w32 at f94; have ix7 : n46 = n0 + 1 := (by omega); subst ix7)
  | skip
  try unfold w32 at f32
  try unfold w32 at f38
  try unfold w32 at f45
  try unfold w32 at f57
  try unfold w32 at f80
  try unfold w32 at f82
  try unfold w32 at f88
  try unfold w32 at f93
  try unfold w32 at f94

  first
  | omega
  | (have ca := cue_at (p1 (n3).toNat (by omega)) y0 (by omega) (by omega) (c := (16 * hV H1 346 (n0).toNat + hV H1 347 (n0).toNat)) (by omega)
     omega)
  | (have ua := use_at (p1 (n3).toNat (by omega)) y0 (by omega) (by omega) (c := (16 * hV H1 346 (n0).toNat + hV H1 347 (n0).toNat)) (by omega) (by omega)
     omega)
  | (have ul := ULp_lay y2 (p1 (n3).toNat (by omega)) y0 (by omega) (by omega) (by omega) (c := (16 * hV H1 346 (n0).toNat + hV H1 347 (n0).toNat)) (by omega) (by omega)
     omega)
theorem c_270_34_16 {q0 : Nat} : vOkm T0 (eP e_270 L_270 A_270 mu_270 (some q0)) 2 ([(10, [47, 4], [], 1), (1, [45, 4, 44], [], 0), (0, [44], [], 1), (20, [43, 2], [5], 86), (0, [43], [], 347), (80, [35, 37, 42], [5, 4], 0), (1, [42, 39, 41], [], 0), (22, [41, 40, 17], [4], 0), (90, [41], [], -1), (91, [41], [], 9999), (20, [40, 2], [4], 26), (0, [40], [], 300), (3, [39, 38, 3], [], 0), (0, [38], [], 7), (1, [37, 4, 36], [], 0), (0, [36], [], 1), (20, [35, 2], [4], 85), (0, [35], [], 346), (80, [25, 27, 34], [4, 3], 0), (1269, [34, 2, 29, 31, 33], [2, 3], 0), (90, [34], [], -10999), (91, [34], [], 10999), (22, [33, 32, 4], [2], 0), (90, [33], [], -1000), (91, [33], [], 1000), (20, [32, 2], [2], 87), (0, [32], [], 348), (22, [31, 30, 17], [2], 0), (90, [31], [], -9999), (91, [31], [], 9999), (20, [30, 2], [2], 28), (0, [30], [], 302), (22, [29, 28, 17], [2], 0), (90, [29], [], -1), (91, [29], [], 9999), (20, [28, 2], [2], 27), (0, [28], [], 301), (1, [27, 4, 26], [], 0), (0, [26], [], 1), (20, [25, 2], [2], 87), (0, [25], [], 348), (40, [23, 24], [], 0), (0, [24], [], 5), (22, [23, 22, 17], [2], 0), (90, [23], [], 0), (91, [23], [], 5), (20, [22, 2], [2], 24), (0, [22], [], 298), (80, [18, 4, 21], [2, 1], 0), (1, [21, 19, 20], [], 0), (0, [20], [], 1), (22, [19, 18, 4], [1], 0), (90, [19], [], 0), (91, [19], [], 16), (20, [18, 2], [1], 86), (0, [18], [], 347), (1, [17, 14, 16], [], 0), (22, [16, 15, 4], [1], 0), (90, [16], [], 0), (91, [16], [], 16), (20, [15, 2], [1], 86), (0, [15], [], 347), (3, [14, 11, 13], [], 0), (22, [13, 12, 4], [1], 0), (90, [13], [], 0), (91, [13], [], 62), (20, [12, 2], [1], 85), (0, [12], [], 346), (0, [11], [], 16), (41, [6, 10], [], 0), (22, [10, 7, 9], [1], 0), (90, [10], [], 0), (91, [10], [], 16), (22, [9, 8, 4], [1], 0), (90, [9], [], 0), (91, [9], [], 62), (20, [8, 2], [1], 85), (0, [8], [], 346), (20, [7, 2], [1], 22), (0, [7], [], 296), (22, [6, 5, 4], [1], 0), (90, [6], [], 0), (91, [6], [], 16), (20, [5, 2], [1], 86), (0, [5], [], 347), (33, [4], [], 0), (5000, [0, 1, 2, 3, 4], [0, 1], 34), (0, [0], [], 285), (90, [1], [], 0), (91, [1], [], 7), (0, [2], [], 285), (90, [3], [], 0), (91, [3], [], 7), (90, [4], [], -1), (91, [4], [], 6)], (91, [47], [], 6)) := vOk_inI fun ρ η f0 f1 f2 f3 f4 f5 f6 f7 f8 f9 f10 f11 f12 f13 f14 f15 f16 f17 f18 f19 f20 f21 f22 f23 f24 f25 f26 f27 f28 f29 f30 f31 f32 f33 f34 f35 f36 f37 f38 f39 f40 f41 f42 f43 f44 f45 f46 f47 f48 f49 f50 f51 f52 f53 f54 f55 f56 f57 f58 f59 f60 f61 f62 f63 f64 f65 f66 f67 f68 f69 f70 f71 f72 f73 f74 f75 f76 f77 f78 f79 f80 f81 f82 f83 f84 f85 f86 f87 f88 f89 f90 f91 f92 f93 f94 => q_270_19 (q0 := q0) (n0 := ρ 4) (n1 := ρ 3) (n2 := ρ 2) (n3 := ρ 1) (n4 := ρ 0) (n5 := ρ 5) (n6 := ρ 6) (n7 := ρ 7) (n8 := ρ 8) (n9 := ρ 9) (n10 := ρ 10) (n11 := ρ 11) (n12 := ρ 12) (n13 := ρ 13) (n14 := ρ 14) (n15 := ρ 15) (n16 := ρ 16) (n17 := ρ 17) (n18 := ρ 18) (n19 := ρ 19) (n20 := ρ 20) (n21 := ρ 21) (n22 := ρ 22) (n23 := ρ 23) (n24 := ρ 24) (n25 := ρ 25) (n26 := ρ 26) (n27 := ρ 27) (n28 := ρ 28) (n29 := ρ 29) (n30 := ρ 30) (n31 := ρ 31) (n32 := ρ 32) (n33 := ρ 33) (n34 := ρ 34) (n35 := ρ 35) (n36 := ρ 36) (n37 := ρ 37) (n38 := ρ 38) (n39 := ρ 39) (n40 := ρ 40) (n41 := ρ 41) (n42 := ρ 42) (n43 := ρ 43) (n44 := ρ 44) (n45 := ρ 45) (n46 := ρ 47) (H0 := η 0) (H1 := η 1) (H2 := η 2) (H3 := η 3) (H4 := η 4) (H5 := η 5) f94 f93 f92 f91 f90 f89 f88 f87 f86 f85 f84 f83 f82 f81 f80 f79 f78 f77 f76 f75 f74 f73 f72 f71 f70 f69 f68 f67 f66 f65 f64 f63 f62 f61 f60 f59 f58 f57 f56 f55 f54 f53 f52 f51 f50 f49 f48 f47 f46 f45 f44 f43 f42 f41 f40 f39 f38 f37 f36 f35 f34 f33 f32 f31 f30 f29 f28 f27 f26 f25 f24 f23 f22 f21 f20 f19 f18 f17 f16 f15 f14 f13 f12 f11 f10 f9 f8 f7 f6 f5 f4 f3 f2 f1 f0
theorem kR_269_294 : vFreeR s_269.2.2.2.2 294 = true := by decide +kernel
theorem kR_269_296 : vFreeR s_269.2.2.2.2 296 = true := by decide +kernel
theorem kR_269_298 : vFreeR s_269.2.2.2.2 298 = true := by decide +kernel
theorem kR_269_344 : vFreeR s_269.2.2.2.2 344 = true := by decide +kernel
theorem kR_269_346 : vFreeR s_269.2.2.2.2 346 = true := by decide +kernel
theorem kR_269_347 : vFreeR s_269.2.2.2.2 347 = true := by decide +kernel
theorem kR_269_348 : vFreeR s_269.2.2.2.2 348 = true := by decide +kernel
theorem kF_269_285_82 : vFree s_269.2.2.2.2 285 82 = true := by decide +kernel
theorem q_270_20 {q0 : Nat} {n0 n1 n2 n3 n4 n5 n6 n7 n8 n9 n10 n11 n12 n13 n14 n15 n16 n17 n18 n19 n20 n21 n22 n23 n24 n25 n26 n27 n28 n29 n30 n31 n32 n33 n34 n35 n36 n37 n38 n39 n40 n41 n42 n43 n44 n45 n46 n47 : Int} {H0 H1 H2 H3 H4 H5 H6 : gH} (f0 : n0 ≤ 6) (f1 : (-1) ≤ n0) (f2 : n1 ≤ 7) (f3 : 0 ≤ n1) (f4 : n2 = 285) (f5 : n3 ≤ 7) (f6 : 0 ≤ n3) (f7 : n4 = 285) (f8 : (hLe T0 H0 H1 ∧ hFr s_270.2.2.2.2 H0 H1 ∧ hWt T0 H1) ∧ (Ab_270_34 n4 n3 n2 n1 n0 H0 H1 ∧ preb_270 n4 n3 H0) ∧ some q0 = some (mub_270_34 n4 n3 n2 n1 n0 H0 H1)) (f9 : 0 ≤ n0) (f10 : n5 = 347) (f11 : n5 = hV H1 (n2).toNat 86) (f12 : n6 ≤ 16) (f13 : 0 ≤ n6) (f14 : n6 = hV H1 (n5).toNat (n0).toNat) (f15 : n7 = 296) (f16 : n7 = hV H1 (n2).toNat 22) (f17 : n8 = 346) (f18 : n8 = hV H1 (n2).toNat 85) (f19 : n9 ≤ 62) (f20 : 0 ≤ n9) (f21 : n9 = hV H1 (n8).toNat (n0).toNat) (f22 : n10 ≤ 16) (f23 : 0 ≤ n10) (f24 : n10 = hV H1 (n7).toNat (n9).toNat) (f25 : n6 ≠ n10) (f26 : n11 = 16) (f27 : n12 = 346) (f28 : n12 = hV H1 (n2).toNat 85) (f29 : n13 ≤ 62) (f30 : 0 ≤ n13) (f31 : n13 = hV H1 (n12).toNat (n0).toNat) (f32 : n14 = w32 (n11 * n13)) (f33 : n15 = 347) (f34 : n15 = hV H1 (n2).toNat 86) (f35 : n16 ≤ 16) (f36 : 0 ≤ n16) (f37 : n16 = hV H1 (n15).toNat (n0).toNat) (f38 : n17 = w32 (n14 + n16)) (f39 : n18 = 347) (f40 : n18 = hV H1 (n2).toNat 86) (f41 : n19 ≤ 16) (f42 : 0 ≤ n19) (f43 : n19 = hV H1 (n18).toNat (n0).toNat) (f44 : n20 = 1) (f45 : n21 = w32 (n19 + n20)) (f46 : hUpd H2 H1 n18 n0 n21) (f47 : n22 = 298) (f48 : n22 = hV H2 (n2).toNat 24) (f49 : n23 ≤ 5) (f50 : 0 ≤ n23) (f51 : n23 = hV H2 (n22).toNat (n17).toNat) (f52 : n24 = 5) (f53 : n23 = n24) (f54 : n25 = 348) (f55 : n25 = hV H2 (n2).toNat 87) (f56 : n26 = 1) (f57 : n27 = w32 (n0 + n26)) (f58 : n28 = 301) (f59 : n28 = hV H2 (n2).toNat 27) (f60 : n29 ≤ 9999) (f61 : (-1) ≤ n29) (f62 : n29 = hV H2 (n28).toNat (n17).toNat) (f63 : n30 = 302) (f64 : n30 = hV H2 (n2).toNat 28) (f65 : n31 ≤ 9999) (f66 : (-9999) ≤ n31) (f67 : n31 = hV H2 (n30).toNat (n17).toNat) (f68 : n32 = 348) (f69 : n32 = hV H2 (n2).toNat 87) (f70 : n33 ≤ 1000) (f71 : (-1000) ≤ n33) (f72 : n33 = hV H2 (n32).toNat (n0).toNat) (f73 : n34 ≤ 10999) (f74 : (-10999) ≤ n34) (f75 : (hLe T0 H2 H3 ∧ hFr s_269.2.2.2.2 H2 H3 ∧ ((0 : Int) = 0 → H3.length = H2.length) ∧ hWt T0 H3) ∧ postb_269 n34 n2 n29 n31 n33 H2 H3) (f76 : hUpd H4 H3 n25 n27 n34) (f77 : n35 = 346) (f78 : n35 = hV H4 (n2).toNat 85) (f79 : n36 = 1) (f80 : n37 = w32 (n0 + n36)) (f81 : n38 = 7) (f82 : n39 = w32 (n38 * n1)) (f83 : n40 = 300) (f84 : n40 = hV H4 (n2).toNat 26) (f85 : n41 ≤ 9999) (f86 : (-1) ≤ n41) (f87 : n41 = hV H4 (n40).toNat (n17).toNat) (f88 : n42 = w32 (n39 + n41)) (f89 : hUpd H5 H4 n35 n37 n42) (f90 : n43 = 347) (f91 : n43 = hV H5 (n2).toNat 86) (f92 : n44 = 1) (f93 : n45 = w32 (n0 + n44)) (f94 : n46 = 0) (f95 : hUpd H6 H5 n43 n45 n46) (f96 : n47 = w32 (n0 + 1)) : Ab_270_34 n4 n3 n2 n1 n47 H0 H6 ∧ ∀ q, some q0 = some q → mub_270_34 n4 n3 n2 n1 n47 H0 H6 < q := by
  have g4 := f8.2.1.1
  unfold Ab_270_34 at g4
  have g3 := f8.2.1.2
  unfold preb_270 at g3
  have g5 := Option.some.inj f8.2.2
  unfold mub_270_34 at g5
  unfold postb_269 at f75
  unfold Ab_270_34
  unfold mub_270_34
  have e0 : n6 = hV H1 347 (n0).toNat := (by rw [f10] at f14; exact f14 : n6 = hV H1 347 (n0).toNat)
  have e1 : n9 = hV H1 346 (n0).toNat := (by rw [f17] at f21; exact f21 : n9 = hV H1 346 (n0).toNat)
  have e2 : hV H1 296 = hV H0 296 := fRow f8.1.2.1 296 kR_270_296
  have e3 : n10 = hV H0 296 (n9).toNat := (by rw [f15] at f24; exact f24 : n10 = hV H1 296 (n9).toNat).trans ((congrFun e2 _))
  have e4 : n13 = hV H1 346 (n0).toNat := (by rw [f27] at f31; exact f31 : n13 = hV H1 346 (n0).toNat)
  have e5 : n16 = hV H1 347 (n0).toNat := (by rw [f33] at f37; exact f37 : n16 = hV H1 347 (n0).toNat)
  have e6 : n19 = hV H1 347 (n0).toNat := (by rw [f39] at f43; exact f43 : n19 = hV H1 347 (n0).toNat)
  have e8 : hV H1 298 = hV H0 298 := fRow f8.1.2.1 298 kR_270_298
  have e9 : n23 = hV H0 298 (n17).toNat := (by rw [f47] at f51; exact f51 : n23 = hV H2 298 (n17).toNat).trans (((congrFun (uRowNe f46 298 (iS (show n18 = ((347 : Nat) : Int) from f39) rfl)) _)).trans ((congrFun e8 _)))
  have e12 : n29 = hV H0 301 (n17).toNat := (by rw [f58] at f62; exact f62 : n29 = hV H2 301 (n17).toNat).trans (((congrFun (uRowNe f46 301 (iS (show n18 = ((347 : Nat) : Int) from f39) rfl)) _)).trans ((congrFun (fRow f8.1.2.1 301 kR_270_301) _)))
  have e15 : n31 = hV H0 302 (n17).toNat := (by rw [f63] at f67; exact f67 : n31 = hV H2 302 (n17).toNat).trans (((congrFun (uRowNe f46 302 (iS (show n18 = ((347 : Nat) : Int) from f39) rfl)) _)).trans ((congrFun (fRow f8.1.2.1 302 kR_270_302) _)))
  have e17 : n33 = hV H1 348 (n0).toNat := (by rw [f68] at f72; exact f72 : n33 = hV H2 348 (n0).toNat).trans ((congrFun (uRowNe f46 348 (iS (show n18 = ((347 : Nat) : Int) from f39) rfl)) _))
  have e21 : hV H1 300 = hV H0 300 := fRow f8.1.2.1 300 kR_270_300
  have e22 : n41 = hV H0 300 (n17).toNat := (by rw [f83] at f87; exact f87 : n41 = hV H4 300 (n17).toNat).trans (((congrFun (uRowNe f76 300 (iS (show n25 = ((348 : Nat) : Int) from f54) rfl)) _)).trans (((congrFun (fRow f75.1.2.1 300 kR_269_300) _)).trans (((congrFun (uRowNe f46 300 (iS (show n18 = ((347 : Nat) : Int) from f39) rfl)) _)).trans ((congrFun e21 _)))))
  have e25 : hV H1 294 = hV H0 294 := fRow f8.1.2.1 294 kR_270_294
  have e31 : hV H6 285 82 = hV H1 285 82 := ((uPlace f95 285 82 (iS (show n43 = ((347 : Nat) : Int) from f90) rfl))).trans (((uPlace f89 285 82 (iS (show n35 = ((346 : Nat) : Int) from f77) rfl))).trans (((uPlace f76 285 82 (iS (show n25 = ((348 : Nat) : Int) from f54) rfl))).trans (((f75.1.2.1.1 285 82 kF_269_285_82)).trans (uPlace f46 285 82 (iS (show n18 = ((347 : Nat) : Int) from f39) rfl)))))
  have e41 : hV H6 294 = hV H0 294 := (uRowNe f95 294 (iS (show n43 = ((347 : Nat) : Int) from f90) rfl)).trans ((uRowNe f89 294 (iS (show n35 = ((346 : Nat) : Int) from f77) rfl)).trans ((uRowNe f76 294 (iS (show n25 = ((348 : Nat) : Int) from f54) rfl)).trans ((fRow f75.1.2.1 294 kR_269_294).trans ((uRowNe f46 294 (iS (show n18 = ((347 : Nat) : Int) from f39) rfl)).trans e25))))
  have e51 : hV H6 296 = hV H0 296 := (uRowNe f95 296 (iS (show n43 = ((347 : Nat) : Int) from f90) rfl)).trans ((uRowNe f89 296 (iS (show n35 = ((346 : Nat) : Int) from f77) rfl)).trans ((uRowNe f76 296 (iS (show n25 = ((348 : Nat) : Int) from f54) rfl)).trans ((fRow f75.1.2.1 296 kR_269_296).trans ((uRowNe f46 296 (iS (show n18 = ((347 : Nat) : Int) from f39) rfl)).trans e2))))
  have e60 : hV H6 298 = hV H0 298 := (uRowNe f95 298 (iS (show n43 = ((347 : Nat) : Int) from f90) rfl)).trans ((uRowNe f89 298 (iS (show n35 = ((346 : Nat) : Int) from f77) rfl)).trans ((uRowNe f76 298 (iS (show n25 = ((348 : Nat) : Int) from f54) rfl)).trans ((fRow f75.1.2.1 298 kR_269_298).trans ((uRowNe f46 298 (iS (show n18 = ((347 : Nat) : Int) from f39) rfl)).trans e8))))
  have e67 : hV H6 300 = hV H0 300 := (uRowNe f95 300 (iS (show n43 = ((347 : Nat) : Int) from f90) rfl)).trans ((uRowNe f89 300 (iS (show n35 = ((346 : Nat) : Int) from f77) rfl)).trans ((uRowNe f76 300 (iS (show n25 = ((348 : Nat) : Int) from f54) rfl)).trans ((fRow f75.1.2.1 300 kR_269_300).trans ((uRowNe f46 300 (iS (show n18 = ((347 : Nat) : Int) from f39) rfl)).trans e21))))
  have e76 : hV H6 344 = hV H1 344 := (uRowNe f95 344 (iS (show n43 = ((347 : Nat) : Int) from f90) rfl)).trans ((uRowNe f89 344 (iS (show n35 = ((346 : Nat) : Int) from f77) rfl)).trans ((uRowNe f76 344 (iS (show n25 = ((348 : Nat) : Int) from f54) rfl)).trans ((fRow f75.1.2.1 344 kR_269_344).trans (uRowNe f46 344 (iS (show n18 = ((347 : Nat) : Int) from f39) rfl)))))
  have e85 : hV H6 346 = (uF (hV H1 346) n37 n42) := (uRowNe f95 346 (iS (show n43 = ((347 : Nat) : Int) from f90) rfl)).trans ((uRow f89 346 f77.symm).trans (congrArg (fun z => uF z n37 n42) ((uRowNe f76 346 (iS (show n25 = ((348 : Nat) : Int) from f54) rfl)).trans ((fRow f75.1.2.1 346 kR_269_346).trans (uRowNe f46 346 (iS (show n18 = ((347 : Nat) : Int) from f39) rfl))))))
  have e94 : hV H6 347 = (uF (uF (hV H1 347) n0 n21) n45 n46) := (uRow f95 347 f90.symm).trans (congrArg (fun z => uF z n45 n46) ((uRowNe f89 347 (iS (show n35 = ((346 : Nat) : Int) from f77) rfl)).trans ((uRowNe f76 347 (iS (show n25 = ((348 : Nat) : Int) from f54) rfl)).trans ((fRow f75.1.2.1 347 kR_269_347).trans (uRow f46 347 f39.symm)))))
  have e102 : hV H6 348 = (uF (hV H1 348) n27 n34) := (uRowNe f95 348 (iS (show n43 = ((347 : Nat) : Int) from f90) rfl)).trans ((uRowNe f89 348 (iS (show n35 = ((346 : Nat) : Int) from f77) rfl)).trans ((uRow f76 348 f54.symm).trans (congrArg (fun z => uF z n27 n34) ((fRow f75.1.2.1 348 kR_269_348).trans (uRowNe f46 348 (iS (show n18 = ((347 : Nat) : Int) from f39) rfl))))))
  have e103 : (0 : Int) ≤ hV H0 285 18 ∧ hV H0 285 18 ≤ 8 := bTo ((f8.1.2.1.1 285 18 kF_270_285_18)) (f8.1.2.2 285 18 _ _ kW_285_18)
  have e104 : (0 : Int) ≤ hV H1 285 82 ∧ hV H1 285 82 ≤ 40 := f8.1.2.2 285 82 _ _ kW_285_82
  try simp only [e25, e2, e8, e21] at g4
  try simp only [e2] at g5
  try simp only [e31, e41, e51, e60, e67, e76, e85, e94, e102]
  have k0 := g4.1
  have y0 := g4.2.1
  have y1 := g4.2.2.1
  have y2 := g4.2.2.2
  have p0 := g3.1
  have p1 := g3.2
  have r0_0 := f75.2
  clear g3
  clear g4
  clear f11 f14 f16 f18 f21 f24 f28 f31 f34 f37 f40 f43 f48 f51 f55 f59 f62 f64 f67 f69 f72 f78 f84 f87 f91 e2 e8 e21 e25 e31 e41 e51 e60 e67 e76 e85 e94 e102
  subst e0
  subst e1
  subst e3
  subst e4
  subst e5
  subst e6
  subst e9
  subst e12
  subst e15
  subst e17
  subst e22
  rw [f26] at f32
  rw [f81] at f82
  try have ca := cue_at (p1 (n3).toNat (by omega)) y0 (by omega) (by omega) (c := (16 * hV H1 346 (n0).toNat + hV H1 347 (n0).toNat)) (by omega)
  try have sh := y1 (n0).toNat (by omega)
  try have lv := y0 (n0).toNat (by omega)
  first
  | (have ix0 : n14 = 16 * (hV H1 346 (n0).toNat) := Eq.trans f32 (w32_iv (Iml 16 rfl (Iat f20 f19)) (by decide)); subst ix0; clear f32)
  | (have ix0 : n14 = 16 * (hV H1 346 (n0).toNat) := Eq.trans f32 (w32_id (by omega) (by omega)); subst ix0; clear f32)
  | (unfold w32 at f32; have ix0 : n14 = 16 * (hV H1 346 (n0).toNat) := (by omega); subst ix0)
  | skip
  first
  | (have ix1 : n17 = (16 * (hV H1 346 (n0).toNat)) + hV H1 347 (n0).toNat := Eq.trans f38 (w32_iv (Iad (Iml 16 rfl (Iat f20 f19)) (Iat f13 f12)) (by decide)); subst ix1; clear f38)
  | (have ix1 : n17 = (16 * (hV H1 346 (n0).toNat)) + hV H1 347 (n0).toNat := Eq.trans f38 (w32_id (by omega) (by omega)); subst ix1; clear f38)
  | (unfold w32 at f38; have ix1 : n17 = (16 * (hV H1 346 (n0).toNat)) + hV H1 347 (n0).toNat := (by omega); subst ix1)
  | skip
  first
  | (have ix2 : n21 = hV H1 347 (n0).toNat + 1 := Eq.trans f45 (w32_iv (Iad (Iat f13 f12) (IC 1)) (by decide)); subst ix2; clear f45)
  | (have ix2 : n21 = hV H1 347 (n0).toNat + 1 := Eq.trans f45 (w32_id (by omega) (by omega)); subst ix2; clear f45)
  | (unfold w32 at f45; have ix2 : n21 = hV H1 347 (n0).toNat + 1 := (by omega); subst ix2)
  | skip
  first
  | (have ix3 : n27 = n0 + 1 := Eq.trans f57 (w32_iv (Iad (Iat f1 f0) (IC 1)) (by decide)); subst ix3; clear f57)
  | (have ix3 : n27 = n0 + 1 := Eq.trans f57 (w32_id (by omega) (by omega)); subst ix3; clear f57)
  | (unfold w32 at f57; have ix3 : n27 = n0 + 1 := (by omega); subst ix3)
  | skip
  first
  | (have ix4 : n37 = n0 + 1 := Eq.trans f80 (w32_iv (Iad (Iat f1 f0) (IC 1)) (by decide)); subst ix4; clear f80)
  | (have ix4 : n37 = n0 + 1 := Eq.trans f80 (w32_id (by omega) (by omega)); subst ix4; clear f80)
  | (unfold w32 at f80; have ix4 : n37 = n0 + 1 := (by omega); subst ix4)
  | skip
  first
  | (have ix5 : n39 = 7 * n1 := Eq.trans f82 (w32_iv (Iml 7 rfl (Iat f3 f2)) (by decide)); subst ix5; clear f82)
  | (have ix5 : n39 = 7 * n1 := Eq.trans f82 (w32_id (by omega) (by omega)); subst ix5; clear f82)
  | (unfold w32 at f82; have ix5 : n39 = 7 * n1 := (by omega); subst ix5)
  | skip
  first
  | (have ix6 : n42 = (7 * n1) + hV H0 300 (((16 * (hV H1 346 (n0).toNat)) + hV H1 347 (n0).toNat)).toNat := Eq.trans f88 (w32_iv (Iad (Iml 7 rfl (Iat f3 f2)) (Iat f86 f85)) (by decide)); subst ix6; clear f88)
  | (have ix6 : n42 = (7 * n1) + hV H0 300 (((16 * (hV H1 346 (n0).toNat)) + hV H1 347 (n0).toNat)).toNat := Eq.trans f88 (w32_id (by omega) (by omega)); subst ix6; clear f88)
  | (unfold w32 at f88; have ix6 : n42 = (7 * n1) + hV H0 300 (((16 * (hV H1 346 (n0).toNat)) + hV H1 347 (n0).toNat)).toNat := (by omega); subst ix6)
  | skip
  first
  | (have ix7 : n45 = n0 + 1 := Eq.trans f93 (w32_iv (Iad (Iat f1 f0) (IC 1)) (by decide)); subst ix7; clear f93)
  | (have ix7 : n45 = n0 + 1 := Eq.trans f93 (w32_id (by omega) (by omega)); subst ix7; clear f93)
  | (unfold w32 at f93; have ix7 : n45 = n0 + 1 := (by omega); subst ix7)
  | skip
  first
  | (have ix8 : n47 = n0 + 1 := Eq.trans f96 (w32_iv (Iad (Iat f1 f0) (IC 1)) (by decide)); subst ix8; clear f96)
  | (have ix8 : n47 = n0 + 1 := Eq.trans f96 (w32_id (by omega) (by omega)); subst ix8; clear f96)
  | (unfold w32 at f96; have ix8 : n47 = n0 + 1 := (by omega); subst ix8)
  | skip
  try unfold w32 at f32
  try unfold w32 at f38
  try unfold w32 at f45
  try unfold w32 at f57
  try unfold w32 at f80
  try unfold w32 at f82
  try unfold w32 at f88
  try unfold w32 at f93
  try unfold w32 at f96

  have ua := use_at (p1 (n3).toNat (by omega)) y0 (by omega) (by omega) (c := (16 * hV H1 346 (n0).toNat + hV H1 347 (n0).toNat)) (by omega) (by omega)
  have uu := ULp_use y2 (p1 (n3).toNat (by omega)) y0 (by omega) (by omega) (c := (16 * hV H1 346 (n0).toNat + hV H1 347 (n0).toNat)) (by omega) (by omega)
  refine ⟨?_, fun q hq => ?_⟩
  · exact ⟨by first | omega | trivial, LVp_use (LVp_next y0 (by omega) (by omega) (by omega) (by omega)) (by omega) (by omega) (by omega) (by omega) (by omega) (hV H0 300 (16 * hV H1 346 (n0).toNat + hV H1 347 (n0).toNat).toNat) (by omega) (by omega) (by omega) (by omega) (by omega), SHp_use y1 (by omega) (by omega) (by omega) (by omega) (by omega), uu _ _ _ _ _ _ _ (by omega) (by omega) (by omega) (by omega) (by omega) (by omega) (by omega)⟩
  · have g6 := Option.some.inj hq
    subst g6
    rw [g5]
    exact MS_lt_use (cw := fun _ => 0) y0 (by omega) (by omega) (k := _) ua.1 ua.2.2.1 ua.2.2.2.2.2.2.2.2 (by omega) (by omega) (by omega) (by omega) (by omega) (by omega) (by omega)
theorem c_270_34_17 {q0 : Nat} : vOkm T0 (eP e_270 L_270 A_270 mu_270 (some q0)) 2 ([(10, [47, 4], [], 1), (80, [43, 45, 46], [6, 5], 0), (0, [46], [], 0), (1, [45, 4, 44], [], 0), (0, [44], [], 1), (20, [43, 2], [5], 86), (0, [43], [], 347), (80, [35, 37, 42], [5, 4], 0), (1, [42, 39, 41], [], 0), (22, [41, 40, 17], [4], 0), (90, [41], [], -1), (91, [41], [], 9999), (20, [40, 2], [4], 26), (0, [40], [], 300), (3, [39, 38, 3], [], 0), (0, [38], [], 7), (1, [37, 4, 36], [], 0), (0, [36], [], 1), (20, [35, 2], [4], 85), (0, [35], [], 346), (80, [25, 27, 34], [4, 3], 0), (1269, [34, 2, 29, 31, 33], [2, 3], 0), (90, [34], [], -10999), (91, [34], [], 10999), (22, [33, 32, 4], [2], 0), (90, [33], [], -1000), (91, [33], [], 1000), (20, [32, 2], [2], 87), (0, [32], [], 348), (22, [31, 30, 17], [2], 0), (90, [31], [], -9999), (91, [31], [], 9999), (20, [30, 2], [2], 28), (0, [30], [], 302), (22, [29, 28, 17], [2], 0), (90, [29], [], -1), (91, [29], [], 9999), (20, [28, 2], [2], 27), (0, [28], [], 301), (1, [27, 4, 26], [], 0), (0, [26], [], 1), (20, [25, 2], [2], 87), (0, [25], [], 348), (40, [23, 24], [], 0), (0, [24], [], 5), (22, [23, 22, 17], [2], 0), (90, [23], [], 0), (91, [23], [], 5), (20, [22, 2], [2], 24), (0, [22], [], 298), (80, [18, 4, 21], [2, 1], 0), (1, [21, 19, 20], [], 0), (0, [20], [], 1), (22, [19, 18, 4], [1], 0), (90, [19], [], 0), (91, [19], [], 16), (20, [18, 2], [1], 86), (0, [18], [], 347), (1, [17, 14, 16], [], 0), (22, [16, 15, 4], [1], 0), (90, [16], [], 0), (91, [16], [], 16), (20, [15, 2], [1], 86), (0, [15], [], 347), (3, [14, 11, 13], [], 0), (22, [13, 12, 4], [1], 0), (90, [13], [], 0), (91, [13], [], 62), (20, [12, 2], [1], 85), (0, [12], [], 346), (0, [11], [], 16), (41, [6, 10], [], 0), (22, [10, 7, 9], [1], 0), (90, [10], [], 0), (91, [10], [], 16), (22, [9, 8, 4], [1], 0), (90, [9], [], 0), (91, [9], [], 62), (20, [8, 2], [1], 85), (0, [8], [], 346), (20, [7, 2], [1], 22), (0, [7], [], 296), (22, [6, 5, 4], [1], 0), (90, [6], [], 0), (91, [6], [], 16), (20, [5, 2], [1], 86), (0, [5], [], 347), (33, [4], [], 0), (5000, [0, 1, 2, 3, 4], [0, 1], 34), (0, [0], [], 285), (90, [1], [], 0), (91, [1], [], 7), (0, [2], [], 285), (90, [3], [], 0), (91, [3], [], 7), (90, [4], [], -1), (91, [4], [], 6)], (4000, [2, 3, 47], [6], 34)) := vOk_inI fun ρ η f0 f1 f2 f3 f4 f5 f6 f7 f8 f9 f10 f11 f12 f13 f14 f15 f16 f17 f18 f19 f20 f21 f22 f23 f24 f25 f26 f27 f28 f29 f30 f31 f32 f33 f34 f35 f36 f37 f38 f39 f40 f41 f42 f43 f44 f45 f46 f47 f48 f49 f50 f51 f52 f53 f54 f55 f56 f57 f58 f59 f60 f61 f62 f63 f64 f65 f66 f67 f68 f69 f70 f71 f72 f73 f74 f75 f76 f77 f78 f79 f80 f81 f82 f83 f84 f85 f86 f87 f88 f89 f90 f91 f92 f93 f94 f95 f96 => q_270_20 (q0 := q0) (n0 := ρ 4) (n1 := ρ 3) (n2 := ρ 2) (n3 := ρ 1) (n4 := ρ 0) (n5 := ρ 5) (n6 := ρ 6) (n7 := ρ 7) (n8 := ρ 8) (n9 := ρ 9) (n10 := ρ 10) (n11 := ρ 11) (n12 := ρ 12) (n13 := ρ 13) (n14 := ρ 14) (n15 := ρ 15) (n16 := ρ 16) (n17 := ρ 17) (n18 := ρ 18) (n19 := ρ 19) (n20 := ρ 20) (n21 := ρ 21) (n22 := ρ 22) (n23 := ρ 23) (n24 := ρ 24) (n25 := ρ 25) (n26 := ρ 26) (n27 := ρ 27) (n28 := ρ 28) (n29 := ρ 29) (n30 := ρ 30) (n31 := ρ 31) (n32 := ρ 32) (n33 := ρ 33) (n34 := ρ 34) (n35 := ρ 35) (n36 := ρ 36) (n37 := ρ 37) (n38 := ρ 38) (n39 := ρ 39) (n40 := ρ 40) (n41 := ρ 41) (n42 := ρ 42) (n43 := ρ 43) (n44 := ρ 44) (n45 := ρ 45) (n46 := ρ 46) (n47 := ρ 47) (H0 := η 0) (H1 := η 1) (H2 := η 2) (H3 := η 3) (H4 := η 4) (H5 := η 5) (H6 := η 6) f96 f95 f94 f93 f92 f91 f90 f89 f88 f87 f86 f85 f84 f83 f82 f81 f80 f79 f78 f77 f76 f75 f74 f73 f72 f71 f70 f69 f68 f67 f66 f65 f64 f63 f62 f61 f60 f59 f58 f57 f56 f55 f54 f53 f52 f51 f50 f49 f48 f47 f46 f45 f44 f43 f42 f41 f40 f39 f38 f37 f36 f35 f34 f33 f32 f31 f30 f29 f28 f27 f26 f25 f24 f23 f22 f21 f20 f19 f18 f17 f16 f15 f14 f13 f12 f11 f10 f9 f8 f7 f6 f5 f4 f3 f2 f1 f0
theorem q_270_21 {q0 : Nat} {n0 n1 n2 n3 n4 n5 n6 n7 n8 n9 n10 n11 n12 n13 n14 n15 n16 n17 n18 n19 n20 n21 n22 n23 n24 n25 : Int} {H0 H1 H2 : gH} (f0 : n0 ≤ 6) (f1 : (-1) ≤ n0) (f2 : n1 ≤ 7) (f3 : 0 ≤ n1) (f4 : n2 = 285) (f5 : n3 ≤ 7) (f6 : 0 ≤ n3) (f7 : n4 = 285) (f8 : (hLe T0 H0 H1 ∧ hFr s_270.2.2.2.2 H0 H1 ∧ hWt T0 H1) ∧ (Ab_270_34 n4 n3 n2 n1 n0 H0 H1 ∧ preb_270 n4 n3 H0) ∧ some q0 = some (mub_270_34 n4 n3 n2 n1 n0 H0 H1)) (f9 : 0 ≤ n0) (f10 : n5 = 347) (f11 : n5 = hV H1 (n2).toNat 86) (f12 : n6 ≤ 16) (f13 : 0 ≤ n6) (f14 : n6 = hV H1 (n5).toNat (n0).toNat) (f15 : n7 = 296) (f16 : n7 = hV H1 (n2).toNat 22) (f17 : n8 = 346) (f18 : n8 = hV H1 (n2).toNat 85) (f19 : n9 ≤ 62) (f20 : 0 ≤ n9) (f21 : n9 = hV H1 (n8).toNat (n0).toNat) (f22 : n10 ≤ 16) (f23 : 0 ≤ n10) (f24 : n10 = hV H1 (n7).toNat (n9).toNat) (f25 : n6 ≠ n10) (f26 : n11 = 16) (f27 : n12 = 346) (f28 : n12 = hV H1 (n2).toNat 85) (f29 : n13 ≤ 62) (f30 : 0 ≤ n13) (f31 : n13 = hV H1 (n12).toNat (n0).toNat) (f32 : n14 = w32 (n11 * n13)) (f33 : n15 = 347) (f34 : n15 = hV H1 (n2).toNat 86) (f35 : n16 ≤ 16) (f36 : 0 ≤ n16) (f37 : n16 = hV H1 (n15).toNat (n0).toNat) (f38 : n17 = w32 (n14 + n16)) (f39 : n18 = 347) (f40 : n18 = hV H1 (n2).toNat 86) (f41 : n19 ≤ 16) (f42 : 0 ≤ n19) (f43 : n19 = hV H1 (n18).toNat (n0).toNat) (f44 : n20 = 1) (f45 : n21 = w32 (n19 + n20)) (f46 : hUpd H2 H1 n18 n0 n21) (f47 : n22 = 298) (f48 : n22 = hV H2 (n2).toNat 24) (f49 : n23 ≤ 5) (f50 : 0 ≤ n23) (f51 : n23 = hV H2 (n22).toNat (n17).toNat) (f52 : n24 = 5) (f53 : n23 ≠ n24) (f54 : n25 ≤ 40) (f55 : 0 ≤ n25) (f56 : n25 = hV H2 (n2).toNat 82) : 0 ≤ n25 ∧ n25 < 40 := by
  have g4 := f8.2.1.1
  unfold Ab_270_34 at g4
  have g3 := f8.2.1.2
  unfold preb_270 at g3
  have e0 : n6 = hV H1 347 (n0).toNat := (by rw [f10] at f14; exact f14 : n6 = hV H1 347 (n0).toNat)
  have e1 : n9 = hV H1 346 (n0).toNat := (by rw [f17] at f21; exact f21 : n9 = hV H1 346 (n0).toNat)
  have e2 : hV H1 296 = hV H0 296 := fRow f8.1.2.1 296 kR_270_296
  have e3 : n10 = hV H0 296 (n9).toNat := (by rw [f15] at f24; exact f24 : n10 = hV H1 296 (n9).toNat).trans ((congrFun e2 _))
  have e4 : n13 = hV H1 346 (n0).toNat := (by rw [f27] at f31; exact f31 : n13 = hV H1 346 (n0).toNat)
  have e5 : n16 = hV H1 347 (n0).toNat := (by rw [f33] at f37; exact f37 : n16 = hV H1 347 (n0).toNat)
  have e6 : n19 = hV H1 347 (n0).toNat := (by rw [f39] at f43; exact f43 : n19 = hV H1 347 (n0).toNat)
  have e8 : hV H1 298 = hV H0 298 := fRow f8.1.2.1 298 kR_270_298
  have e9 : n23 = hV H0 298 (n17).toNat := (by rw [f47] at f51; exact f51 : n23 = hV H2 298 (n17).toNat).trans (((congrFun (uRowNe f46 298 (iS (show n18 = ((347 : Nat) : Int) from f39) rfl)) _)).trans ((congrFun e8 _)))
  have e11 : n25 = hV H1 285 82 := (by rw [f4] at f56; exact f56 : n25 = hV H2 285 82).trans ((uPlace f46 285 82 (iS (show n18 = ((347 : Nat) : Int) from f39) rfl)))
  have e14 : hV H1 294 = hV H0 294 := fRow f8.1.2.1 294 kR_270_294
  have e15 : hV H1 300 = hV H0 300 := fRow f8.1.2.1 300 kR_270_300
  have e16 : (0 : Int) ≤ hV H0 285 18 ∧ hV H0 285 18 ≤ 8 := bTo ((f8.1.2.1.1 285 18 kF_270_285_18)) (f8.1.2.2 285 18 _ _ kW_285_18)
  have e17 : (0 : Int) ≤ hV H1 285 82 ∧ hV H1 285 82 ≤ 40 := f8.1.2.2 285 82 _ _ kW_285_82
  try simp only [e14, e2, e8, e15] at g4
  have k0 := g4.1
  have y0 := g4.2.1
  have y1 := g4.2.2.1
  have y2 := g4.2.2.2
  have p0 := g3.1
  have p1 := g3.2
  clear g3
  clear g4
  clear f11 f14 f16 f18 f21 f24 f28 f31 f34 f37 f40 f43 f48 f51 f56 e2 e8 e14 e15
  subst e0
  subst e1
  subst e3
  subst e4
  subst e5
  subst e6
  subst e9
  subst e11
  rw [f26] at f32
  try have ca := cue_at (p1 (n3).toNat (by omega)) y0 (by omega) (by omega) (c := (16 * hV H1 346 (n0).toNat + hV H1 347 (n0).toNat)) (by omega)
  try have sh := y1 (n0).toNat (by omega)
  try have lv := y0 (n0).toNat (by omega)
  first
  | (have ix0 : n14 = 16 * (hV H1 346 (n0).toNat) := Eq.trans f32 (w32_iv (Iml 16 rfl (Iat f20 f19)) (by decide)); subst ix0; clear f32)
  | (have ix0 : n14 = 16 * (hV H1 346 (n0).toNat) := Eq.trans f32 (w32_id (by omega) (by omega)); subst ix0; clear f32)
  | (unfold w32 at f32; have ix0 : n14 = 16 * (hV H1 346 (n0).toNat) := (by omega); subst ix0)
  | skip
  first
  | (have ix1 : n17 = (16 * (hV H1 346 (n0).toNat)) + hV H1 347 (n0).toNat := Eq.trans f38 (w32_iv (Iad (Iml 16 rfl (Iat f20 f19)) (Iat f13 f12)) (by decide)); subst ix1; clear f38)
  | (have ix1 : n17 = (16 * (hV H1 346 (n0).toNat)) + hV H1 347 (n0).toNat := Eq.trans f38 (w32_id (by omega) (by omega)); subst ix1; clear f38)
  | (unfold w32 at f38; have ix1 : n17 = (16 * (hV H1 346 (n0).toNat)) + hV H1 347 (n0).toNat := (by omega); subst ix1)
  | skip
  first
  | (have ix2 : n21 = hV H1 347 (n0).toNat + 1 := Eq.trans f45 (w32_iv (Iad (Iat f13 f12) (IC 1)) (by decide)); subst ix2; clear f45)
  | (have ix2 : n21 = hV H1 347 (n0).toNat + 1 := Eq.trans f45 (w32_id (by omega) (by omega)); subst ix2; clear f45)
  | (unfold w32 at f45; have ix2 : n21 = hV H1 347 (n0).toNat + 1 := (by omega); subst ix2)
  | skip
  try unfold w32 at f32
  try unfold w32 at f38
  try unfold w32 at f45

  first
  | omega
  | (have ca := cue_at (p1 (n3).toNat (by omega)) y0 (by omega) (by omega) (c := (16 * hV H1 346 (n0).toNat + hV H1 347 (n0).toNat)) (by omega)
     omega)
  | (have ua := use_at (p1 (n3).toNat (by omega)) y0 (by omega) (by omega) (c := (16 * hV H1 346 (n0).toNat + hV H1 347 (n0).toNat)) (by omega) (by omega)
     omega)
  | (have ul := ULp_lay y2 (p1 (n3).toNat (by omega)) y0 (by omega) (by omega) (by omega) (c := (16 * hV H1 346 (n0).toNat + hV H1 347 (n0).toNat)) (by omega) (by omega)
     omega)
theorem c_270_34_18 {q0 : Nat} : vOkm T0 (eP e_270 L_270 A_270 mu_270 (some q0)) 2 ([(20, [26, 2], [2], 82), (90, [26], [], 0), (91, [26], [], 40), (41, [23, 24], [], 0), (0, [24], [], 5), (22, [23, 22, 17], [2], 0), (90, [23], [], 0), (91, [23], [], 5), (20, [22, 2], [2], 24), (0, [22], [], 298), (80, [18, 4, 21], [2, 1], 0), (1, [21, 19, 20], [], 0), (0, [20], [], 1), (22, [19, 18, 4], [1], 0), (90, [19], [], 0), (91, [19], [], 16), (20, [18, 2], [1], 86), (0, [18], [], 347), (1, [17, 14, 16], [], 0), (22, [16, 15, 4], [1], 0), (90, [16], [], 0), (91, [16], [], 16), (20, [15, 2], [1], 86), (0, [15], [], 347), (3, [14, 11, 13], [], 0), (22, [13, 12, 4], [1], 0), (90, [13], [], 0), (91, [13], [], 62), (20, [12, 2], [1], 85), (0, [12], [], 346), (0, [11], [], 16), (41, [6, 10], [], 0), (22, [10, 7, 9], [1], 0), (90, [10], [], 0), (91, [10], [], 16), (22, [9, 8, 4], [1], 0), (90, [9], [], 0), (91, [9], [], 62), (20, [8, 2], [1], 85), (0, [8], [], 346), (20, [7, 2], [1], 22), (0, [7], [], 296), (22, [6, 5, 4], [1], 0), (90, [6], [], 0), (91, [6], [], 16), (20, [5, 2], [1], 86), (0, [5], [], 347), (33, [4], [], 0), (5000, [0, 1, 2, 3, 4], [0, 1], 34), (0, [0], [], 285), (90, [1], [], 0), (91, [1], [], 7), (0, [2], [], 285), (90, [3], [], 0), (91, [3], [], 7), (90, [4], [], -1), (91, [4], [], 6)], (70, [26], [], 40)) := vOk_inI fun ρ η f0 f1 f2 f3 f4 f5 f6 f7 f8 f9 f10 f11 f12 f13 f14 f15 f16 f17 f18 f19 f20 f21 f22 f23 f24 f25 f26 f27 f28 f29 f30 f31 f32 f33 f34 f35 f36 f37 f38 f39 f40 f41 f42 f43 f44 f45 f46 f47 f48 f49 f50 f51 f52 f53 f54 f55 f56 => q_270_21 (q0 := q0) (n0 := ρ 4) (n1 := ρ 3) (n2 := ρ 2) (n3 := ρ 1) (n4 := ρ 0) (n5 := ρ 5) (n6 := ρ 6) (n7 := ρ 7) (n8 := ρ 8) (n9 := ρ 9) (n10 := ρ 10) (n11 := ρ 11) (n12 := ρ 12) (n13 := ρ 13) (n14 := ρ 14) (n15 := ρ 15) (n16 := ρ 16) (n17 := ρ 17) (n18 := ρ 18) (n19 := ρ 19) (n20 := ρ 20) (n21 := ρ 21) (n22 := ρ 22) (n23 := ρ 23) (n24 := ρ 24) (n25 := ρ 26) (H0 := η 0) (H1 := η 1) (H2 := η 2) f56 f55 f54 f53 f52 f51 f50 f49 f48 f47 f46 f45 f44 f43 f42 f41 f40 f39 f38 f37 f36 f35 f34 f33 f32 f31 f30 f29 f28 f27 f26 f25 f24 f23 f22 f21 f20 f19 f18 f17 f16 f15 f14 f13 f12 f11 f10 f9 f8 f7 f6 f5 f4 f3 f2 f1 f0
theorem q_270_22 {q0 : Nat} {n0 n1 n2 n3 n4 n5 n6 n7 n8 n9 n10 n11 n12 n13 n14 n15 n16 n17 n18 n19 n20 n21 n22 n23 n24 n25 : Int} {H0 H1 H2 : gH} (f0 : n0 ≤ 6) (f1 : (-1) ≤ n0) (f2 : n1 ≤ 7) (f3 : 0 ≤ n1) (f4 : n2 = 285) (f5 : n3 ≤ 7) (f6 : 0 ≤ n3) (f7 : n4 = 285) (f8 : (hLe T0 H0 H1 ∧ hFr s_270.2.2.2.2 H0 H1 ∧ hWt T0 H1) ∧ (Ab_270_34 n4 n3 n2 n1 n0 H0 H1 ∧ preb_270 n4 n3 H0) ∧ some q0 = some (mub_270_34 n4 n3 n2 n1 n0 H0 H1)) (f9 : 0 ≤ n0) (f10 : n5 = 347) (f11 : n5 = hV H1 (n2).toNat 86) (f12 : n6 ≤ 16) (f13 : 0 ≤ n6) (f14 : n6 = hV H1 (n5).toNat (n0).toNat) (f15 : n7 = 296) (f16 : n7 = hV H1 (n2).toNat 22) (f17 : n8 = 346) (f18 : n8 = hV H1 (n2).toNat 85) (f19 : n9 ≤ 62) (f20 : 0 ≤ n9) (f21 : n9 = hV H1 (n8).toNat (n0).toNat) (f22 : n10 ≤ 16) (f23 : 0 ≤ n10) (f24 : n10 = hV H1 (n7).toNat (n9).toNat) (f25 : n6 ≠ n10) (f26 : n11 = 16) (f27 : n12 = 346) (f28 : n12 = hV H1 (n2).toNat 85) (f29 : n13 ≤ 62) (f30 : 0 ≤ n13) (f31 : n13 = hV H1 (n12).toNat (n0).toNat) (f32 : n14 = w32 (n11 * n13)) (f33 : n15 = 347) (f34 : n15 = hV H1 (n2).toNat 86) (f35 : n16 ≤ 16) (f36 : 0 ≤ n16) (f37 : n16 = hV H1 (n15).toNat (n0).toNat) (f38 : n17 = w32 (n14 + n16)) (f39 : n18 = 347) (f40 : n18 = hV H1 (n2).toNat 86) (f41 : n19 ≤ 16) (f42 : 0 ≤ n19) (f43 : n19 = hV H1 (n18).toNat (n0).toNat) (f44 : n20 = 1) (f45 : n21 = w32 (n19 + n20)) (f46 : hUpd H2 H1 n18 n0 n21) (f47 : n22 = 298) (f48 : n22 = hV H2 (n2).toNat 24) (f49 : n23 ≤ 5) (f50 : 0 ≤ n23) (f51 : n23 = hV H2 (n22).toNat (n17).toNat) (f52 : n24 = 5) (f53 : n23 ≠ n24) (f54 : n25 ≤ 40) (f55 : 0 ≤ n25) (f56 : n25 = hV H2 (n2).toNat 82) : 0 ≤ n17 := by
  have g4 := f8.2.1.1
  unfold Ab_270_34 at g4
  have g3 := f8.2.1.2
  unfold preb_270 at g3
  have e0 : n6 = hV H1 347 (n0).toNat := (by rw [f10] at f14; exact f14 : n6 = hV H1 347 (n0).toNat)
  have e1 : n9 = hV H1 346 (n0).toNat := (by rw [f17] at f21; exact f21 : n9 = hV H1 346 (n0).toNat)
  have e2 : hV H1 296 = hV H0 296 := fRow f8.1.2.1 296 kR_270_296
  have e3 : n10 = hV H0 296 (n9).toNat := (by rw [f15] at f24; exact f24 : n10 = hV H1 296 (n9).toNat).trans ((congrFun e2 _))
  have e4 : n13 = hV H1 346 (n0).toNat := (by rw [f27] at f31; exact f31 : n13 = hV H1 346 (n0).toNat)
  have e5 : n16 = hV H1 347 (n0).toNat := (by rw [f33] at f37; exact f37 : n16 = hV H1 347 (n0).toNat)
  have e6 : n19 = hV H1 347 (n0).toNat := (by rw [f39] at f43; exact f43 : n19 = hV H1 347 (n0).toNat)
  have e8 : hV H1 298 = hV H0 298 := fRow f8.1.2.1 298 kR_270_298
  have e9 : n23 = hV H0 298 (n17).toNat := (by rw [f47] at f51; exact f51 : n23 = hV H2 298 (n17).toNat).trans (((congrFun (uRowNe f46 298 (iS (show n18 = ((347 : Nat) : Int) from f39) rfl)) _)).trans ((congrFun e8 _)))
  have e11 : n25 = hV H1 285 82 := (by rw [f4] at f56; exact f56 : n25 = hV H2 285 82).trans ((uPlace f46 285 82 (iS (show n18 = ((347 : Nat) : Int) from f39) rfl)))
  have e14 : hV H1 294 = hV H0 294 := fRow f8.1.2.1 294 kR_270_294
  have e15 : hV H1 300 = hV H0 300 := fRow f8.1.2.1 300 kR_270_300
  have e16 : (0 : Int) ≤ hV H0 285 18 ∧ hV H0 285 18 ≤ 8 := bTo ((f8.1.2.1.1 285 18 kF_270_285_18)) (f8.1.2.2 285 18 _ _ kW_285_18)
  have e17 : (0 : Int) ≤ hV H1 285 82 ∧ hV H1 285 82 ≤ 40 := f8.1.2.2 285 82 _ _ kW_285_82
  try simp only [e14, e2, e8, e15] at g4
  have k0 := g4.1
  have y0 := g4.2.1
  have y1 := g4.2.2.1
  have y2 := g4.2.2.2
  have p0 := g3.1
  have p1 := g3.2
  clear g3
  clear g4
  clear f11 f14 f16 f18 f21 f24 f28 f31 f34 f37 f40 f43 f48 f51 f56 e2 e8 e14 e15
  subst e0
  subst e1
  subst e3
  subst e4
  subst e5
  subst e6
  subst e9
  subst e11
  rw [f26] at f32
  try have ca := cue_at (p1 (n3).toNat (by omega)) y0 (by omega) (by omega) (c := (16 * hV H1 346 (n0).toNat + hV H1 347 (n0).toNat)) (by omega)
  try have sh := y1 (n0).toNat (by omega)
  try have lv := y0 (n0).toNat (by omega)
  first
  | (have ix0 : n14 = 16 * (hV H1 346 (n0).toNat) := Eq.trans f32 (w32_iv (Iml 16 rfl (Iat f20 f19)) (by decide)); subst ix0; clear f32)
  | (have ix0 : n14 = 16 * (hV H1 346 (n0).toNat) := Eq.trans f32 (w32_id (by omega) (by omega)); subst ix0; clear f32)
  | (unfold w32 at f32; have ix0 : n14 = 16 * (hV H1 346 (n0).toNat) := (by omega); subst ix0)
  | skip
  first
  | (have ix1 : n17 = (16 * (hV H1 346 (n0).toNat)) + hV H1 347 (n0).toNat := Eq.trans f38 (w32_iv (Iad (Iml 16 rfl (Iat f20 f19)) (Iat f13 f12)) (by decide)); subst ix1; clear f38)
  | (have ix1 : n17 = (16 * (hV H1 346 (n0).toNat)) + hV H1 347 (n0).toNat := Eq.trans f38 (w32_id (by omega) (by omega)); subst ix1; clear f38)
  | (unfold w32 at f38; have ix1 : n17 = (16 * (hV H1 346 (n0).toNat)) + hV H1 347 (n0).toNat := (by omega); subst ix1)
  | skip
  first
  | (have ix2 : n21 = hV H1 347 (n0).toNat + 1 := Eq.trans f45 (w32_iv (Iad (Iat f13 f12) (IC 1)) (by decide)); subst ix2; clear f45)
  | (have ix2 : n21 = hV H1 347 (n0).toNat + 1 := Eq.trans f45 (w32_id (by omega) (by omega)); subst ix2; clear f45)
  | (unfold w32 at f45; have ix2 : n21 = hV H1 347 (n0).toNat + 1 := (by omega); subst ix2)
  | skip
  try unfold w32 at f32
  try unfold w32 at f38
  try unfold w32 at f45

  first
  | omega
  | (have ca := cue_at (p1 (n3).toNat (by omega)) y0 (by omega) (by omega) (c := (16 * hV H1 346 (n0).toNat + hV H1 347 (n0).toNat)) (by omega)
     omega)
  | (have ua := use_at (p1 (n3).toNat (by omega)) y0 (by omega) (by omega) (c := (16 * hV H1 346 (n0).toNat + hV H1 347 (n0).toNat)) (by omega) (by omega)
     omega)
  | (have ul := ULp_lay y2 (p1 (n3).toNat (by omega)) y0 (by omega) (by omega) (by omega) (c := (16 * hV H1 346 (n0).toNat + hV H1 347 (n0).toNat)) (by omega) (by omega)
     omega)
theorem c_270_34_19 {q0 : Nat} : vOkm T0 (eP e_270 L_270 A_270 mu_270 (some q0)) 2 ([(20, [26, 2], [2], 82), (90, [26], [], 0), (91, [26], [], 40), (41, [23, 24], [], 0), (0, [24], [], 5), (22, [23, 22, 17], [2], 0), (90, [23], [], 0), (91, [23], [], 5), (20, [22, 2], [2], 24), (0, [22], [], 298), (80, [18, 4, 21], [2, 1], 0), (1, [21, 19, 20], [], 0), (0, [20], [], 1), (22, [19, 18, 4], [1], 0), (90, [19], [], 0), (91, [19], [], 16), (20, [18, 2], [1], 86), (0, [18], [], 347), (1, [17, 14, 16], [], 0), (22, [16, 15, 4], [1], 0), (90, [16], [], 0), (91, [16], [], 16), (20, [15, 2], [1], 86), (0, [15], [], 347), (3, [14, 11, 13], [], 0), (22, [13, 12, 4], [1], 0), (90, [13], [], 0), (91, [13], [], 62), (20, [12, 2], [1], 85), (0, [12], [], 346), (0, [11], [], 16), (41, [6, 10], [], 0), (22, [10, 7, 9], [1], 0), (90, [10], [], 0), (91, [10], [], 16), (22, [9, 8, 4], [1], 0), (90, [9], [], 0), (91, [9], [], 62), (20, [8, 2], [1], 85), (0, [8], [], 346), (20, [7, 2], [1], 22), (0, [7], [], 296), (22, [6, 5, 4], [1], 0), (90, [6], [], 0), (91, [6], [], 16), (20, [5, 2], [1], 86), (0, [5], [], 347), (33, [4], [], 0), (5000, [0, 1, 2, 3, 4], [0, 1], 34), (0, [0], [], 285), (90, [1], [], 0), (91, [1], [], 7), (0, [2], [], 285), (90, [3], [], 0), (91, [3], [], 7), (90, [4], [], -1), (91, [4], [], 6)], (90, [17], [], 0)) := vOk_inI fun ρ η f0 f1 f2 f3 f4 f5 f6 f7 f8 f9 f10 f11 f12 f13 f14 f15 f16 f17 f18 f19 f20 f21 f22 f23 f24 f25 f26 f27 f28 f29 f30 f31 f32 f33 f34 f35 f36 f37 f38 f39 f40 f41 f42 f43 f44 f45 f46 f47 f48 f49 f50 f51 f52 f53 f54 f55 f56 => q_270_22 (q0 := q0) (n0 := ρ 4) (n1 := ρ 3) (n2 := ρ 2) (n3 := ρ 1) (n4 := ρ 0) (n5 := ρ 5) (n6 := ρ 6) (n7 := ρ 7) (n8 := ρ 8) (n9 := ρ 9) (n10 := ρ 10) (n11 := ρ 11) (n12 := ρ 12) (n13 := ρ 13) (n14 := ρ 14) (n15 := ρ 15) (n16 := ρ 16) (n17 := ρ 17) (n18 := ρ 18) (n19 := ρ 19) (n20 := ρ 20) (n21 := ρ 21) (n22 := ρ 22) (n23 := ρ 23) (n24 := ρ 24) (n25 := ρ 26) (H0 := η 0) (H1 := η 1) (H2 := η 2) f56 f55 f54 f53 f52 f51 f50 f49 f48 f47 f46 f45 f44 f43 f42 f41 f40 f39 f38 f37 f36 f35 f34 f33 f32 f31 f30 f29 f28 f27 f26 f25 f24 f23 f22 f21 f20 f19 f18 f17 f16 f15 f14 f13 f12 f11 f10 f9 f8 f7 f6 f5 f4 f3 f2 f1 f0
theorem q_270_23 {q0 : Nat} {n0 n1 n2 n3 n4 n5 n6 n7 n8 n9 n10 n11 n12 n13 n14 n15 n16 n17 n18 n19 n20 n21 n22 n23 n24 n25 : Int} {H0 H1 H2 : gH} (f0 : n0 ≤ 6) (f1 : (-1) ≤ n0) (f2 : n1 ≤ 7) (f3 : 0 ≤ n1) (f4 : n2 = 285) (f5 : n3 ≤ 7) (f6 : 0 ≤ n3) (f7 : n4 = 285) (f8 : (hLe T0 H0 H1 ∧ hFr s_270.2.2.2.2 H0 H1 ∧ hWt T0 H1) ∧ (Ab_270_34 n4 n3 n2 n1 n0 H0 H1 ∧ preb_270 n4 n3 H0) ∧ some q0 = some (mub_270_34 n4 n3 n2 n1 n0 H0 H1)) (f9 : 0 ≤ n0) (f10 : n5 = 347) (f11 : n5 = hV H1 (n2).toNat 86) (f12 : n6 ≤ 16) (f13 : 0 ≤ n6) (f14 : n6 = hV H1 (n5).toNat (n0).toNat) (f15 : n7 = 296) (f16 : n7 = hV H1 (n2).toNat 22) (f17 : n8 = 346) (f18 : n8 = hV H1 (n2).toNat 85) (f19 : n9 ≤ 62) (f20 : 0 ≤ n9) (f21 : n9 = hV H1 (n8).toNat (n0).toNat) (f22 : n10 ≤ 16) (f23 : 0 ≤ n10) (f24 : n10 = hV H1 (n7).toNat (n9).toNat) (f25 : n6 ≠ n10) (f26 : n11 = 16) (f27 : n12 = 346) (f28 : n12 = hV H1 (n2).toNat 85) (f29 : n13 ≤ 62) (f30 : 0 ≤ n13) (f31 : n13 = hV H1 (n12).toNat (n0).toNat) (f32 : n14 = w32 (n11 * n13)) (f33 : n15 = 347) (f34 : n15 = hV H1 (n2).toNat 86) (f35 : n16 ≤ 16) (f36 : 0 ≤ n16) (f37 : n16 = hV H1 (n15).toNat (n0).toNat) (f38 : n17 = w32 (n14 + n16)) (f39 : n18 = 347) (f40 : n18 = hV H1 (n2).toNat 86) (f41 : n19 ≤ 16) (f42 : 0 ≤ n19) (f43 : n19 = hV H1 (n18).toNat (n0).toNat) (f44 : n20 = 1) (f45 : n21 = w32 (n19 + n20)) (f46 : hUpd H2 H1 n18 n0 n21) (f47 : n22 = 298) (f48 : n22 = hV H2 (n2).toNat 24) (f49 : n23 ≤ 5) (f50 : 0 ≤ n23) (f51 : n23 = hV H2 (n22).toNat (n17).toNat) (f52 : n24 = 5) (f53 : n23 ≠ n24) (f54 : n25 ≤ 40) (f55 : 0 ≤ n25) (f56 : n25 = hV H2 (n2).toNat 82) : n17 ≤ 1007 := by
  have g4 := f8.2.1.1
  unfold Ab_270_34 at g4
  have g3 := f8.2.1.2
  unfold preb_270 at g3
  have e0 : n6 = hV H1 347 (n0).toNat := (by rw [f10] at f14; exact f14 : n6 = hV H1 347 (n0).toNat)
  have e1 : n9 = hV H1 346 (n0).toNat := (by rw [f17] at f21; exact f21 : n9 = hV H1 346 (n0).toNat)
  have e2 : hV H1 296 = hV H0 296 := fRow f8.1.2.1 296 kR_270_296
  have e3 : n10 = hV H0 296 (n9).toNat := (by rw [f15] at f24; exact f24 : n10 = hV H1 296 (n9).toNat).trans ((congrFun e2 _))
  have e4 : n13 = hV H1 346 (n0).toNat := (by rw [f27] at f31; exact f31 : n13 = hV H1 346 (n0).toNat)
  have e5 : n16 = hV H1 347 (n0).toNat := (by rw [f33] at f37; exact f37 : n16 = hV H1 347 (n0).toNat)
  have e6 : n19 = hV H1 347 (n0).toNat := (by rw [f39] at f43; exact f43 : n19 = hV H1 347 (n0).toNat)
  have e8 : hV H1 298 = hV H0 298 := fRow f8.1.2.1 298 kR_270_298
  have e9 : n23 = hV H0 298 (n17).toNat := (by rw [f47] at f51; exact f51 : n23 = hV H2 298 (n17).toNat).trans (((congrFun (uRowNe f46 298 (iS (show n18 = ((347 : Nat) : Int) from f39) rfl)) _)).trans ((congrFun e8 _)))
  have e11 : n25 = hV H1 285 82 := (by rw [f4] at f56; exact f56 : n25 = hV H2 285 82).trans ((uPlace f46 285 82 (iS (show n18 = ((347 : Nat) : Int) from f39) rfl)))
  have e14 : hV H1 294 = hV H0 294 := fRow f8.1.2.1 294 kR_270_294
  have e15 : hV H1 300 = hV H0 300 := fRow f8.1.2.1 300 kR_270_300
  have e16 : (0 : Int) ≤ hV H0 285 18 ∧ hV H0 285 18 ≤ 8 := bTo ((f8.1.2.1.1 285 18 kF_270_285_18)) (f8.1.2.2 285 18 _ _ kW_285_18)
  have e17 : (0 : Int) ≤ hV H1 285 82 ∧ hV H1 285 82 ≤ 40 := f8.1.2.2 285 82 _ _ kW_285_82
  try simp only [e14, e2, e8, e15] at g4
  have k0 := g4.1
  have y0 := g4.2.1
  have y1 := g4.2.2.1
  have y2 := g4.2.2.2
  have p0 := g3.1
  have p1 := g3.2
  clear g3
  clear g4
  clear f11 f14 f16 f18 f21 f24 f28 f31 f34 f37 f40 f43 f48 f51 f56 e2 e8 e14 e15
  subst e0
  subst e1
  subst e3
  subst e4
  subst e5
  subst e6
  subst e9
  subst e11
  rw [f26] at f32
  try have ca := cue_at (p1 (n3).toNat (by omega)) y0 (by omega) (by omega) (c := (16 * hV H1 346 (n0).toNat + hV H1 347 (n0).toNat)) (by omega)
  try have sh := y1 (n0).toNat (by omega)
  try have lv := y0 (n0).toNat (by omega)
  first
  | (have ix0 : n14 = 16 * (hV H1 346 (n0).toNat) := Eq.trans f32 (w32_iv (Iml 16 rfl (Iat f20 f19)) (by decide)); subst ix0; clear f32)
  | (have ix0 : n14 = 16 * (hV H1 346 (n0).toNat) := Eq.trans f32 (w32_id (by omega) (by omega)); subst ix0; clear f32)
  | (unfold w32 at f32; have ix0 : n14 = 16 * (hV H1 346 (n0).toNat) := (by omega); subst ix0)
  | skip
  first
  | (have ix1 : n17 = (16 * (hV H1 346 (n0).toNat)) + hV H1 347 (n0).toNat := Eq.trans f38 (w32_iv (Iad (Iml 16 rfl (Iat f20 f19)) (Iat f13 f12)) (by decide)); subst ix1; clear f38)
  | (have ix1 : n17 = (16 * (hV H1 346 (n0).toNat)) + hV H1 347 (n0).toNat := Eq.trans f38 (w32_id (by omega) (by omega)); subst ix1; clear f38)
  | (unfold w32 at f38; have ix1 : n17 = (16 * (hV H1 346 (n0).toNat)) + hV H1 347 (n0).toNat := (by omega); subst ix1)
  | skip
  first
  | (have ix2 : n21 = hV H1 347 (n0).toNat + 1 := Eq.trans f45 (w32_iv (Iad (Iat f13 f12) (IC 1)) (by decide)); subst ix2; clear f45)
  | (have ix2 : n21 = hV H1 347 (n0).toNat + 1 := Eq.trans f45 (w32_id (by omega) (by omega)); subst ix2; clear f45)
  | (unfold w32 at f45; have ix2 : n21 = hV H1 347 (n0).toNat + 1 := (by omega); subst ix2)
  | skip
  try unfold w32 at f32
  try unfold w32 at f38
  try unfold w32 at f45

  first
  | omega
  | (have ca := cue_at (p1 (n3).toNat (by omega)) y0 (by omega) (by omega) (c := (16 * hV H1 346 (n0).toNat + hV H1 347 (n0).toNat)) (by omega)
     omega)
  | (have ua := use_at (p1 (n3).toNat (by omega)) y0 (by omega) (by omega) (c := (16 * hV H1 346 (n0).toNat + hV H1 347 (n0).toNat)) (by omega) (by omega)
     omega)
  | (have ul := ULp_lay y2 (p1 (n3).toNat (by omega)) y0 (by omega) (by omega) (by omega) (c := (16 * hV H1 346 (n0).toNat + hV H1 347 (n0).toNat)) (by omega) (by omega)
     omega)
theorem c_270_34_20 {q0 : Nat} : vOkm T0 (eP e_270 L_270 A_270 mu_270 (some q0)) 2 ([(20, [26, 2], [2], 82), (90, [26], [], 0), (91, [26], [], 40), (41, [23, 24], [], 0), (0, [24], [], 5), (22, [23, 22, 17], [2], 0), (90, [23], [], 0), (91, [23], [], 5), (20, [22, 2], [2], 24), (0, [22], [], 298), (80, [18, 4, 21], [2, 1], 0), (1, [21, 19, 20], [], 0), (0, [20], [], 1), (22, [19, 18, 4], [1], 0), (90, [19], [], 0), (91, [19], [], 16), (20, [18, 2], [1], 86), (0, [18], [], 347), (1, [17, 14, 16], [], 0), (22, [16, 15, 4], [1], 0), (90, [16], [], 0), (91, [16], [], 16), (20, [15, 2], [1], 86), (0, [15], [], 347), (3, [14, 11, 13], [], 0), (22, [13, 12, 4], [1], 0), (90, [13], [], 0), (91, [13], [], 62), (20, [12, 2], [1], 85), (0, [12], [], 346), (0, [11], [], 16), (41, [6, 10], [], 0), (22, [10, 7, 9], [1], 0), (90, [10], [], 0), (91, [10], [], 16), (22, [9, 8, 4], [1], 0), (90, [9], [], 0), (91, [9], [], 62), (20, [8, 2], [1], 85), (0, [8], [], 346), (20, [7, 2], [1], 22), (0, [7], [], 296), (22, [6, 5, 4], [1], 0), (90, [6], [], 0), (91, [6], [], 16), (20, [5, 2], [1], 86), (0, [5], [], 347), (33, [4], [], 0), (5000, [0, 1, 2, 3, 4], [0, 1], 34), (0, [0], [], 285), (90, [1], [], 0), (91, [1], [], 7), (0, [2], [], 285), (90, [3], [], 0), (91, [3], [], 7), (90, [4], [], -1), (91, [4], [], 6)], (91, [17], [], 1007)) := vOk_inI fun ρ η f0 f1 f2 f3 f4 f5 f6 f7 f8 f9 f10 f11 f12 f13 f14 f15 f16 f17 f18 f19 f20 f21 f22 f23 f24 f25 f26 f27 f28 f29 f30 f31 f32 f33 f34 f35 f36 f37 f38 f39 f40 f41 f42 f43 f44 f45 f46 f47 f48 f49 f50 f51 f52 f53 f54 f55 f56 => q_270_23 (q0 := q0) (n0 := ρ 4) (n1 := ρ 3) (n2 := ρ 2) (n3 := ρ 1) (n4 := ρ 0) (n5 := ρ 5) (n6 := ρ 6) (n7 := ρ 7) (n8 := ρ 8) (n9 := ρ 9) (n10 := ρ 10) (n11 := ρ 11) (n12 := ρ 12) (n13 := ρ 13) (n14 := ρ 14) (n15 := ρ 15) (n16 := ρ 16) (n17 := ρ 17) (n18 := ρ 18) (n19 := ρ 19) (n20 := ρ 20) (n21 := ρ 21) (n22 := ρ 22) (n23 := ρ 23) (n24 := ρ 24) (n25 := ρ 26) (H0 := η 0) (H1 := η 1) (H2 := η 2) f56 f55 f54 f53 f52 f51 f50 f49 f48 f47 f46 f45 f44 f43 f42 f41 f40 f39 f38 f37 f36 f35 f34 f33 f32 f31 f30 f29 f28 f27 f26 f25 f24 f23 f22 f21 f20 f19 f18 f17 f16 f15 f14 f13 f12 f11 f10 f9 f8 f7 f6 f5 f4 f3 f2 f1 f0
theorem q_270_24 {q0 : Nat} {n0 n1 n2 n3 n4 n5 n6 n7 n8 n9 n10 n11 n12 n13 n14 n15 n16 n17 n18 n19 n20 n21 n22 n23 n24 n25 n26 n27 n28 n29 : Int} {H0 H1 H2 H3 : gH} (f0 : n0 ≤ 6) (f1 : (-1) ≤ n0) (f2 : n1 ≤ 7) (f3 : 0 ≤ n1) (f4 : n2 = 285) (f5 : n3 ≤ 7) (f6 : 0 ≤ n3) (f7 : n4 = 285) (f8 : (hLe T0 H0 H1 ∧ hFr s_270.2.2.2.2 H0 H1 ∧ hWt T0 H1) ∧ (Ab_270_34 n4 n3 n2 n1 n0 H0 H1 ∧ preb_270 n4 n3 H0) ∧ some q0 = some (mub_270_34 n4 n3 n2 n1 n0 H0 H1)) (f9 : 0 ≤ n0) (f10 : n5 = 347) (f11 : n5 = hV H1 (n2).toNat 86) (f12 : n6 ≤ 16) (f13 : 0 ≤ n6) (f14 : n6 = hV H1 (n5).toNat (n0).toNat) (f15 : n7 = 296) (f16 : n7 = hV H1 (n2).toNat 22) (f17 : n8 = 346) (f18 : n8 = hV H1 (n2).toNat 85) (f19 : n9 ≤ 62) (f20 : 0 ≤ n9) (f21 : n9 = hV H1 (n8).toNat (n0).toNat) (f22 : n10 ≤ 16) (f23 : 0 ≤ n10) (f24 : n10 = hV H1 (n7).toNat (n9).toNat) (f25 : n6 ≠ n10) (f26 : n11 = 16) (f27 : n12 = 346) (f28 : n12 = hV H1 (n2).toNat 85) (f29 : n13 ≤ 62) (f30 : 0 ≤ n13) (f31 : n13 = hV H1 (n12).toNat (n0).toNat) (f32 : n14 = w32 (n11 * n13)) (f33 : n15 = 347) (f34 : n15 = hV H1 (n2).toNat 86) (f35 : n16 ≤ 16) (f36 : 0 ≤ n16) (f37 : n16 = hV H1 (n15).toNat (n0).toNat) (f38 : n17 = w32 (n14 + n16)) (f39 : n18 = 347) (f40 : n18 = hV H1 (n2).toNat 86) (f41 : n19 ≤ 16) (f42 : 0 ≤ n19) (f43 : n19 = hV H1 (n18).toNat (n0).toNat) (f44 : n20 = 1) (f45 : n21 = w32 (n19 + n20)) (f46 : hUpd H2 H1 n18 n0 n21) (f47 : n22 = 298) (f48 : n22 = hV H2 (n2).toNat 24) (f49 : n23 ≤ 5) (f50 : 0 ≤ n23) (f51 : n23 = hV H2 (n22).toNat (n17).toNat) (f52 : n24 = 5) (f53 : n23 ≠ n24) (f54 : n25 = 344) (f55 : n25 = hV H2 (n2).toNat 83) (f56 : n26 ≤ 40) (f57 : 0 ≤ n26) (f58 : n26 = hV H2 (n2).toNat 82) (f59 : hUpd H3 H2 n25 n26 n17) (f60 : n27 ≤ 40) (f61 : 0 ≤ n27) (f62 : n27 = hV H3 (n2).toNat 82) (f63 : n28 = 348) (f64 : n28 = hV H3 (n2).toNat 87) (f65 : n29 ≤ 1000) (f66 : (-1000) ≤ n29) (f67 : n29 = hV H3 (n28).toNat (n0).toNat) : 0 ≤ n27 ∧ n27 < 40 := by
  have g4 := f8.2.1.1
  unfold Ab_270_34 at g4
  have g3 := f8.2.1.2
  unfold preb_270 at g3
  have e0 : n6 = hV H1 347 (n0).toNat := (by rw [f10] at f14; exact f14 : n6 = hV H1 347 (n0).toNat)
  have e1 : n9 = hV H1 346 (n0).toNat := (by rw [f17] at f21; exact f21 : n9 = hV H1 346 (n0).toNat)
  have e2 : hV H1 296 = hV H0 296 := fRow f8.1.2.1 296 kR_270_296
  have e3 : n10 = hV H0 296 (n9).toNat := (by rw [f15] at f24; exact f24 : n10 = hV H1 296 (n9).toNat).trans ((congrFun e2 _))
  have e4 : n13 = hV H1 346 (n0).toNat := (by rw [f27] at f31; exact f31 : n13 = hV H1 346 (n0).toNat)
  have e5 : n16 = hV H1 347 (n0).toNat := (by rw [f33] at f37; exact f37 : n16 = hV H1 347 (n0).toNat)
  have e6 : n19 = hV H1 347 (n0).toNat := (by rw [f39] at f43; exact f43 : n19 = hV H1 347 (n0).toNat)
  have e8 : hV H1 298 = hV H0 298 := fRow f8.1.2.1 298 kR_270_298
  have e9 : n23 = hV H0 298 (n17).toNat := (by rw [f47] at f51; exact f51 : n23 = hV H2 298 (n17).toNat).trans (((congrFun (uRowNe f46 298 (iS (show n18 = ((347 : Nat) : Int) from f39) rfl)) _)).trans ((congrFun e8 _)))
  have e11 : n26 = hV H1 285 82 := (by rw [f4] at f58; exact f58 : n26 = hV H2 285 82).trans ((uPlace f46 285 82 (iS (show n18 = ((347 : Nat) : Int) from f39) rfl)))
  have e13 : n27 = hV H1 285 82 := (by rw [f4] at f62; exact f62 : n27 = hV H3 285 82).trans (((uPlace f59 285 82 (iS (show n25 = ((344 : Nat) : Int) from f54) rfl))).trans (uPlace f46 285 82 (iS (show n18 = ((347 : Nat) : Int) from f39) rfl)))
  have e16 : n29 = hV H1 348 (n0).toNat := (by rw [f63] at f67; exact f67 : n29 = hV H3 348 (n0).toNat).trans (((congrFun (uRowNe f59 348 (iS (show n25 = ((344 : Nat) : Int) from f54) rfl)) _)).trans ((congrFun (uRowNe f46 348 (iS (show n18 = ((347 : Nat) : Int) from f39) rfl)) _)))
  have e19 : hV H1 294 = hV H0 294 := fRow f8.1.2.1 294 kR_270_294
  have e20 : hV H1 300 = hV H0 300 := fRow f8.1.2.1 300 kR_270_300
  have e21 : (0 : Int) ≤ hV H0 285 18 ∧ hV H0 285 18 ≤ 8 := bTo ((f8.1.2.1.1 285 18 kF_270_285_18)) (f8.1.2.2 285 18 _ _ kW_285_18)
  have e22 : (0 : Int) ≤ hV H1 285 82 ∧ hV H1 285 82 ≤ 40 := f8.1.2.2 285 82 _ _ kW_285_82
  try simp only [e19, e2, e8, e20] at g4
  have k0 := g4.1
  have y0 := g4.2.1
  have y1 := g4.2.2.1
  have y2 := g4.2.2.2
  have p0 := g3.1
  have p1 := g3.2
  clear g3
  clear g4
  clear f11 f14 f16 f18 f21 f24 f28 f31 f34 f37 f40 f43 f48 f51 f55 f58 f62 f64 f67 e2 e8 e19 e20
  subst e0
  subst e1
  subst e3
  subst e4
  subst e5
  subst e6
  subst e9
  subst e11
  subst e13
  subst e16
  rw [f26] at f32
  try have ca := cue_at (p1 (n3).toNat (by omega)) y0 (by omega) (by omega) (c := (16 * hV H1 346 (n0).toNat + hV H1 347 (n0).toNat)) (by omega)
  try have sh := y1 (n0).toNat (by omega)
  try have lv := y0 (n0).toNat (by omega)
  first
  | (have ix0 : n14 = 16 * (hV H1 346 (n0).toNat) := Eq.trans f32 (w32_iv (Iml 16 rfl (Iat f20 f19)) (by decide)); subst ix0; clear f32)
  | (have ix0 : n14 = 16 * (hV H1 346 (n0).toNat) := Eq.trans f32 (w32_id (by omega) (by omega)); subst ix0; clear f32)
  | (unfold w32 at f32; have ix0 : n14 = 16 * (hV H1 346 (n0).toNat) := (by omega); subst ix0)
  | skip
  first
  | (have ix1 : n17 = (16 * (hV H1 346 (n0).toNat)) + hV H1 347 (n0).toNat := Eq.trans f38 (w32_iv (Iad (Iml 16 rfl (Iat f20 f19)) (Iat f13 f12)) (by decide)); subst ix1; clear f38)
  | (have ix1 : n17 = (16 * (hV H1 346 (n0).toNat)) + hV H1 347 (n0).toNat := Eq.trans f38 (w32_id (by omega) (by omega)); subst ix1; clear f38)
  | (unfold w32 at f38; have ix1 : n17 = (16 * (hV H1 346 (n0).toNat)) + hV H1 347 (n0).toNat := (by omega); subst ix1)
  | skip
  first
  | (have ix2 : n21 = hV H1 347 (n0).toNat + 1 := Eq.trans f45 (w32_iv (Iad (Iat f13 f12) (IC 1)) (by decide)); subst ix2; clear f45)
  | (have ix2 : n21 = hV H1 347 (n0).toNat + 1 := Eq.trans f45 (w32_id (by omega) (by omega)); subst ix2; clear f45)
  | (unfold w32 at f45; have ix2 : n21 = hV H1 347 (n0).toNat + 1 := (by omega); subst ix2)
  | skip
  try unfold w32 at f32
  try unfold w32 at f38
  try unfold w32 at f45

  first
  | omega
  | (have ca := cue_at (p1 (n3).toNat (by omega)) y0 (by omega) (by omega) (c := (16 * hV H1 346 (n0).toNat + hV H1 347 (n0).toNat)) (by omega)
     omega)
  | (have ua := use_at (p1 (n3).toNat (by omega)) y0 (by omega) (by omega) (c := (16 * hV H1 346 (n0).toNat + hV H1 347 (n0).toNat)) (by omega) (by omega)
     omega)
  | (have ul := ULp_lay y2 (p1 (n3).toNat (by omega)) y0 (by omega) (by omega) (by omega) (c := (16 * hV H1 346 (n0).toNat + hV H1 347 (n0).toNat)) (by omega) (by omega)
     omega)
theorem c_270_34_21 {q0 : Nat} : vOkm T0 (eP e_270 L_270 A_270 mu_270 (some q0)) 2 ([(22, [30, 29, 4], [3], 0), (90, [30], [], -1000), (91, [30], [], 1000), (20, [29, 2], [3], 87), (0, [29], [], 348), (20, [28, 2], [3], 82), (90, [28], [], 0), (91, [28], [], 40), (80, [25, 26, 17], [3, 2], 0), (20, [26, 2], [2], 82), (90, [26], [], 0), (91, [26], [], 40), (20, [25, 2], [2], 83), (0, [25], [], 344), (41, [23, 24], [], 0), (0, [24], [], 5), (22, [23, 22, 17], [2], 0), (90, [23], [], 0), (91, [23], [], 5), (20, [22, 2], [2], 24), (0, [22], [], 298), (80, [18, 4, 21], [2, 1], 0), (1, [21, 19, 20], [], 0), (0, [20], [], 1), (22, [19, 18, 4], [1], 0), (90, [19], [], 0), (91, [19], [], 16), (20, [18, 2], [1], 86), (0, [18], [], 347), (1, [17, 14, 16], [], 0), (22, [16, 15, 4], [1], 0), (90, [16], [], 0), (91, [16], [], 16), (20, [15, 2], [1], 86), (0, [15], [], 347), (3, [14, 11, 13], [], 0), (22, [13, 12, 4], [1], 0), (90, [13], [], 0), (91, [13], [], 62), (20, [12, 2], [1], 85), (0, [12], [], 346), (0, [11], [], 16), (41, [6, 10], [], 0), (22, [10, 7, 9], [1], 0), (90, [10], [], 0), (91, [10], [], 16), (22, [9, 8, 4], [1], 0), (90, [9], [], 0), (91, [9], [], 62), (20, [8, 2], [1], 85), (0, [8], [], 346), (20, [7, 2], [1], 22), (0, [7], [], 296), (22, [6, 5, 4], [1], 0), (90, [6], [], 0), (91, [6], [], 16), (20, [5, 2], [1], 86), (0, [5], [], 347), (33, [4], [], 0), (5000, [0, 1, 2, 3, 4], [0, 1], 34), (0, [0], [], 285), (90, [1], [], 0), (91, [1], [], 7), (0, [2], [], 285), (90, [3], [], 0), (91, [3], [], 7), (90, [4], [], -1), (91, [4], [], 6)], (70, [28], [], 40)) := vOk_inI fun ρ η f0 f1 f2 f3 f4 f5 f6 f7 f8 f9 f10 f11 f12 f13 f14 f15 f16 f17 f18 f19 f20 f21 f22 f23 f24 f25 f26 f27 f28 f29 f30 f31 f32 f33 f34 f35 f36 f37 f38 f39 f40 f41 f42 f43 f44 f45 f46 f47 f48 f49 f50 f51 f52 f53 f54 f55 f56 f57 f58 f59 f60 f61 f62 f63 f64 f65 f66 f67 => q_270_24 (q0 := q0) (n0 := ρ 4) (n1 := ρ 3) (n2 := ρ 2) (n3 := ρ 1) (n4 := ρ 0) (n5 := ρ 5) (n6 := ρ 6) (n7 := ρ 7) (n8 := ρ 8) (n9 := ρ 9) (n10 := ρ 10) (n11 := ρ 11) (n12 := ρ 12) (n13 := ρ 13) (n14 := ρ 14) (n15 := ρ 15) (n16 := ρ 16) (n17 := ρ 17) (n18 := ρ 18) (n19 := ρ 19) (n20 := ρ 20) (n21 := ρ 21) (n22 := ρ 22) (n23 := ρ 23) (n24 := ρ 24) (n25 := ρ 25) (n26 := ρ 26) (n27 := ρ 28) (n28 := ρ 29) (n29 := ρ 30) (H0 := η 0) (H1 := η 1) (H2 := η 2) (H3 := η 3) f67 f66 f65 f64 f63 f62 f61 f60 f59 f58 f57 f56 f55 f54 f53 f52 f51 f50 f49 f48 f47 f46 f45 f44 f43 f42 f41 f40 f39 f38 f37 f36 f35 f34 f33 f32 f31 f30 f29 f28 f27 f26 f25 f24 f23 f22 f21 f20 f19 f18 f17 f16 f15 f14 f13 f12 f11 f10 f9 f8 f7 f6 f5 f4 f3 f2 f1 f0
theorem q_270_25 {q0 : Nat} {n0 n1 n2 n3 n4 n5 n6 n7 n8 n9 n10 n11 n12 n13 n14 n15 n16 n17 n18 n19 n20 n21 n22 n23 n24 n25 n26 n27 n28 n29 n30 n31 n32 n33 : Int} {H0 H1 H2 H3 H4 : gH} (f0 : n0 ≤ 6) (f1 : (-1) ≤ n0) (f2 : n1 ≤ 7) (f3 : 0 ≤ n1) (f4 : n2 = 285) (f5 : n3 ≤ 7) (f6 : 0 ≤ n3) (f7 : n4 = 285) (f8 : (hLe T0 H0 H1 ∧ hFr s_270.2.2.2.2 H0 H1 ∧ hWt T0 H1) ∧ (Ab_270_34 n4 n3 n2 n1 n0 H0 H1 ∧ preb_270 n4 n3 H0) ∧ some q0 = some (mub_270_34 n4 n3 n2 n1 n0 H0 H1)) (f9 : 0 ≤ n0) (f10 : n5 = 347) (f11 : n5 = hV H1 (n2).toNat 86) (f12 : n6 ≤ 16) (f13 : 0 ≤ n6) (f14 : n6 = hV H1 (n5).toNat (n0).toNat) (f15 : n7 = 296) (f16 : n7 = hV H1 (n2).toNat 22) (f17 : n8 = 346) (f18 : n8 = hV H1 (n2).toNat 85) (f19 : n9 ≤ 62) (f20 : 0 ≤ n9) (f21 : n9 = hV H1 (n8).toNat (n0).toNat) (f22 : n10 ≤ 16) (f23 : 0 ≤ n10) (f24 : n10 = hV H1 (n7).toNat (n9).toNat) (f25 : n6 ≠ n10) (f26 : n11 = 16) (f27 : n12 = 346) (f28 : n12 = hV H1 (n2).toNat 85) (f29 : n13 ≤ 62) (f30 : 0 ≤ n13) (f31 : n13 = hV H1 (n12).toNat (n0).toNat) (f32 : n14 = w32 (n11 * n13)) (f33 : n15 = 347) (f34 : n15 = hV H1 (n2).toNat 86) (f35 : n16 ≤ 16) (f36 : 0 ≤ n16) (f37 : n16 = hV H1 (n15).toNat (n0).toNat) (f38 : n17 = w32 (n14 + n16)) (f39 : n18 = 347) (f40 : n18 = hV H1 (n2).toNat 86) (f41 : n19 ≤ 16) (f42 : 0 ≤ n19) (f43 : n19 = hV H1 (n18).toNat (n0).toNat) (f44 : n20 = 1) (f45 : n21 = w32 (n19 + n20)) (f46 : hUpd H2 H1 n18 n0 n21) (f47 : n22 = 298) (f48 : n22 = hV H2 (n2).toNat 24) (f49 : n23 ≤ 5) (f50 : 0 ≤ n23) (f51 : n23 = hV H2 (n22).toNat (n17).toNat) (f52 : n24 = 5) (f53 : n23 ≠ n24) (f54 : n25 = 344) (f55 : n25 = hV H2 (n2).toNat 83) (f56 : n26 ≤ 40) (f57 : 0 ≤ n26) (f58 : n26 = hV H2 (n2).toNat 82) (f59 : hUpd H3 H2 n25 n26 n17) (f60 : n27 = 345) (f61 : n27 = hV H3 (n2).toNat 84) (f62 : n28 ≤ 40) (f63 : 0 ≤ n28) (f64 : n28 = hV H3 (n2).toNat 82) (f65 : n29 = 348) (f66 : n29 = hV H3 (n2).toNat 87) (f67 : n30 ≤ 1000) (f68 : (-1000) ≤ n30) (f69 : n30 = hV H3 (n29).toNat (n0).toNat) (f70 : hUpd H4 H3 n27 n28 n30) (f71 : n31 ≤ 40) (f72 : 0 ≤ n31) (f73 : n31 = hV H4 (n2).toNat 82) (f74 : n32 = 1) (f75 : n33 = w32 (n31 + n32)) : 0 ≤ n33 := by
  have g4 := f8.2.1.1
  unfold Ab_270_34 at g4
  have g3 := f8.2.1.2
  unfold preb_270 at g3
  have e0 : n6 = hV H1 347 (n0).toNat := (by rw [f10] at f14; exact f14 : n6 = hV H1 347 (n0).toNat)
  have e1 : n9 = hV H1 346 (n0).toNat := (by rw [f17] at f21; exact f21 : n9 = hV H1 346 (n0).toNat)
  have e2 : hV H1 296 = hV H0 296 := fRow f8.1.2.1 296 kR_270_296
  have e3 : n10 = hV H0 296 (n9).toNat := (by rw [f15] at f24; exact f24 : n10 = hV H1 296 (n9).toNat).trans ((congrFun e2 _))
  have e4 : n13 = hV H1 346 (n0).toNat := (by rw [f27] at f31; exact f31 : n13 = hV H1 346 (n0).toNat)
  have e5 : n16 = hV H1 347 (n0).toNat := (by rw [f33] at f37; exact f37 : n16 = hV H1 347 (n0).toNat)
  have e6 : n19 = hV H1 347 (n0).toNat := (by rw [f39] at f43; exact f43 : n19 = hV H1 347 (n0).toNat)
  have e8 : hV H1 298 = hV H0 298 := fRow f8.1.2.1 298 kR_270_298
  have e9 : n23 = hV H0 298 (n17).toNat := (by rw [f47] at f51; exact f51 : n23 = hV H2 298 (n17).toNat).trans (((congrFun (uRowNe f46 298 (iS (show n18 = ((347 : Nat) : Int) from f39) rfl)) _)).trans ((congrFun e8 _)))
  have e11 : n26 = hV H1 285 82 := (by rw [f4] at f58; exact f58 : n26 = hV H2 285 82).trans ((uPlace f46 285 82 (iS (show n18 = ((347 : Nat) : Int) from f39) rfl)))
  have e13 : n28 = hV H1 285 82 := (by rw [f4] at f64; exact f64 : n28 = hV H3 285 82).trans (((uPlace f59 285 82 (iS (show n25 = ((344 : Nat) : Int) from f54) rfl))).trans (uPlace f46 285 82 (iS (show n18 = ((347 : Nat) : Int) from f39) rfl)))
  have e16 : n30 = hV H1 348 (n0).toNat := (by rw [f65] at f69; exact f69 : n30 = hV H3 348 (n0).toNat).trans (((congrFun (uRowNe f59 348 (iS (show n25 = ((344 : Nat) : Int) from f54) rfl)) _)).trans ((congrFun (uRowNe f46 348 (iS (show n18 = ((347 : Nat) : Int) from f39) rfl)) _)))
  have e18 : n31 = hV H1 285 82 := (by rw [f4] at f73; exact f73 : n31 = hV H4 285 82).trans (((uPlace f70 285 82 (iS (show n27 = ((345 : Nat) : Int) from f60) rfl))).trans (((uPlace f59 285 82 (iS (show n25 = ((344 : Nat) : Int) from f54) rfl))).trans (uPlace f46 285 82 (iS (show n18 = ((347 : Nat) : Int) from f39) rfl))))
  have e21 : hV H1 294 = hV H0 294 := fRow f8.1.2.1 294 kR_270_294
  have e22 : hV H1 300 = hV H0 300 := fRow f8.1.2.1 300 kR_270_300
  have e23 : (0 : Int) ≤ hV H0 285 18 ∧ hV H0 285 18 ≤ 8 := bTo ((f8.1.2.1.1 285 18 kF_270_285_18)) (f8.1.2.2 285 18 _ _ kW_285_18)
  have e24 : (0 : Int) ≤ hV H1 285 82 ∧ hV H1 285 82 ≤ 40 := f8.1.2.2 285 82 _ _ kW_285_82
  try simp only [e21, e2, e8, e22] at g4
  have k0 := g4.1
  have y0 := g4.2.1
  have y1 := g4.2.2.1
  have y2 := g4.2.2.2
  have p0 := g3.1
  have p1 := g3.2
  clear g3
  clear g4
  clear f11 f14 f16 f18 f21 f24 f28 f31 f34 f37 f40 f43 f48 f51 f55 f58 f61 f64 f66 f69 f73 e2 e8 e21 e22
  subst e0
  subst e1
  subst e3
  subst e4
  subst e5
  subst e6
  subst e9
  subst e11
  subst e13
  subst e16
  subst e18
  rw [f26] at f32
  try have ca := cue_at (p1 (n3).toNat (by omega)) y0 (by omega) (by omega) (c := (16 * hV H1 346 (n0).toNat + hV H1 347 (n0).toNat)) (by omega)
  try have sh := y1 (n0).toNat (by omega)
  try have lv := y0 (n0).toNat (by omega)
  first
  | (have ix0 : n14 = 16 * (hV H1 346 (n0).toNat) := Eq.trans f32 (w32_iv (Iml 16 rfl (Iat f20 f19)) (by decide)); subst ix0; clear f32)
  | (have ix0 : n14 = 16 * (hV H1 346 (n0).toNat) := Eq.trans f32 (w32_id (by omega) (by omega)); subst ix0; clear f32)
  | (unfold w32 at f32; have ix0 : n14 = 16 * (hV H1 346 (n0).toNat) := (by omega); subst ix0)
  | skip
  first
  | (have ix1 : n17 = (16 * (hV H1 346 (n0).toNat)) + hV H1 347 (n0).toNat := Eq.trans f38 (w32_iv (Iad (Iml 16 rfl (Iat f20 f19)) (Iat f13 f12)) (by decide)); subst ix1; clear f38)
  | (have ix1 : n17 = (16 * (hV H1 346 (n0).toNat)) + hV H1 347 (n0).toNat := Eq.trans f38 (w32_id (by omega) (by omega)); subst ix1; clear f38)
  | (unfold w32 at f38; have ix1 : n17 = (16 * (hV H1 346 (n0).toNat)) + hV H1 347 (n0).toNat := (by omega); subst ix1)
  | skip
  first
  | (have ix2 : n21 = hV H1 347 (n0).toNat + 1 := Eq.trans f45 (w32_iv (Iad (Iat f13 f12) (IC 1)) (by decide)); subst ix2; clear f45)
  | (have ix2 : n21 = hV H1 347 (n0).toNat + 1 := Eq.trans f45 (w32_id (by omega) (by omega)); subst ix2; clear f45)
  | (unfold w32 at f45; have ix2 : n21 = hV H1 347 (n0).toNat + 1 := (by omega); subst ix2)
  | skip
  first
  | (have ix3 : n33 = hV H1 285 82 + 1 := Eq.trans f75 (w32_iv (Iad (Iat f57 f56) (IC 1)) (by decide)); subst ix3; clear f75)
  | (have ix3 : n33 = hV H1 285 82 + 1 := Eq.trans f75 (w32_id (by omega) (by omega)); subst ix3; clear f75)
  | (unfold w32 at f75; have ix3 : n33 = hV H1 285 82 + 1 := (by omega); subst ix3)
  | skip
  try unfold w32 at f32
  try unfold w32 at f38
  try unfold w32 at f45
  try unfold w32 at f75

  first
  | omega
  | (have ca := cue_at (p1 (n3).toNat (by omega)) y0 (by omega) (by omega) (c := (16 * hV H1 346 (n0).toNat + hV H1 347 (n0).toNat)) (by omega)
     omega)
  | (have ua := use_at (p1 (n3).toNat (by omega)) y0 (by omega) (by omega) (c := (16 * hV H1 346 (n0).toNat + hV H1 347 (n0).toNat)) (by omega) (by omega)
     omega)
  | (have ul := ULp_lay y2 (p1 (n3).toNat (by omega)) y0 (by omega) (by omega) (by omega) (c := (16 * hV H1 346 (n0).toNat + hV H1 347 (n0).toNat)) (by omega) (by omega)
     omega)
theorem c_270_34_22 {q0 : Nat} : vOkm T0 (eP e_270 L_270 A_270 mu_270 (some q0)) 2 ([(1, [33, 31, 32], [], 0), (0, [32], [], 1), (20, [31, 2], [4], 82), (90, [31], [], 0), (91, [31], [], 40), (80, [27, 28, 30], [4, 3], 0), (22, [30, 29, 4], [3], 0), (90, [30], [], -1000), (91, [30], [], 1000), (20, [29, 2], [3], 87), (0, [29], [], 348), (20, [28, 2], [3], 82), (90, [28], [], 0), (91, [28], [], 40), (20, [27, 2], [3], 84), (0, [27], [], 345), (80, [25, 26, 17], [3, 2], 0), (20, [26, 2], [2], 82), (90, [26], [], 0), (91, [26], [], 40), (20, [25, 2], [2], 83), (0, [25], [], 344), (41, [23, 24], [], 0), (0, [24], [], 5), (22, [23, 22, 17], [2], 0), (90, [23], [], 0), (91, [23], [], 5), (20, [22, 2], [2], 24), (0, [22], [], 298), (80, [18, 4, 21], [2, 1], 0), (1, [21, 19, 20], [], 0), (0, [20], [], 1), (22, [19, 18, 4], [1], 0), (90, [19], [], 0), (91, [19], [], 16), (20, [18, 2], [1], 86), (0, [18], [], 347), (1, [17, 14, 16], [], 0), (22, [16, 15, 4], [1], 0), (90, [16], [], 0), (91, [16], [], 16), (20, [15, 2], [1], 86), (0, [15], [], 347), (3, [14, 11, 13], [], 0), (22, [13, 12, 4], [1], 0), (90, [13], [], 0), (91, [13], [], 62), (20, [12, 2], [1], 85), (0, [12], [], 346), (0, [11], [], 16), (41, [6, 10], [], 0), (22, [10, 7, 9], [1], 0), (90, [10], [], 0), (91, [10], [], 16), (22, [9, 8, 4], [1], 0), (90, [9], [], 0), (91, [9], [], 62), (20, [8, 2], [1], 85), (0, [8], [], 346), (20, [7, 2], [1], 22), (0, [7], [], 296), (22, [6, 5, 4], [1], 0), (90, [6], [], 0), (91, [6], [], 16), (20, [5, 2], [1], 86), (0, [5], [], 347), (33, [4], [], 0), (5000, [0, 1, 2, 3, 4], [0, 1], 34), (0, [0], [], 285), (90, [1], [], 0), (91, [1], [], 7), (0, [2], [], 285), (90, [3], [], 0), (91, [3], [], 7), (90, [4], [], -1), (91, [4], [], 6)], (90, [33], [], 0)) := vOk_inI fun ρ η f0 f1 f2 f3 f4 f5 f6 f7 f8 f9 f10 f11 f12 f13 f14 f15 f16 f17 f18 f19 f20 f21 f22 f23 f24 f25 f26 f27 f28 f29 f30 f31 f32 f33 f34 f35 f36 f37 f38 f39 f40 f41 f42 f43 f44 f45 f46 f47 f48 f49 f50 f51 f52 f53 f54 f55 f56 f57 f58 f59 f60 f61 f62 f63 f64 f65 f66 f67 f68 f69 f70 f71 f72 f73 f74 f75 => q_270_25 (q0 := q0) (n0 := ρ 4) (n1 := ρ 3) (n2 := ρ 2) (n3 := ρ 1) (n4 := ρ 0) (n5 := ρ 5) (n6 := ρ 6) (n7 := ρ 7) (n8 := ρ 8) (n9 := ρ 9) (n10 := ρ 10) (n11 := ρ 11) (n12 := ρ 12) (n13 := ρ 13) (n14 := ρ 14) (n15 := ρ 15) (n16 := ρ 16) (n17 := ρ 17) (n18 := ρ 18) (n19 := ρ 19) (n20 := ρ 20) (n21 := ρ 21) (n22 := ρ 22) (n23 := ρ 23) (n24 := ρ 24) (n25 := ρ 25) (n26 := ρ 26) (n27 := ρ 27) (n28 := ρ 28) (n29 := ρ 29) (n30 := ρ 30) (n31 := ρ 31) (n32 := ρ 32) (n33 := ρ 33) (H0 := η 0) (H1 := η 1) (H2 := η 2) (H3 := η 3) (H4 := η 4) f75 f74 f73 f72 f71 f70 f69 f68 f67 f66 f65 f64 f63 f62 f61 f60 f59 f58 f57 f56 f55 f54 f53 f52 f51 f50 f49 f48 f47 f46 f45 f44 f43 f42 f41 f40 f39 f38 f37 f36 f35 f34 f33 f32 f31 f30 f29 f28 f27 f26 f25 f24 f23 f22 f21 f20 f19 f18 f17 f16 f15 f14 f13 f12 f11 f10 f9 f8 f7 f6 f5 f4 f3 f2 f1 f0
theorem q_270_26 {q0 : Nat} {n0 n1 n2 n3 n4 n5 n6 n7 n8 n9 n10 n11 n12 n13 n14 n15 n16 n17 n18 n19 n20 n21 n22 n23 n24 n25 n26 n27 n28 n29 n30 n31 n32 n33 : Int} {H0 H1 H2 H3 H4 : gH} (f0 : n0 ≤ 6) (f1 : (-1) ≤ n0) (f2 : n1 ≤ 7) (f3 : 0 ≤ n1) (f4 : n2 = 285) (f5 : n3 ≤ 7) (f6 : 0 ≤ n3) (f7 : n4 = 285) (f8 : (hLe T0 H0 H1 ∧ hFr s_270.2.2.2.2 H0 H1 ∧ hWt T0 H1) ∧ (Ab_270_34 n4 n3 n2 n1 n0 H0 H1 ∧ preb_270 n4 n3 H0) ∧ some q0 = some (mub_270_34 n4 n3 n2 n1 n0 H0 H1)) (f9 : 0 ≤ n0) (f10 : n5 = 347) (f11 : n5 = hV H1 (n2).toNat 86) (f12 : n6 ≤ 16) (f13 : 0 ≤ n6) (f14 : n6 = hV H1 (n5).toNat (n0).toNat) (f15 : n7 = 296) (f16 : n7 = hV H1 (n2).toNat 22) (f17 : n8 = 346) (f18 : n8 = hV H1 (n2).toNat 85) (f19 : n9 ≤ 62) (f20 : 0 ≤ n9) (f21 : n9 = hV H1 (n8).toNat (n0).toNat) (f22 : n10 ≤ 16) (f23 : 0 ≤ n10) (f24 : n10 = hV H1 (n7).toNat (n9).toNat) (f25 : n6 ≠ n10) (f26 : n11 = 16) (f27 : n12 = 346) (f28 : n12 = hV H1 (n2).toNat 85) (f29 : n13 ≤ 62) (f30 : 0 ≤ n13) (f31 : n13 = hV H1 (n12).toNat (n0).toNat) (f32 : n14 = w32 (n11 * n13)) (f33 : n15 = 347) (f34 : n15 = hV H1 (n2).toNat 86) (f35 : n16 ≤ 16) (f36 : 0 ≤ n16) (f37 : n16 = hV H1 (n15).toNat (n0).toNat) (f38 : n17 = w32 (n14 + n16)) (f39 : n18 = 347) (f40 : n18 = hV H1 (n2).toNat 86) (f41 : n19 ≤ 16) (f42 : 0 ≤ n19) (f43 : n19 = hV H1 (n18).toNat (n0).toNat) (f44 : n20 = 1) (f45 : n21 = w32 (n19 + n20)) (f46 : hUpd H2 H1 n18 n0 n21) (f47 : n22 = 298) (f48 : n22 = hV H2 (n2).toNat 24) (f49 : n23 ≤ 5) (f50 : 0 ≤ n23) (f51 : n23 = hV H2 (n22).toNat (n17).toNat) (f52 : n24 = 5) (f53 : n23 ≠ n24) (f54 : n25 = 344) (f55 : n25 = hV H2 (n2).toNat 83) (f56 : n26 ≤ 40) (f57 : 0 ≤ n26) (f58 : n26 = hV H2 (n2).toNat 82) (f59 : hUpd H3 H2 n25 n26 n17) (f60 : n27 = 345) (f61 : n27 = hV H3 (n2).toNat 84) (f62 : n28 ≤ 40) (f63 : 0 ≤ n28) (f64 : n28 = hV H3 (n2).toNat 82) (f65 : n29 = 348) (f66 : n29 = hV H3 (n2).toNat 87) (f67 : n30 ≤ 1000) (f68 : (-1000) ≤ n30) (f69 : n30 = hV H3 (n29).toNat (n0).toNat) (f70 : hUpd H4 H3 n27 n28 n30) (f71 : n31 ≤ 40) (f72 : 0 ≤ n31) (f73 : n31 = hV H4 (n2).toNat 82) (f74 : n32 = 1) (f75 : n33 = w32 (n31 + n32)) : n33 ≤ 40 := by
  have g4 := f8.2.1.1
  unfold Ab_270_34 at g4
  have g3 := f8.2.1.2
  unfold preb_270 at g3
  have e0 : n6 = hV H1 347 (n0).toNat := (by rw [f10] at f14; exact f14 : n6 = hV H1 347 (n0).toNat)
  have e1 : n9 = hV H1 346 (n0).toNat := (by rw [f17] at f21; exact f21 : n9 = hV H1 346 (n0).toNat)
  have e2 : hV H1 296 = hV H0 296 := fRow f8.1.2.1 296 kR_270_296
  have e3 : n10 = hV H0 296 (n9).toNat := (by rw [f15] at f24; exact f24 : n10 = hV H1 296 (n9).toNat).trans ((congrFun e2 _))
  have e4 : n13 = hV H1 346 (n0).toNat := (by rw [f27] at f31; exact f31 : n13 = hV H1 346 (n0).toNat)
  have e5 : n16 = hV H1 347 (n0).toNat := (by rw [f33] at f37; exact f37 : n16 = hV H1 347 (n0).toNat)
  have e6 : n19 = hV H1 347 (n0).toNat := (by rw [f39] at f43; exact f43 : n19 = hV H1 347 (n0).toNat)
  have e8 : hV H1 298 = hV H0 298 := fRow f8.1.2.1 298 kR_270_298
  have e9 : n23 = hV H0 298 (n17).toNat := (by rw [f47] at f51; exact f51 : n23 = hV H2 298 (n17).toNat).trans (((congrFun (uRowNe f46 298 (iS (show n18 = ((347 : Nat) : Int) from f39) rfl)) _)).trans ((congrFun e8 _)))
  have e11 : n26 = hV H1 285 82 := (by rw [f4] at f58; exact f58 : n26 = hV H2 285 82).trans ((uPlace f46 285 82 (iS (show n18 = ((347 : Nat) : Int) from f39) rfl)))
  have e13 : n28 = hV H1 285 82 := (by rw [f4] at f64; exact f64 : n28 = hV H3 285 82).trans (((uPlace f59 285 82 (iS (show n25 = ((344 : Nat) : Int) from f54) rfl))).trans (uPlace f46 285 82 (iS (show n18 = ((347 : Nat) : Int) from f39) rfl)))
  have e16 : n30 = hV H1 348 (n0).toNat := (by rw [f65] at f69; exact f69 : n30 = hV H3 348 (n0).toNat).trans (((congrFun (uRowNe f59 348 (iS (show n25 = ((344 : Nat) : Int) from f54) rfl)) _)).trans ((congrFun (uRowNe f46 348 (iS (show n18 = ((347 : Nat) : Int) from f39) rfl)) _)))
  have e18 : n31 = hV H1 285 82 := (by rw [f4] at f73; exact f73 : n31 = hV H4 285 82).trans (((uPlace f70 285 82 (iS (show n27 = ((345 : Nat) : Int) from f60) rfl))).trans (((uPlace f59 285 82 (iS (show n25 = ((344 : Nat) : Int) from f54) rfl))).trans (uPlace f46 285 82 (iS (show n18 = ((347 : Nat) : Int) from f39) rfl))))
  have e21 : hV H1 294 = hV H0 294 := fRow f8.1.2.1 294 kR_270_294
  have e22 : hV H1 300 = hV H0 300 := fRow f8.1.2.1 300 kR_270_300
  have e23 : (0 : Int) ≤ hV H0 285 18 ∧ hV H0 285 18 ≤ 8 := bTo ((f8.1.2.1.1 285 18 kF_270_285_18)) (f8.1.2.2 285 18 _ _ kW_285_18)
  have e24 : (0 : Int) ≤ hV H1 285 82 ∧ hV H1 285 82 ≤ 40 := f8.1.2.2 285 82 _ _ kW_285_82
  try simp only [e21, e2, e8, e22] at g4
  have k0 := g4.1
  have y0 := g4.2.1
  have y1 := g4.2.2.1
  have y2 := g4.2.2.2
  have p0 := g3.1
  have p1 := g3.2
  clear g3
  clear g4
  clear f11 f14 f16 f18 f21 f24 f28 f31 f34 f37 f40 f43 f48 f51 f55 f58 f61 f64 f66 f69 f73 e2 e8 e21 e22
  subst e0
  subst e1
  subst e3
  subst e4
  subst e5
  subst e6
  subst e9
  subst e11
  subst e13
  subst e16
  subst e18
  rw [f26] at f32
  try have ca := cue_at (p1 (n3).toNat (by omega)) y0 (by omega) (by omega) (c := (16 * hV H1 346 (n0).toNat + hV H1 347 (n0).toNat)) (by omega)
  try have sh := y1 (n0).toNat (by omega)
  try have lv := y0 (n0).toNat (by omega)
  first
  | (have ix0 : n14 = 16 * (hV H1 346 (n0).toNat) := Eq.trans f32 (w32_iv (Iml 16 rfl (Iat f20 f19)) (by decide)); subst ix0; clear f32)
  | (have ix0 : n14 = 16 * (hV H1 346 (n0).toNat) := Eq.trans f32 (w32_id (by omega) (by omega)); subst ix0; clear f32)
  | (unfold w32 at f32; have ix0 : n14 = 16 * (hV H1 346 (n0).toNat) := (by omega); subst ix0)
  | skip
  first
  | (have ix1 : n17 = (16 * (hV H1 346 (n0).toNat)) + hV H1 347 (n0).toNat := Eq.trans f38 (w32_iv (Iad (Iml 16 rfl (Iat f20 f19)) (Iat f13 f12)) (by decide)); subst ix1; clear f38)
  | (have ix1 : n17 = (16 * (hV H1 346 (n0).toNat)) + hV H1 347 (n0).toNat := Eq.trans f38 (w32_id (by omega) (by omega)); subst ix1; clear f38)
  | (unfold w32 at f38; have ix1 : n17 = (16 * (hV H1 346 (n0).toNat)) + hV H1 347 (n0).toNat := (by omega); subst ix1)
  | skip
  first
  | (have ix2 : n21 = hV H1 347 (n0).toNat + 1 := Eq.trans f45 (w32_iv (Iad (Iat f13 f12) (IC 1)) (by decide)); subst ix2; clear f45)
  | (have ix2 : n21 = hV H1 347 (n0).toNat + 1 := Eq.trans f45 (w32_id (by omega) (by omega)); subst ix2; clear f45)
  | (unfold w32 at f45; have ix2 : n21 = hV H1 347 (n0).toNat + 1 := (by omega); subst ix2)
  | skip
  first
  | (have ix3 : n33 = hV H1 285 82 + 1 := Eq.trans f75 (w32_iv (Iad (Iat f57 f56) (IC 1)) (by decide)); subst ix3; clear f75)
  | (have ix3 : n33 = hV H1 285 82 + 1 := Eq.trans f75 (w32_id (by omega) (by omega)); subst ix3; clear f75)
  | (unfold w32 at f75; have ix3 : n33 = hV H1 285 82 + 1 := (by omega); subst ix3)
  | skip
  try unfold w32 at f32
  try unfold w32 at f38
  try unfold w32 at f45
  try unfold w32 at f75

  first
  | omega
  | (have ca := cue_at (p1 (n3).toNat (by omega)) y0 (by omega) (by omega) (c := (16 * hV H1 346 (n0).toNat + hV H1 347 (n0).toNat)) (by omega)
     omega)
  | (have ua := use_at (p1 (n3).toNat (by omega)) y0 (by omega) (by omega) (c := (16 * hV H1 346 (n0).toNat + hV H1 347 (n0).toNat)) (by omega) (by omega)
     omega)
  | (have ul := ULp_lay y2 (p1 (n3).toNat (by omega)) y0 (by omega) (by omega) (by omega) (c := (16 * hV H1 346 (n0).toNat + hV H1 347 (n0).toNat)) (by omega) (by omega)
     omega)
theorem c_270_34_23 {q0 : Nat} : vOkm T0 (eP e_270 L_270 A_270 mu_270 (some q0)) 2 ([(1, [33, 31, 32], [], 0), (0, [32], [], 1), (20, [31, 2], [4], 82), (90, [31], [], 0), (91, [31], [], 40), (80, [27, 28, 30], [4, 3], 0), (22, [30, 29, 4], [3], 0), (90, [30], [], -1000), (91, [30], [], 1000), (20, [29, 2], [3], 87), (0, [29], [], 348), (20, [28, 2], [3], 82), (90, [28], [], 0), (91, [28], [], 40), (20, [27, 2], [3], 84), (0, [27], [], 345), (80, [25, 26, 17], [3, 2], 0), (20, [26, 2], [2], 82), (90, [26], [], 0), (91, [26], [], 40), (20, [25, 2], [2], 83), (0, [25], [], 344), (41, [23, 24], [], 0), (0, [24], [], 5), (22, [23, 22, 17], [2], 0), (90, [23], [], 0), (91, [23], [], 5), (20, [22, 2], [2], 24), (0, [22], [], 298), (80, [18, 4, 21], [2, 1], 0), (1, [21, 19, 20], [], 0), (0, [20], [], 1), (22, [19, 18, 4], [1], 0), (90, [19], [], 0), (91, [19], [], 16), (20, [18, 2], [1], 86), (0, [18], [], 347), (1, [17, 14, 16], [], 0), (22, [16, 15, 4], [1], 0), (90, [16], [], 0), (91, [16], [], 16), (20, [15, 2], [1], 86), (0, [15], [], 347), (3, [14, 11, 13], [], 0), (22, [13, 12, 4], [1], 0), (90, [13], [], 0), (91, [13], [], 62), (20, [12, 2], [1], 85), (0, [12], [], 346), (0, [11], [], 16), (41, [6, 10], [], 0), (22, [10, 7, 9], [1], 0), (90, [10], [], 0), (91, [10], [], 16), (22, [9, 8, 4], [1], 0), (90, [9], [], 0), (91, [9], [], 62), (20, [8, 2], [1], 85), (0, [8], [], 346), (20, [7, 2], [1], 22), (0, [7], [], 296), (22, [6, 5, 4], [1], 0), (90, [6], [], 0), (91, [6], [], 16), (20, [5, 2], [1], 86), (0, [5], [], 347), (33, [4], [], 0), (5000, [0, 1, 2, 3, 4], [0, 1], 34), (0, [0], [], 285), (90, [1], [], 0), (91, [1], [], 7), (0, [2], [], 285), (90, [3], [], 0), (91, [3], [], 7), (90, [4], [], -1), (91, [4], [], 6)], (91, [33], [], 40)) := vOk_inI fun ρ η f0 f1 f2 f3 f4 f5 f6 f7 f8 f9 f10 f11 f12 f13 f14 f15 f16 f17 f18 f19 f20 f21 f22 f23 f24 f25 f26 f27 f28 f29 f30 f31 f32 f33 f34 f35 f36 f37 f38 f39 f40 f41 f42 f43 f44 f45 f46 f47 f48 f49 f50 f51 f52 f53 f54 f55 f56 f57 f58 f59 f60 f61 f62 f63 f64 f65 f66 f67 f68 f69 f70 f71 f72 f73 f74 f75 => q_270_26 (q0 := q0) (n0 := ρ 4) (n1 := ρ 3) (n2 := ρ 2) (n3 := ρ 1) (n4 := ρ 0) (n5 := ρ 5) (n6 := ρ 6) (n7 := ρ 7) (n8 := ρ 8) (n9 := ρ 9) (n10 := ρ 10) (n11 := ρ 11) (n12 := ρ 12) (n13 := ρ 13) (n14 := ρ 14) (n15 := ρ 15) (n16 := ρ 16) (n17 := ρ 17) (n18 := ρ 18) (n19 := ρ 19) (n20 := ρ 20) (n21 := ρ 21) (n22 := ρ 22) (n23 := ρ 23) (n24 := ρ 24) (n25 := ρ 25) (n26 := ρ 26) (n27 := ρ 27) (n28 := ρ 28) (n29 := ρ 29) (n30 := ρ 30) (n31 := ρ 31) (n32 := ρ 32) (n33 := ρ 33) (H0 := η 0) (H1 := η 1) (H2 := η 2) (H3 := η 3) (H4 := η 4) f75 f74 f73 f72 f71 f70 f69 f68 f67 f66 f65 f64 f63 f62 f61 f60 f59 f58 f57 f56 f55 f54 f53 f52 f51 f50 f49 f48 f47 f46 f45 f44 f43 f42 f41 f40 f39 f38 f37 f36 f35 f34 f33 f32 f31 f30 f29 f28 f27 f26 f25 f24 f23 f22 f21 f20 f19 f18 f17 f16 f15 f14 f13 f12 f11 f10 f9 f8 f7 f6 f5 f4 f3 f2 f1 f0
theorem q_270_27 {q0 : Nat} {n0 n1 n2 n3 n4 n5 n6 n7 n8 n9 n10 n11 n12 n13 n14 n15 n16 n17 n18 n19 n20 n21 n22 n23 n24 n25 n26 n27 n28 n29 n30 n31 n32 n33 n34 : Int} {H0 H1 H2 H3 H4 H5 : gH} (f0 : n0 ≤ 6) (f1 : (-1) ≤ n0) (f2 : n1 ≤ 7) (f3 : 0 ≤ n1) (f4 : n2 = 285) (f5 : n3 ≤ 7) (f6 : 0 ≤ n3) (f7 : n4 = 285) (f8 : (hLe T0 H0 H1 ∧ hFr s_270.2.2.2.2 H0 H1 ∧ hWt T0 H1) ∧ (Ab_270_34 n4 n3 n2 n1 n0 H0 H1 ∧ preb_270 n4 n3 H0) ∧ some q0 = some (mub_270_34 n4 n3 n2 n1 n0 H0 H1)) (f9 : 0 ≤ n0) (f10 : n5 = 347) (f11 : n5 = hV H1 (n2).toNat 86) (f12 : n6 ≤ 16) (f13 : 0 ≤ n6) (f14 : n6 = hV H1 (n5).toNat (n0).toNat) (f15 : n7 = 296) (f16 : n7 = hV H1 (n2).toNat 22) (f17 : n8 = 346) (f18 : n8 = hV H1 (n2).toNat 85) (f19 : n9 ≤ 62) (f20 : 0 ≤ n9) (f21 : n9 = hV H1 (n8).toNat (n0).toNat) (f22 : n10 ≤ 16) (f23 : 0 ≤ n10) (f24 : n10 = hV H1 (n7).toNat (n9).toNat) (f25 : n6 ≠ n10) (f26 : n11 = 16) (f27 : n12 = 346) (f28 : n12 = hV H1 (n2).toNat 85) (f29 : n13 ≤ 62) (f30 : 0 ≤ n13) (f31 : n13 = hV H1 (n12).toNat (n0).toNat) (f32 : n14 = w32 (n11 * n13)) (f33 : n15 = 347) (f34 : n15 = hV H1 (n2).toNat 86) (f35 : n16 ≤ 16) (f36 : 0 ≤ n16) (f37 : n16 = hV H1 (n15).toNat (n0).toNat) (f38 : n17 = w32 (n14 + n16)) (f39 : n18 = 347) (f40 : n18 = hV H1 (n2).toNat 86) (f41 : n19 ≤ 16) (f42 : 0 ≤ n19) (f43 : n19 = hV H1 (n18).toNat (n0).toNat) (f44 : n20 = 1) (f45 : n21 = w32 (n19 + n20)) (f46 : hUpd H2 H1 n18 n0 n21) (f47 : n22 = 298) (f48 : n22 = hV H2 (n2).toNat 24) (f49 : n23 ≤ 5) (f50 : 0 ≤ n23) (f51 : n23 = hV H2 (n22).toNat (n17).toNat) (f52 : n24 = 5) (f53 : n23 ≠ n24) (f54 : n25 = 344) (f55 : n25 = hV H2 (n2).toNat 83) (f56 : n26 ≤ 40) (f57 : 0 ≤ n26) (f58 : n26 = hV H2 (n2).toNat 82) (f59 : hUpd H3 H2 n25 n26 n17) (f60 : n27 = 345) (f61 : n27 = hV H3 (n2).toNat 84) (f62 : n28 ≤ 40) (f63 : 0 ≤ n28) (f64 : n28 = hV H3 (n2).toNat 82) (f65 : n29 = 348) (f66 : n29 = hV H3 (n2).toNat 87) (f67 : n30 ≤ 1000) (f68 : (-1000) ≤ n30) (f69 : n30 = hV H3 (n29).toNat (n0).toNat) (f70 : hUpd H4 H3 n27 n28 n30) (f71 : n31 ≤ 40) (f72 : 0 ≤ n31) (f73 : n31 = hV H4 (n2).toNat 82) (f74 : n32 = 1) (f75 : n33 = w32 (n31 + n32)) (f76 : n34 = 82) (f77 : hUpd H5 H4 n2 n34 n33) : Ab_270_34 n4 n3 n2 n1 n0 H0 H5 ∧ ∀ q, some q0 = some q → mub_270_34 n4 n3 n2 n1 n0 H0 H5 < q := by
  have g4 := f8.2.1.1
  unfold Ab_270_34 at g4
  have g3 := f8.2.1.2
  unfold preb_270 at g3
  have g5 := Option.some.inj f8.2.2
  unfold mub_270_34 at g5
  unfold Ab_270_34
  unfold mub_270_34
  have e0 : n6 = hV H1 347 (n0).toNat := (by rw [f10] at f14; exact f14 : n6 = hV H1 347 (n0).toNat)
  have e1 : n9 = hV H1 346 (n0).toNat := (by rw [f17] at f21; exact f21 : n9 = hV H1 346 (n0).toNat)
  have e2 : hV H1 296 = hV H0 296 := fRow f8.1.2.1 296 kR_270_296
  have e3 : n10 = hV H0 296 (n9).toNat := (by rw [f15] at f24; exact f24 : n10 = hV H1 296 (n9).toNat).trans ((congrFun e2 _))
  have e4 : n13 = hV H1 346 (n0).toNat := (by rw [f27] at f31; exact f31 : n13 = hV H1 346 (n0).toNat)
  have e5 : n16 = hV H1 347 (n0).toNat := (by rw [f33] at f37; exact f37 : n16 = hV H1 347 (n0).toNat)
  have e6 : n19 = hV H1 347 (n0).toNat := (by rw [f39] at f43; exact f43 : n19 = hV H1 347 (n0).toNat)
  have e8 : hV H1 298 = hV H0 298 := fRow f8.1.2.1 298 kR_270_298
  have e9 : n23 = hV H0 298 (n17).toNat := (by rw [f47] at f51; exact f51 : n23 = hV H2 298 (n17).toNat).trans (((congrFun (uRowNe f46 298 (iS (show n18 = ((347 : Nat) : Int) from f39) rfl)) _)).trans ((congrFun e8 _)))
  have e11 : n26 = hV H1 285 82 := (by rw [f4] at f58; exact f58 : n26 = hV H2 285 82).trans ((uPlace f46 285 82 (iS (show n18 = ((347 : Nat) : Int) from f39) rfl)))
  have e13 : n28 = hV H1 285 82 := (by rw [f4] at f64; exact f64 : n28 = hV H3 285 82).trans (((uPlace f59 285 82 (iS (show n25 = ((344 : Nat) : Int) from f54) rfl))).trans (uPlace f46 285 82 (iS (show n18 = ((347 : Nat) : Int) from f39) rfl)))
  have e16 : n30 = hV H1 348 (n0).toNat := (by rw [f65] at f69; exact f69 : n30 = hV H3 348 (n0).toNat).trans (((congrFun (uRowNe f59 348 (iS (show n25 = ((344 : Nat) : Int) from f54) rfl)) _)).trans ((congrFun (uRowNe f46 348 (iS (show n18 = ((347 : Nat) : Int) from f39) rfl)) _)))
  have e18 : n31 = hV H1 285 82 := (by rw [f4] at f73; exact f73 : n31 = hV H4 285 82).trans (((uPlace f70 285 82 (iS (show n27 = ((345 : Nat) : Int) from f60) rfl))).trans (((uPlace f59 285 82 (iS (show n25 = ((344 : Nat) : Int) from f54) rfl))).trans (uPlace f46 285 82 (iS (show n18 = ((347 : Nat) : Int) from f39) rfl))))
  have e21 : hV H1 294 = hV H0 294 := fRow f8.1.2.1 294 kR_270_294
  have e22 : hV H1 300 = hV H0 300 := fRow f8.1.2.1 300 kR_270_300
  have e24 : hV H5 285 82 = n33 := (uSame f77 285 82 f4.symm f76.symm)
  have e32 : hV H5 294 = hV H0 294 := (uRowNe f77 294 (iS (show n2 = ((285 : Nat) : Int) from f4) rfl)).trans ((uRowNe f70 294 (iS (show n27 = ((345 : Nat) : Int) from f60) rfl)).trans ((uRowNe f59 294 (iS (show n25 = ((344 : Nat) : Int) from f54) rfl)).trans ((uRowNe f46 294 (iS (show n18 = ((347 : Nat) : Int) from f39) rfl)).trans e21)))
  have e40 : hV H5 296 = hV H0 296 := (uRowNe f77 296 (iS (show n2 = ((285 : Nat) : Int) from f4) rfl)).trans ((uRowNe f70 296 (iS (show n27 = ((345 : Nat) : Int) from f60) rfl)).trans ((uRowNe f59 296 (iS (show n25 = ((344 : Nat) : Int) from f54) rfl)).trans ((uRowNe f46 296 (iS (show n18 = ((347 : Nat) : Int) from f39) rfl)).trans e2)))
  have e47 : hV H5 298 = hV H0 298 := (uRowNe f77 298 (iS (show n2 = ((285 : Nat) : Int) from f4) rfl)).trans ((uRowNe f70 298 (iS (show n27 = ((345 : Nat) : Int) from f60) rfl)).trans ((uRowNe f59 298 (iS (show n25 = ((344 : Nat) : Int) from f54) rfl)).trans ((uRowNe f46 298 (iS (show n18 = ((347 : Nat) : Int) from f39) rfl)).trans e8)))
  have e55 : hV H5 300 = hV H0 300 := (uRowNe f77 300 (iS (show n2 = ((285 : Nat) : Int) from f4) rfl)).trans ((uRowNe f70 300 (iS (show n27 = ((345 : Nat) : Int) from f60) rfl)).trans ((uRowNe f59 300 (iS (show n25 = ((344 : Nat) : Int) from f54) rfl)).trans ((uRowNe f46 300 (iS (show n18 = ((347 : Nat) : Int) from f39) rfl)).trans e22)))
  have e62 : hV H5 344 = (uF (hV H1 344) n26 n17) := (uRowNe f77 344 (iS (show n2 = ((285 : Nat) : Int) from f4) rfl)).trans ((uRowNe f70 344 (iS (show n27 = ((345 : Nat) : Int) from f60) rfl)).trans ((uRow f59 344 f54.symm).trans (congrArg (fun z => uF z n26 n17) (uRowNe f46 344 (iS (show n18 = ((347 : Nat) : Int) from f39) rfl)))))
  have e69 : hV H5 346 = hV H1 346 := (uRowNe f77 346 (iS (show n2 = ((285 : Nat) : Int) from f4) rfl)).trans ((uRowNe f70 346 (iS (show n27 = ((345 : Nat) : Int) from f60) rfl)).trans ((uRowNe f59 346 (iS (show n25 = ((344 : Nat) : Int) from f54) rfl)).trans (uRowNe f46 346 (iS (show n18 = ((347 : Nat) : Int) from f39) rfl))))
  have e76 : hV H5 347 = (uF (hV H1 347) n0 n21) := (uRowNe f77 347 (iS (show n2 = ((285 : Nat) : Int) from f4) rfl)).trans ((uRowNe f70 347 (iS (show n27 = ((345 : Nat) : Int) from f60) rfl)).trans ((uRowNe f59 347 (iS (show n25 = ((344 : Nat) : Int) from f54) rfl)).trans (uRow f46 347 f39.symm)))
  have e81 : hV H5 348 = hV H1 348 := (uRowNe f77 348 (iS (show n2 = ((285 : Nat) : Int) from f4) rfl)).trans ((uRowNe f70 348 (iS (show n27 = ((345 : Nat) : Int) from f60) rfl)).trans ((uRowNe f59 348 (iS (show n25 = ((344 : Nat) : Int) from f54) rfl)).trans (uRowNe f46 348 (iS (show n18 = ((347 : Nat) : Int) from f39) rfl))))
  have e82 : (0 : Int) ≤ hV H0 285 18 ∧ hV H0 285 18 ≤ 8 := bTo ((f8.1.2.1.1 285 18 kF_270_285_18)) (f8.1.2.2 285 18 _ _ kW_285_18)
  have e83 : (0 : Int) ≤ hV H1 285 82 ∧ hV H1 285 82 ≤ 40 := f8.1.2.2 285 82 _ _ kW_285_82
  try simp only [e21, e2, e8, e22] at g4
  try simp only [e2] at g5
  try simp only [e24, e32, e40, e47, e55, e62, e69, e76, e81]
  have k0 := g4.1
  have y0 := g4.2.1
  have y1 := g4.2.2.1
  have y2 := g4.2.2.2
  have p0 := g3.1
  have p1 := g3.2
  clear g3
  clear g4
  clear f11 f14 f16 f18 f21 f24 f28 f31 f34 f37 f40 f43 f48 f51 f55 f58 f61 f64 f66 f69 f73 e2 e8 e21 e22 e32 e40 e47 e55 e62 e69 e76 e81
  subst e0
  subst e1
  subst e3
  subst e4
  subst e5
  subst e6
  subst e9
  subst e11
  subst e13
  subst e16
  subst e18
  rw [f26] at f32
  try have ca := cue_at (p1 (n3).toNat (by omega)) y0 (by omega) (by omega) (c := (16 * hV H1 346 (n0).toNat + hV H1 347 (n0).toNat)) (by omega)
  try have sh := y1 (n0).toNat (by omega)
  try have lv := y0 (n0).toNat (by omega)
  first
  | (have ix0 : n14 = 16 * (hV H1 346 (n0).toNat) := Eq.trans f32 (w32_iv (Iml 16 rfl (Iat f20 f19)) (by decide)); subst ix0; clear f32)
  | (have ix0 : n14 = 16 * (hV H1 346 (n0).toNat) := Eq.trans f32 (w32_id (by omega) (by omega)); subst ix0; clear f32)
  | (unfold w32 at f32; have ix0 : n14 = 16 * (hV H1 346 (n0).toNat) := (by omega); subst ix0)
  | skip
  first
  | (have ix1 : n17 = (16 * (hV H1 346 (n0).toNat)) + hV H1 347 (n0).toNat := Eq.trans f38 (w32_iv (Iad (Iml 16 rfl (Iat f20 f19)) (Iat f13 f12)) (by decide)); subst ix1; clear f38)
  | (have ix1 : n17 = (16 * (hV H1 346 (n0).toNat)) + hV H1 347 (n0).toNat := Eq.trans f38 (w32_id (by omega) (by omega)); subst ix1; clear f38)
  | (unfold w32 at f38; have ix1 : n17 = (16 * (hV H1 346 (n0).toNat)) + hV H1 347 (n0).toNat := (by omega); subst ix1)
  | skip
  first
  | (have ix2 : n21 = hV H1 347 (n0).toNat + 1 := Eq.trans f45 (w32_iv (Iad (Iat f13 f12) (IC 1)) (by decide)); subst ix2; clear f45)
  | (have ix2 : n21 = hV H1 347 (n0).toNat + 1 := Eq.trans f45 (w32_id (by omega) (by omega)); subst ix2; clear f45)
  | (unfold w32 at f45; have ix2 : n21 = hV H1 347 (n0).toNat + 1 := (by omega); subst ix2)
  | skip
  first
  | (have ix3 : n33 = hV H1 285 82 + 1 := Eq.trans f75 (w32_iv (Iad (Iat f57 f56) (IC 1)) (by decide)); subst ix3; clear f75)
  | (have ix3 : n33 = hV H1 285 82 + 1 := Eq.trans f75 (w32_id (by omega) (by omega)); subst ix3; clear f75)
  | (unfold w32 at f75; have ix3 : n33 = hV H1 285 82 + 1 := (by omega); subst ix3)
  | skip
  try unfold w32 at f32
  try unfold w32 at f38
  try unfold w32 at f45
  try unfold w32 at f75

  have ul := ULp_lay y2 (p1 (n3).toNat (by omega)) y0 (by omega) (by omega) (by omega) (c := (16 * hV H1 346 (n0).toNat + hV H1 347 (n0).toNat)) (by omega) (by omega)
  refine ⟨?_, fun q hq => ?_⟩
  · exact ⟨by first | omega | trivial, LVp_next y0 (by omega) (by omega) (by omega) (by omega), y1, ul.2 _ _ _ _ _ (by omega) (by omega) (by omega) (by omega) (by omega)⟩
  · have g6 := Option.some.inj hq
    subst g6
    rw [g5]
    exact MS_lt_lay y0 (by omega) (by omega) (by omega) (by omega)
theorem c_270_34_24 {q0 : Nat} : vOkm T0 (eP e_270 L_270 A_270 mu_270 (some q0)) 2 ([(80, [2, 34, 33], [5, 4], 0), (0, [34], [], 82), (1, [33, 31, 32], [], 0), (0, [32], [], 1), (20, [31, 2], [4], 82), (90, [31], [], 0), (91, [31], [], 40), (80, [27, 28, 30], [4, 3], 0), (22, [30, 29, 4], [3], 0), (90, [30], [], -1000), (91, [30], [], 1000), (20, [29, 2], [3], 87), (0, [29], [], 348), (20, [28, 2], [3], 82), (90, [28], [], 0), (91, [28], [], 40), (20, [27, 2], [3], 84), (0, [27], [], 345), (80, [25, 26, 17], [3, 2], 0), (20, [26, 2], [2], 82), (90, [26], [], 0), (91, [26], [], 40), (20, [25, 2], [2], 83), (0, [25], [], 344), (41, [23, 24], [], 0), (0, [24], [], 5), (22, [23, 22, 17], [2], 0), (90, [23], [], 0), (91, [23], [], 5), (20, [22, 2], [2], 24), (0, [22], [], 298), (80, [18, 4, 21], [2, 1], 0), (1, [21, 19, 20], [], 0), (0, [20], [], 1), (22, [19, 18, 4], [1], 0), (90, [19], [], 0), (91, [19], [], 16), (20, [18, 2], [1], 86), (0, [18], [], 347), (1, [17, 14, 16], [], 0), (22, [16, 15, 4], [1], 0), (90, [16], [], 0), (91, [16], [], 16), (20, [15, 2], [1], 86), (0, [15], [], 347), (3, [14, 11, 13], [], 0), (22, [13, 12, 4], [1], 0), (90, [13], [], 0), (91, [13], [], 62), (20, [12, 2], [1], 85), (0, [12], [], 346), (0, [11], [], 16), (41, [6, 10], [], 0), (22, [10, 7, 9], [1], 0), (90, [10], [], 0), (91, [10], [], 16), (22, [9, 8, 4], [1], 0), (90, [9], [], 0), (91, [9], [], 62), (20, [8, 2], [1], 85), (0, [8], [], 346), (20, [7, 2], [1], 22), (0, [7], [], 296), (22, [6, 5, 4], [1], 0), (90, [6], [], 0), (91, [6], [], 16), (20, [5, 2], [1], 86), (0, [5], [], 347), (33, [4], [], 0), (5000, [0, 1, 2, 3, 4], [0, 1], 34), (0, [0], [], 285), (90, [1], [], 0), (91, [1], [], 7), (0, [2], [], 285), (90, [3], [], 0), (91, [3], [], 7), (90, [4], [], -1), (91, [4], [], 6)], (4000, [2, 3, 4], [5], 34)) := vOk_inI fun ρ η f0 f1 f2 f3 f4 f5 f6 f7 f8 f9 f10 f11 f12 f13 f14 f15 f16 f17 f18 f19 f20 f21 f22 f23 f24 f25 f26 f27 f28 f29 f30 f31 f32 f33 f34 f35 f36 f37 f38 f39 f40 f41 f42 f43 f44 f45 f46 f47 f48 f49 f50 f51 f52 f53 f54 f55 f56 f57 f58 f59 f60 f61 f62 f63 f64 f65 f66 f67 f68 f69 f70 f71 f72 f73 f74 f75 f76 f77 => q_270_27 (q0 := q0) (n0 := ρ 4) (n1 := ρ 3) (n2 := ρ 2) (n3 := ρ 1) (n4 := ρ 0) (n5 := ρ 5) (n6 := ρ 6) (n7 := ρ 7) (n8 := ρ 8) (n9 := ρ 9) (n10 := ρ 10) (n11 := ρ 11) (n12 := ρ 12) (n13 := ρ 13) (n14 := ρ 14) (n15 := ρ 15) (n16 := ρ 16) (n17 := ρ 17) (n18 := ρ 18) (n19 := ρ 19) (n20 := ρ 20) (n21 := ρ 21) (n22 := ρ 22) (n23 := ρ 23) (n24 := ρ 24) (n25 := ρ 25) (n26 := ρ 26) (n27 := ρ 27) (n28 := ρ 28) (n29 := ρ 29) (n30 := ρ 30) (n31 := ρ 31) (n32 := ρ 32) (n33 := ρ 33) (n34 := ρ 34) (H0 := η 0) (H1 := η 1) (H2 := η 2) (H3 := η 3) (H4 := η 4) (H5 := η 5) f77 f76 f75 f74 f73 f72 f71 f70 f69 f68 f67 f66 f65 f64 f63 f62 f61 f60 f59 f58 f57 f56 f55 f54 f53 f52 f51 f50 f49 f48 f47 f46 f45 f44 f43 f42 f41 f40 f39 f38 f37 f36 f35 f34 f33 f32 f31 f30 f29 f28 f27 f26 f25 f24 f23 f22 f21 f20 f19 f18 f17 f16 f15 f14 f13 f12 f11 f10 f9 f8 f7 f6 f5 f4 f3 f2 f1 f0
theorem q_270_28 {q0 : Nat} {n0 n1 n2 n3 n4 n5 n6 n7 n8 n9 n10 n11 : Int} {H0 H1 : gH} (f0 : n0 ≤ 6) (f1 : (-1) ≤ n0) (f2 : n1 ≤ 7) (f3 : 0 ≤ n1) (f4 : n2 = 285) (f5 : n3 ≤ 7) (f6 : 0 ≤ n3) (f7 : n4 = 285) (f8 : (hLe T0 H0 H1 ∧ hFr s_270.2.2.2.2 H0 H1 ∧ hWt T0 H1) ∧ (Ab_270_34 n4 n3 n2 n1 n0 H0 H1 ∧ preb_270 n4 n3 H0) ∧ some q0 = some (mub_270_34 n4 n3 n2 n1 n0 H0 H1)) (f9 : 0 ≤ n0) (f10 : n5 = 347) (f11 : n5 = hV H1 (n2).toNat 86) (f12 : n6 ≤ 16) (f13 : 0 ≤ n6) (f14 : n6 = hV H1 (n5).toNat (n0).toNat) (f15 : n7 = 296) (f16 : n7 = hV H1 (n2).toNat 22) (f17 : n8 = 346) (f18 : n8 = hV H1 (n2).toNat 85) (f19 : n9 ≤ 62) (f20 : 0 ≤ n9) (f21 : n9 = hV H1 (n8).toNat (n0).toNat) (f22 : n10 ≤ 16) (f23 : 0 ≤ n10) (f24 : n10 = hV H1 (n7).toNat (n9).toNat) (f25 : n6 = n10) (f26 : n11 = w32 (n0 + (-1))) : (-1) ≤ n11 := by
  have g4 := f8.2.1.1
  unfold Ab_270_34 at g4
  have g3 := f8.2.1.2
  unfold preb_270 at g3
  have e0 : n6 = hV H1 347 (n0).toNat := (by rw [f10] at f14; exact f14 : n6 = hV H1 347 (n0).toNat)
  have e1 : n9 = hV H1 346 (n0).toNat := (by rw [f17] at f21; exact f21 : n9 = hV H1 346 (n0).toNat)
  have e2 : hV H1 296 = hV H0 296 := fRow f8.1.2.1 296 kR_270_296
  have e3 : n10 = hV H0 296 (n9).toNat := (by rw [f15] at f24; exact f24 : n10 = hV H1 296 (n9).toNat).trans ((congrFun e2 _))
  have e6 : hV H1 294 = hV H0 294 := fRow f8.1.2.1 294 kR_270_294
  have e7 : hV H1 298 = hV H0 298 := fRow f8.1.2.1 298 kR_270_298
  have e8 : hV H1 300 = hV H0 300 := fRow f8.1.2.1 300 kR_270_300
  have e9 : (0 : Int) ≤ hV H0 285 18 ∧ hV H0 285 18 ≤ 8 := bTo ((f8.1.2.1.1 285 18 kF_270_285_18)) (f8.1.2.2 285 18 _ _ kW_285_18)
  have e10 : (0 : Int) ≤ hV H1 285 82 ∧ hV H1 285 82 ≤ 40 := f8.1.2.2 285 82 _ _ kW_285_82
  try simp only [e6, e2, e7, e8] at g4
  have k0 := g4.1
  have y0 := g4.2.1
  have y1 := g4.2.2.1
  have y2 := g4.2.2.2
  have p0 := g3.1
  have p1 := g3.2
  clear g3
  clear g4
  clear f11 f14 f16 f18 f21 f24 e2 e6 e7 e8
  subst e0
  subst e1
  subst e3
  try have ca := cue_at (p1 (n3).toNat (by omega)) y0 (by omega) (by omega) (c := (16 * hV H1 346 (n0).toNat + hV H1 347 (n0).toNat)) (by omega)
  try have sh := y1 (n0).toNat (by omega)
  try have lv := y0 (n0).toNat (by omega)
  first
  | (have ix0 : n11 = n0 + -1 := Eq.trans f26 (w32_iv (Iad (Iat f1 f0) (IC (-1))) (by decide)); subst ix0; clear f26)
  | (have ix0 : n11 = n0 + -1 := Eq.trans f26 (w32_id (by omega) (by omega)); subst ix0; clear f26)
  | (unfold w32 at f26; have ix0 : n11 = n0 + -1 := (by omega); subst ix0)
  | skip
  try unfold w32 at f26

  first
  | omega
  | (have ca := cue_at (p1 (n3).toNat (by omega)) y0 (by omega) (by omega) (c := (16 * hV H1 346 (n0).toNat + hV H1 347 (n0).toNat)) (by omega)
     omega)
  | (have ua := use_at (p1 (n3).toNat (by omega)) y0 (by omega) (by omega) (c := (16 * hV H1 346 (n0).toNat + hV H1 347 (n0).toNat)) (by omega) (by omega)
     omega)
  | (have ul := ULp_lay y2 (p1 (n3).toNat (by omega)) y0 (by omega) (by omega) (by omega) (c := (16 * hV H1 346 (n0).toNat + hV H1 347 (n0).toNat)) (by omega) (by omega)
     omega)
theorem c_270_34_25 {q0 : Nat} : vOkm T0 (eP e_270 L_270 A_270 mu_270 (some q0)) 2 ([(10, [11, 4], [], -1), (40, [6, 10], [], 0), (22, [10, 7, 9], [1], 0), (90, [10], [], 0), (91, [10], [], 16), (22, [9, 8, 4], [1], 0), (90, [9], [], 0), (91, [9], [], 62), (20, [8, 2], [1], 85), (0, [8], [], 346), (20, [7, 2], [1], 22), (0, [7], [], 296), (22, [6, 5, 4], [1], 0), (90, [6], [], 0), (91, [6], [], 16), (20, [5, 2], [1], 86), (0, [5], [], 347), (33, [4], [], 0), (5000, [0, 1, 2, 3, 4], [0, 1], 34), (0, [0], [], 285), (90, [1], [], 0), (91, [1], [], 7), (0, [2], [], 285), (90, [3], [], 0), (91, [3], [], 7), (90, [4], [], -1), (91, [4], [], 6)], (90, [11], [], -1)) := vOk_inI fun ρ η f0 f1 f2 f3 f4 f5 f6 f7 f8 f9 f10 f11 f12 f13 f14 f15 f16 f17 f18 f19 f20 f21 f22 f23 f24 f25 f26 => q_270_28 (q0 := q0) (n0 := ρ 4) (n1 := ρ 3) (n2 := ρ 2) (n3 := ρ 1) (n4 := ρ 0) (n5 := ρ 5) (n6 := ρ 6) (n7 := ρ 7) (n8 := ρ 8) (n9 := ρ 9) (n10 := ρ 10) (n11 := ρ 11) (H0 := η 0) (H1 := η 1) f26 f25 f24 f23 f22 f21 f20 f19 f18 f17 f16 f15 f14 f13 f12 f11 f10 f9 f8 f7 f6 f5 f4 f3 f2 f1 f0
theorem q_270_29 {q0 : Nat} {n0 n1 n2 n3 n4 n5 n6 n7 n8 n9 n10 n11 : Int} {H0 H1 : gH} (f0 : n0 ≤ 6) (f1 : (-1) ≤ n0) (f2 : n1 ≤ 7) (f3 : 0 ≤ n1) (f4 : n2 = 285) (f5 : n3 ≤ 7) (f6 : 0 ≤ n3) (f7 : n4 = 285) (f8 : (hLe T0 H0 H1 ∧ hFr s_270.2.2.2.2 H0 H1 ∧ hWt T0 H1) ∧ (Ab_270_34 n4 n3 n2 n1 n0 H0 H1 ∧ preb_270 n4 n3 H0) ∧ some q0 = some (mub_270_34 n4 n3 n2 n1 n0 H0 H1)) (f9 : 0 ≤ n0) (f10 : n5 = 347) (f11 : n5 = hV H1 (n2).toNat 86) (f12 : n6 ≤ 16) (f13 : 0 ≤ n6) (f14 : n6 = hV H1 (n5).toNat (n0).toNat) (f15 : n7 = 296) (f16 : n7 = hV H1 (n2).toNat 22) (f17 : n8 = 346) (f18 : n8 = hV H1 (n2).toNat 85) (f19 : n9 ≤ 62) (f20 : 0 ≤ n9) (f21 : n9 = hV H1 (n8).toNat (n0).toNat) (f22 : n10 ≤ 16) (f23 : 0 ≤ n10) (f24 : n10 = hV H1 (n7).toNat (n9).toNat) (f25 : n6 = n10) (f26 : n11 = w32 (n0 + (-1))) : n11 ≤ 6 := by
  have g4 := f8.2.1.1
  unfold Ab_270_34 at g4
  have g3 := f8.2.1.2
  unfold preb_270 at g3
  have e0 : n6 = hV H1 347 (n0).toNat := (by rw [f10] at f14; exact f14 : n6 = hV H1 347 (n0).toNat)
  have e1 : n9 = hV H1 346 (n0).toNat := (by rw [f17] at f21; exact f21 : n9 = hV H1 346 (n0).toNat)
  have e2 : hV H1 296 = hV H0 296 := fRow f8.1.2.1 296 kR_270_296
  have e3 : n10 = hV H0 296 (n9).toNat := (by rw [f15] at f24; exact f24 : n10 = hV H1 296 (n9).toNat).trans ((congrFun e2 _))
  have e6 : hV H1 294 = hV H0 294 := fRow f8.1.2.1 294 kR_270_294
  have e7 : hV H1 298 = hV H0 298 := fRow f8.1.2.1 298 kR_270_298
  have e8 : hV H1 300 = hV H0 300 := fRow f8.1.2.1 300 kR_270_300
  have e9 : (0 : Int) ≤ hV H0 285 18 ∧ hV H0 285 18 ≤ 8 := bTo ((f8.1.2.1.1 285 18 kF_270_285_18)) (f8.1.2.2 285 18 _ _ kW_285_18)
  have e10 : (0 : Int) ≤ hV H1 285 82 ∧ hV H1 285 82 ≤ 40 := f8.1.2.2 285 82 _ _ kW_285_82
  try simp only [e6, e2, e7, e8] at g4
  have k0 := g4.1
  have y0 := g4.2.1
  have y1 := g4.2.2.1
  have y2 := g4.2.2.2
  have p0 := g3.1
  have p1 := g3.2
  clear g3
  clear g4
  clear f11 f14 f16 f18 f21 f24 e2 e6 e7 e8
  subst e0
  subst e1
  subst e3
  try have ca := cue_at (p1 (n3).toNat (by omega)) y0 (by omega) (by omega) (c := (16 * hV H1 346 (n0).toNat + hV H1 347 (n0).toNat)) (by omega)
  try have sh := y1 (n0).toNat (by omega)
  try have lv := y0 (n0).toNat (by omega)
  first
  | (have ix0 : n11 = n0 + -1 := Eq.trans f26 (w32_iv (Iad (Iat f1 f0) (IC (-1))) (by decide)); subst ix0; clear f26)
  | (have ix0 : n11 = n0 + -1 := Eq.trans f26 (w32_id (by omega) (by omega)); subst ix0; clear f26)
  | (unfold w32 at f26; have ix0 : n11 = n0 + -1 := (by omega); subst ix0)
  | skip
  try unfold w32 at f26

  first
  | omega
  | (have ca := cue_at (p1 (n3).toNat (by omega)) y0 (by omega) (by omega) (c := (16 * hV H1 346 (n0).toNat + hV H1 347 (n0).toNat)) (by omega)
     omega)
  | (have ua := use_at (p1 (n3).toNat (by omega)) y0 (by omega) (by omega) (c := (16 * hV H1 346 (n0).toNat + hV H1 347 (n0).toNat)) (by omega) (by omega)
     omega)
  | (have ul := ULp_lay y2 (p1 (n3).toNat (by omega)) y0 (by omega) (by omega) (by omega) (c := (16 * hV H1 346 (n0).toNat + hV H1 347 (n0).toNat)) (by omega) (by omega)
     omega)
theorem c_270_34_26 {q0 : Nat} : vOkm T0 (eP e_270 L_270 A_270 mu_270 (some q0)) 2 ([(10, [11, 4], [], -1), (40, [6, 10], [], 0), (22, [10, 7, 9], [1], 0), (90, [10], [], 0), (91, [10], [], 16), (22, [9, 8, 4], [1], 0), (90, [9], [], 0), (91, [9], [], 62), (20, [8, 2], [1], 85), (0, [8], [], 346), (20, [7, 2], [1], 22), (0, [7], [], 296), (22, [6, 5, 4], [1], 0), (90, [6], [], 0), (91, [6], [], 16), (20, [5, 2], [1], 86), (0, [5], [], 347), (33, [4], [], 0), (5000, [0, 1, 2, 3, 4], [0, 1], 34), (0, [0], [], 285), (90, [1], [], 0), (91, [1], [], 7), (0, [2], [], 285), (90, [3], [], 0), (91, [3], [], 7), (90, [4], [], -1), (91, [4], [], 6)], (91, [11], [], 6)) := vOk_inI fun ρ η f0 f1 f2 f3 f4 f5 f6 f7 f8 f9 f10 f11 f12 f13 f14 f15 f16 f17 f18 f19 f20 f21 f22 f23 f24 f25 f26 => q_270_29 (q0 := q0) (n0 := ρ 4) (n1 := ρ 3) (n2 := ρ 2) (n3 := ρ 1) (n4 := ρ 0) (n5 := ρ 5) (n6 := ρ 6) (n7 := ρ 7) (n8 := ρ 8) (n9 := ρ 9) (n10 := ρ 10) (n11 := ρ 11) (H0 := η 0) (H1 := η 1) f26 f25 f24 f23 f22 f21 f20 f19 f18 f17 f16 f15 f14 f13 f12 f11 f10 f9 f8 f7 f6 f5 f4 f3 f2 f1 f0
theorem q_270_30 {q0 : Nat} {n0 n1 n2 n3 n4 n5 n6 n7 n8 n9 n10 n11 : Int} {H0 H1 : gH} (f0 : n0 ≤ 6) (f1 : (-1) ≤ n0) (f2 : n1 ≤ 7) (f3 : 0 ≤ n1) (f4 : n2 = 285) (f5 : n3 ≤ 7) (f6 : 0 ≤ n3) (f7 : n4 = 285) (f8 : (hLe T0 H0 H1 ∧ hFr s_270.2.2.2.2 H0 H1 ∧ hWt T0 H1) ∧ (Ab_270_34 n4 n3 n2 n1 n0 H0 H1 ∧ preb_270 n4 n3 H0) ∧ some q0 = some (mub_270_34 n4 n3 n2 n1 n0 H0 H1)) (f9 : 0 ≤ n0) (f10 : n5 = 347) (f11 : n5 = hV H1 (n2).toNat 86) (f12 : n6 ≤ 16) (f13 : 0 ≤ n6) (f14 : n6 = hV H1 (n5).toNat (n0).toNat) (f15 : n7 = 296) (f16 : n7 = hV H1 (n2).toNat 22) (f17 : n8 = 346) (f18 : n8 = hV H1 (n2).toNat 85) (f19 : n9 ≤ 62) (f20 : 0 ≤ n9) (f21 : n9 = hV H1 (n8).toNat (n0).toNat) (f22 : n10 ≤ 16) (f23 : 0 ≤ n10) (f24 : n10 = hV H1 (n7).toNat (n9).toNat) (f25 : n6 = n10) (f26 : n11 = w32 (n0 + (-1))) : Ab_270_34 n4 n3 n2 n1 n11 H0 H1 ∧ ∀ q, some q0 = some q → mub_270_34 n4 n3 n2 n1 n11 H0 H1 < q := by
  have g4 := f8.2.1.1
  unfold Ab_270_34 at g4
  have g3 := f8.2.1.2
  unfold preb_270 at g3
  have g5 := Option.some.inj f8.2.2
  unfold mub_270_34 at g5
  unfold Ab_270_34
  unfold mub_270_34
  have e0 : n6 = hV H1 347 (n0).toNat := (by rw [f10] at f14; exact f14 : n6 = hV H1 347 (n0).toNat)
  have e1 : n9 = hV H1 346 (n0).toNat := (by rw [f17] at f21; exact f21 : n9 = hV H1 346 (n0).toNat)
  have e2 : hV H1 296 = hV H0 296 := fRow f8.1.2.1 296 kR_270_296
  have e3 : n10 = hV H0 296 (n9).toNat := (by rw [f15] at f24; exact f24 : n10 = hV H1 296 (n9).toNat).trans ((congrFun e2 _))
  have e6 : hV H1 294 = hV H0 294 := fRow f8.1.2.1 294 kR_270_294
  have e7 : hV H1 298 = hV H0 298 := fRow f8.1.2.1 298 kR_270_298
  have e8 : hV H1 300 = hV H0 300 := fRow f8.1.2.1 300 kR_270_300
  have e9 : (0 : Int) ≤ hV H0 285 18 ∧ hV H0 285 18 ≤ 8 := bTo ((f8.1.2.1.1 285 18 kF_270_285_18)) (f8.1.2.2 285 18 _ _ kW_285_18)
  have e10 : (0 : Int) ≤ hV H1 285 82 ∧ hV H1 285 82 ≤ 40 := f8.1.2.2 285 82 _ _ kW_285_82
  try simp only [e6, e2, e7, e8] at g4
  try simp only [e2] at g5
  try simp only [e6, e2, e7, e8]
  have k0 := g4.1
  have y0 := g4.2.1
  have y1 := g4.2.2.1
  have y2 := g4.2.2.2
  have p0 := g3.1
  have p1 := g3.2
  clear g3
  clear g4
  clear f11 f14 f16 f18 f21 f24 e2 e6 e7 e8
  subst e0
  subst e1
  subst e3
  try have ca := cue_at (p1 (n3).toNat (by omega)) y0 (by omega) (by omega) (c := (16 * hV H1 346 (n0).toNat + hV H1 347 (n0).toNat)) (by omega)
  try have sh := y1 (n0).toNat (by omega)
  try have lv := y0 (n0).toNat (by omega)
  first
  | (have ix0 : n11 = n0 + -1 := Eq.trans f26 (w32_iv (Iad (Iat f1 f0) (IC (-1))) (by decide)); subst ix0; clear f26)
  | (have ix0 : n11 = n0 + -1 := Eq.trans f26 (w32_id (by omega) (by omega)); subst ix0; clear f26)
  | (unfold w32 at f26; have ix0 : n11 = n0 + -1 := (by omega); subst ix0)
  | skip
  try unfold w32 at f26

  refine ⟨?_, fun q hq => ?_⟩
  · exact ⟨by first | omega | trivial, LVp_pop y0 (by omega), SHp_pop y1 (by omega), ULp_pop y2 (by omega) (by omega) (by omega)⟩
  · have g6 := Option.some.inj hq
    subst g6
    rw [g5]
    exact MS_lt_pop (by omega) (by omega)
theorem c_270_34_27 {q0 : Nat} : vOkm T0 (eP e_270 L_270 A_270 mu_270 (some q0)) 2 ([(10, [11, 4], [], -1), (40, [6, 10], [], 0), (22, [10, 7, 9], [1], 0), (90, [10], [], 0), (91, [10], [], 16), (22, [9, 8, 4], [1], 0), (90, [9], [], 0), (91, [9], [], 62), (20, [8, 2], [1], 85), (0, [8], [], 346), (20, [7, 2], [1], 22), (0, [7], [], 296), (22, [6, 5, 4], [1], 0), (90, [6], [], 0), (91, [6], [], 16), (20, [5, 2], [1], 86), (0, [5], [], 347), (33, [4], [], 0), (5000, [0, 1, 2, 3, 4], [0, 1], 34), (0, [0], [], 285), (90, [1], [], 0), (91, [1], [], 7), (0, [2], [], 285), (90, [3], [], 0), (91, [3], [], 7), (90, [4], [], -1), (91, [4], [], 6)], (4000, [2, 3, 11], [1], 34)) := vOk_inI fun ρ η f0 f1 f2 f3 f4 f5 f6 f7 f8 f9 f10 f11 f12 f13 f14 f15 f16 f17 f18 f19 f20 f21 f22 f23 f24 f25 f26 => q_270_30 (q0 := q0) (n0 := ρ 4) (n1 := ρ 3) (n2 := ρ 2) (n3 := ρ 1) (n4 := ρ 0) (n5 := ρ 5) (n6 := ρ 6) (n7 := ρ 7) (n8 := ρ 8) (n9 := ρ 9) (n10 := ρ 10) (n11 := ρ 11) (H0 := η 0) (H1 := η 1) f26 f25 f24 f23 f22 f21 f20 f19 f18 f17 f16 f15 f14 f13 f12 f11 f10 f9 f8 f7 f6 f5 f4 f3 f2 f1 f0
def p_270_34 : List vG := [([(32, [4], [], 0), (5000, [0, 1, 2, 3, 4], [0, 1], 34), (0, [0], [], 285), (90, [1], [], 0), (91, [1], [], 7), (0, [2], [], 285), (90, [3], [], 0), (91, [3], [], 7), (90, [4], [], -1), (91, [4], [], 6)], (3000, [], [1], 203)),
  ([(1, [21, 19, 20], [], 0), (0, [20], [], 1), (22, [19, 18, 4], [1], 0), (90, [19], [], 0), (91, [19], [], 16), (20, [18, 2], [1], 86), (0, [18], [], 347), (1, [17, 14, 16], [], 0), (22, [16, 15, 4], [1], 0), (90, [16], [], 0), (91, [16], [], 16), (20, [15, 2], [1], 86), (0, [15], [], 347), (3, [14, 11, 13], [], 0), (22, [13, 12, 4], [1], 0), (90, [13], [], 0), (91, [13], [], 62), (20, [12, 2], [1], 85), (0, [12], [], 346), (0, [11], [], 16), (41, [6, 10], [], 0), (22, [10, 7, 9], [1], 0), (90, [10], [], 0), (91, [10], [], 16), (22, [9, 8, 4], [1], 0), (90, [9], [], 0), (91, [9], [], 62), (20, [8, 2], [1], 85), (0, [8], [], 346), (20, [7, 2], [1], 22), (0, [7], [], 296), (22, [6, 5, 4], [1], 0), (90, [6], [], 0), (91, [6], [], 16), (20, [5, 2], [1], 86), (0, [5], [], 347), (33, [4], [], 0), (5000, [0, 1, 2, 3, 4], [0, 1], 34), (0, [0], [], 285), (90, [1], [], 0), (91, [1], [], 7), (0, [2], [], 285), (90, [3], [], 0), (91, [3], [], 7), (90, [4], [], -1), (91, [4], [], 6)], (90, [21], [], 0)),
  ([(1, [21, 19, 20], [], 0), (0, [20], [], 1), (22, [19, 18, 4], [1], 0), (90, [19], [], 0), (91, [19], [], 16), (20, [18, 2], [1], 86), (0, [18], [], 347), (1, [17, 14, 16], [], 0), (22, [16, 15, 4], [1], 0), (90, [16], [], 0), (91, [16], [], 16), (20, [15, 2], [1], 86), (0, [15], [], 347), (3, [14, 11, 13], [], 0), (22, [13, 12, 4], [1], 0), (90, [13], [], 0), (91, [13], [], 62), (20, [12, 2], [1], 85), (0, [12], [], 346), (0, [11], [], 16), (41, [6, 10], [], 0), (22, [10, 7, 9], [1], 0), (90, [10], [], 0), (91, [10], [], 16), (22, [9, 8, 4], [1], 0), (90, [9], [], 0), (91, [9], [], 62), (20, [8, 2], [1], 85), (0, [8], [], 346), (20, [7, 2], [1], 22), (0, [7], [], 296), (22, [6, 5, 4], [1], 0), (90, [6], [], 0), (91, [6], [], 16), (20, [5, 2], [1], 86), (0, [5], [], 347), (33, [4], [], 0), (5000, [0, 1, 2, 3, 4], [0, 1], 34), (0, [0], [], 285), (90, [1], [], 0), (91, [1], [], 7), (0, [2], [], 285), (90, [3], [], 0), (91, [3], [], 7), (90, [4], [], -1), (91, [4], [], 6)], (91, [21], [], 16)),
  ([(1, [21, 19, 20], [], 0), (0, [20], [], 1), (22, [19, 18, 4], [1], 0), (90, [19], [], 0), (91, [19], [], 16), (20, [18, 2], [1], 86), (0, [18], [], 347), (1, [17, 14, 16], [], 0), (22, [16, 15, 4], [1], 0), (90, [16], [], 0), (91, [16], [], 16), (20, [15, 2], [1], 86), (0, [15], [], 347), (3, [14, 11, 13], [], 0), (22, [13, 12, 4], [1], 0), (90, [13], [], 0), (91, [13], [], 62), (20, [12, 2], [1], 85), (0, [12], [], 346), (0, [11], [], 16), (41, [6, 10], [], 0), (22, [10, 7, 9], [1], 0), (90, [10], [], 0), (91, [10], [], 16), (22, [9, 8, 4], [1], 0), (90, [9], [], 0), (91, [9], [], 62), (20, [8, 2], [1], 85), (0, [8], [], 346), (20, [7, 2], [1], 22), (0, [7], [], 296), (22, [6, 5, 4], [1], 0), (90, [6], [], 0), (91, [6], [], 16), (20, [5, 2], [1], 86), (0, [5], [], 347), (33, [4], [], 0), (5000, [0, 1, 2, 3, 4], [0, 1], 34), (0, [0], [], 285), (90, [1], [], 0), (91, [1], [], 7), (0, [2], [], 285), (90, [3], [], 0), (91, [3], [], 7), (90, [4], [], -1), (91, [4], [], 6)], (70, [17], [], 1008)),
  ([(1, [27, 4, 26], [], 0), (0, [26], [], 1), (40, [23, 24], [], 0), (0, [24], [], 5), (22, [23, 22, 17], [2], 0), (90, [23], [], 0), (91, [23], [], 5), (20, [22, 2], [2], 24), (0, [22], [], 298), (80, [18, 4, 21], [2, 1], 0), (1, [21, 19, 20], [], 0), (0, [20], [], 1), (22, [19, 18, 4], [1], 0), (90, [19], [], 0), (91, [19], [], 16), (20, [18, 2], [1], 86), (0, [18], [], 347), (1, [17, 14, 16], [], 0), (22, [16, 15, 4], [1], 0), (90, [16], [], 0), (91, [16], [], 16), (20, [15, 2], [1], 86), (0, [15], [], 347), (3, [14, 11, 13], [], 0), (22, [13, 12, 4], [1], 0), (90, [13], [], 0), (91, [13], [], 62), (20, [12, 2], [1], 85), (0, [12], [], 346), (0, [11], [], 16), (41, [6, 10], [], 0), (22, [10, 7, 9], [1], 0), (90, [10], [], 0), (91, [10], [], 16), (22, [9, 8, 4], [1], 0), (90, [9], [], 0), (91, [9], [], 62), (20, [8, 2], [1], 85), (0, [8], [], 346), (20, [7, 2], [1], 22), (0, [7], [], 296), (22, [6, 5, 4], [1], 0), (90, [6], [], 0), (91, [6], [], 16), (20, [5, 2], [1], 86), (0, [5], [], 347), (33, [4], [], 0), (5000, [0, 1, 2, 3, 4], [0, 1], 34), (0, [0], [], 285), (90, [1], [], 0), (91, [1], [], 7), (0, [2], [], 285), (90, [3], [], 0), (91, [3], [], 7), (90, [4], [], -1), (91, [4], [], 6)], (70, [17], [], 1008)),
  ([(22, [29, 28, 17], [2], 0), (90, [29], [], -1), (91, [29], [], 9999), (20, [28, 2], [2], 27), (0, [28], [], 301), (1, [27, 4, 26], [], 0), (0, [26], [], 1), (40, [23, 24], [], 0), (0, [24], [], 5), (22, [23, 22, 17], [2], 0), (90, [23], [], 0), (91, [23], [], 5), (20, [22, 2], [2], 24), (0, [22], [], 298), (80, [18, 4, 21], [2, 1], 0), (1, [21, 19, 20], [], 0), (0, [20], [], 1), (22, [19, 18, 4], [1], 0), (90, [19], [], 0), (91, [19], [], 16), (20, [18, 2], [1], 86), (0, [18], [], 347), (1, [17, 14, 16], [], 0), (22, [16, 15, 4], [1], 0), (90, [16], [], 0), (91, [16], [], 16), (20, [15, 2], [1], 86), (0, [15], [], 347), (3, [14, 11, 13], [], 0), (22, [13, 12, 4], [1], 0), (90, [13], [], 0), (91, [13], [], 62), (20, [12, 2], [1], 85), (0, [12], [], 346), (0, [11], [], 16), (41, [6, 10], [], 0), (22, [10, 7, 9], [1], 0), (90, [10], [], 0), (91, [10], [], 16), (22, [9, 8, 4], [1], 0), (90, [9], [], 0), (91, [9], [], 62), (20, [8, 2], [1], 85), (0, [8], [], 346), (20, [7, 2], [1], 22), (0, [7], [], 296), (22, [6, 5, 4], [1], 0), (90, [6], [], 0), (91, [6], [], 16), (20, [5, 2], [1], 86), (0, [5], [], 347), (33, [4], [], 0), (5000, [0, 1, 2, 3, 4], [0, 1], 34), (0, [0], [], 285), (90, [1], [], 0), (91, [1], [], 7), (0, [2], [], 285), (90, [3], [], 0), (91, [3], [], 7), (90, [4], [], -1), (91, [4], [], 6)], (70, [17], [], 1008)),
  ([(22, [33, 32, 4], [2], 0), (90, [33], [], -1000), (91, [33], [], 1000), (20, [32, 2], [2], 87), (0, [32], [], 348), (22, [31, 30, 17], [2], 0), (90, [31], [], -9999), (91, [31], [], 9999), (20, [30, 2], [2], 28), (0, [30], [], 302), (22, [29, 28, 17], [2], 0), (90, [29], [], -1), (91, [29], [], 9999), (20, [28, 2], [2], 27), (0, [28], [], 301), (1, [27, 4, 26], [], 0), (0, [26], [], 1), (20, [25, 2], [2], 87), (0, [25], [], 348), (40, [23, 24], [], 0), (0, [24], [], 5), (22, [23, 22, 17], [2], 0), (90, [23], [], 0), (91, [23], [], 5), (20, [22, 2], [2], 24), (0, [22], [], 298), (80, [18, 4, 21], [2, 1], 0), (1, [21, 19, 20], [], 0), (0, [20], [], 1), (22, [19, 18, 4], [1], 0), (90, [19], [], 0), (91, [19], [], 16), (20, [18, 2], [1], 86), (0, [18], [], 347), (1, [17, 14, 16], [], 0), (22, [16, 15, 4], [1], 0), (90, [16], [], 0), (91, [16], [], 16), (20, [15, 2], [1], 86), (0, [15], [], 347), (3, [14, 11, 13], [], 0), (22, [13, 12, 4], [1], 0), (90, [13], [], 0), (91, [13], [], 62), (20, [12, 2], [1], 85), (0, [12], [], 346), (0, [11], [], 16), (41, [6, 10], [], 0), (22, [10, 7, 9], [1], 0), (90, [10], [], 0), (91, [10], [], 16), (22, [9, 8, 4], [1], 0), (90, [9], [], 0), (91, [9], [], 62), (20, [8, 2], [1], 85), (0, [8], [], 346), (20, [7, 2], [1], 22), (0, [7], [], 296), (22, [6, 5, 4], [1], 0), (90, [6], [], 0), (91, [6], [], 16), (20, [5, 2], [1], 86), (0, [5], [], 347), (33, [4], [], 0), (5000, [0, 1, 2, 3, 4], [0, 1], 34), (0, [0], [], 285), (90, [1], [], 0), (91, [1], [], 7), (0, [2], [], 285), (90, [3], [], 0), (91, [3], [], 7), (90, [4], [], -1), (91, [4], [], 6)], (91, [29], [], 7)),
  ([(1269, [34, 2, 29, 31, 33], [2, 3], 0), (90, [34], [], -10999), (91, [34], [], 10999), (22, [33, 32, 4], [2], 0), (90, [33], [], -1000), (91, [33], [], 1000), (20, [32, 2], [2], 87), (0, [32], [], 348), (22, [31, 30, 17], [2], 0), (90, [31], [], -9999), (91, [31], [], 9999), (20, [30, 2], [2], 28), (0, [30], [], 302), (22, [29, 28, 17], [2], 0), (90, [29], [], -1), (91, [29], [], 9999), (20, [28, 2], [2], 27), (0, [28], [], 301), (1, [27, 4, 26], [], 0), (0, [26], [], 1), (20, [25, 2], [2], 87), (0, [25], [], 348), (40, [23, 24], [], 0), (0, [24], [], 5), (22, [23, 22, 17], [2], 0), (90, [23], [], 0), (91, [23], [], 5), (20, [22, 2], [2], 24), (0, [22], [], 298), (80, [18, 4, 21], [2, 1], 0), (1, [21, 19, 20], [], 0), (0, [20], [], 1), (22, [19, 18, 4], [1], 0), (90, [19], [], 0), (91, [19], [], 16), (20, [18, 2], [1], 86), (0, [18], [], 347), (1, [17, 14, 16], [], 0), (22, [16, 15, 4], [1], 0), (90, [16], [], 0), (91, [16], [], 16), (20, [15, 2], [1], 86), (0, [15], [], 347), (3, [14, 11, 13], [], 0), (22, [13, 12, 4], [1], 0), (90, [13], [], 0), (91, [13], [], 62), (20, [12, 2], [1], 85), (0, [12], [], 346), (0, [11], [], 16), (41, [6, 10], [], 0), (22, [10, 7, 9], [1], 0), (90, [10], [], 0), (91, [10], [], 16), (22, [9, 8, 4], [1], 0), (90, [9], [], 0), (91, [9], [], 62), (20, [8, 2], [1], 85), (0, [8], [], 346), (20, [7, 2], [1], 22), (0, [7], [], 296), (22, [6, 5, 4], [1], 0), (90, [6], [], 0), (91, [6], [], 16), (20, [5, 2], [1], 86), (0, [5], [], 347), (33, [4], [], 0), (5000, [0, 1, 2, 3, 4], [0, 1], 34), (0, [0], [], 285), (90, [1], [], 0), (91, [1], [], 7), (0, [2], [], 285), (90, [3], [], 0), (91, [3], [], 7), (90, [4], [], -1), (91, [4], [], 6)], (70, [27], [], 8)),
  ([(1269, [34, 2, 29, 31, 33], [2, 3], 0), (90, [34], [], -10999), (91, [34], [], 10999), (22, [33, 32, 4], [2], 0), (90, [33], [], -1000), (91, [33], [], 1000), (20, [32, 2], [2], 87), (0, [32], [], 348), (22, [31, 30, 17], [2], 0), (90, [31], [], -9999), (91, [31], [], 9999), (20, [30, 2], [2], 28), (0, [30], [], 302), (22, [29, 28, 17], [2], 0), (90, [29], [], -1), (91, [29], [], 9999), (20, [28, 2], [2], 27), (0, [28], [], 301), (1, [27, 4, 26], [], 0), (0, [26], [], 1), (20, [25, 2], [2], 87), (0, [25], [], 348), (40, [23, 24], [], 0), (0, [24], [], 5), (22, [23, 22, 17], [2], 0), (90, [23], [], 0), (91, [23], [], 5), (20, [22, 2], [2], 24), (0, [22], [], 298), (80, [18, 4, 21], [2, 1], 0), (1, [21, 19, 20], [], 0), (0, [20], [], 1), (22, [19, 18, 4], [1], 0), (90, [19], [], 0), (91, [19], [], 16), (20, [18, 2], [1], 86), (0, [18], [], 347), (1, [17, 14, 16], [], 0), (22, [16, 15, 4], [1], 0), (90, [16], [], 0), (91, [16], [], 16), (20, [15, 2], [1], 86), (0, [15], [], 347), (3, [14, 11, 13], [], 0), (22, [13, 12, 4], [1], 0), (90, [13], [], 0), (91, [13], [], 62), (20, [12, 2], [1], 85), (0, [12], [], 346), (0, [11], [], 16), (41, [6, 10], [], 0), (22, [10, 7, 9], [1], 0), (90, [10], [], 0), (91, [10], [], 16), (22, [9, 8, 4], [1], 0), (90, [9], [], 0), (91, [9], [], 62), (20, [8, 2], [1], 85), (0, [8], [], 346), (20, [7, 2], [1], 22), (0, [7], [], 296), (22, [6, 5, 4], [1], 0), (90, [6], [], 0), (91, [6], [], 16), (20, [5, 2], [1], 86), (0, [5], [], 347), (33, [4], [], 0), (5000, [0, 1, 2, 3, 4], [0, 1], 34), (0, [0], [], 285), (90, [1], [], 0), (91, [1], [], 7), (0, [2], [], 285), (90, [3], [], 0), (91, [3], [], 7), (90, [4], [], -1), (91, [4], [], 6)], (90, [34], [], -1000)),
  ([(1269, [34, 2, 29, 31, 33], [2, 3], 0), (90, [34], [], -10999), (91, [34], [], 10999), (22, [33, 32, 4], [2], 0), (90, [33], [], -1000), (91, [33], [], 1000), (20, [32, 2], [2], 87), (0, [32], [], 348), (22, [31, 30, 17], [2], 0), (90, [31], [], -9999), (91, [31], [], 9999), (20, [30, 2], [2], 28), (0, [30], [], 302), (22, [29, 28, 17], [2], 0), (90, [29], [], -1), (91, [29], [], 9999), (20, [28, 2], [2], 27), (0, [28], [], 301), (1, [27, 4, 26], [], 0), (0, [26], [], 1), (20, [25, 2], [2], 87), (0, [25], [], 348), (40, [23, 24], [], 0), (0, [24], [], 5), (22, [23, 22, 17], [2], 0), (90, [23], [], 0), (91, [23], [], 5), (20, [22, 2], [2], 24), (0, [22], [], 298), (80, [18, 4, 21], [2, 1], 0), (1, [21, 19, 20], [], 0), (0, [20], [], 1), (22, [19, 18, 4], [1], 0), (90, [19], [], 0), (91, [19], [], 16), (20, [18, 2], [1], 86), (0, [18], [], 347), (1, [17, 14, 16], [], 0), (22, [16, 15, 4], [1], 0), (90, [16], [], 0), (91, [16], [], 16), (20, [15, 2], [1], 86), (0, [15], [], 347), (3, [14, 11, 13], [], 0), (22, [13, 12, 4], [1], 0), (90, [13], [], 0), (91, [13], [], 62), (20, [12, 2], [1], 85), (0, [12], [], 346), (0, [11], [], 16), (41, [6, 10], [], 0), (22, [10, 7, 9], [1], 0), (90, [10], [], 0), (91, [10], [], 16), (22, [9, 8, 4], [1], 0), (90, [9], [], 0), (91, [9], [], 62), (20, [8, 2], [1], 85), (0, [8], [], 346), (20, [7, 2], [1], 22), (0, [7], [], 296), (22, [6, 5, 4], [1], 0), (90, [6], [], 0), (91, [6], [], 16), (20, [5, 2], [1], 86), (0, [5], [], 347), (33, [4], [], 0), (5000, [0, 1, 2, 3, 4], [0, 1], 34), (0, [0], [], 285), (90, [1], [], 0), (91, [1], [], 7), (0, [2], [], 285), (90, [3], [], 0), (91, [3], [], 7), (90, [4], [], -1), (91, [4], [], 6)], (91, [34], [], 1000)),
  ([(3, [39, 38, 3], [], 0), (0, [38], [], 7), (1, [37, 4, 36], [], 0), (0, [36], [], 1), (20, [35, 2], [4], 85), (0, [35], [], 346), (80, [25, 27, 34], [4, 3], 0), (1269, [34, 2, 29, 31, 33], [2, 3], 0), (90, [34], [], -10999), (91, [34], [], 10999), (22, [33, 32, 4], [2], 0), (90, [33], [], -1000), (91, [33], [], 1000), (20, [32, 2], [2], 87), (0, [32], [], 348), (22, [31, 30, 17], [2], 0), (90, [31], [], -9999), (91, [31], [], 9999), (20, [30, 2], [2], 28), (0, [30], [], 302), (22, [29, 28, 17], [2], 0), (90, [29], [], -1), (91, [29], [], 9999), (20, [28, 2], [2], 27), (0, [28], [], 301), (1, [27, 4, 26], [], 0), (0, [26], [], 1), (20, [25, 2], [2], 87), (0, [25], [], 348), (40, [23, 24], [], 0), (0, [24], [], 5), (22, [23, 22, 17], [2], 0), (90, [23], [], 0), (91, [23], [], 5), (20, [22, 2], [2], 24), (0, [22], [], 298), (80, [18, 4, 21], [2, 1], 0), (1, [21, 19, 20], [], 0), (0, [20], [], 1), (22, [19, 18, 4], [1], 0), (90, [19], [], 0), (91, [19], [], 16), (20, [18, 2], [1], 86), (0, [18], [], 347), (1, [17, 14, 16], [], 0), (22, [16, 15, 4], [1], 0), (90, [16], [], 0), (91, [16], [], 16), (20, [15, 2], [1], 86), (0, [15], [], 347), (3, [14, 11, 13], [], 0), (22, [13, 12, 4], [1], 0), (90, [13], [], 0), (91, [13], [], 62), (20, [12, 2], [1], 85), (0, [12], [], 346), (0, [11], [], 16), (41, [6, 10], [], 0), (22, [10, 7, 9], [1], 0), (90, [10], [], 0), (91, [10], [], 16), (22, [9, 8, 4], [1], 0), (90, [9], [], 0), (91, [9], [], 62), (20, [8, 2], [1], 85), (0, [8], [], 346), (20, [7, 2], [1], 22), (0, [7], [], 296), (22, [6, 5, 4], [1], 0), (90, [6], [], 0), (91, [6], [], 16), (20, [5, 2], [1], 86), (0, [5], [], 347), (33, [4], [], 0), (5000, [0, 1, 2, 3, 4], [0, 1], 34), (0, [0], [], 285), (90, [1], [], 0), (91, [1], [], 7), (0, [2], [], 285), (90, [3], [], 0), (91, [3], [], 7), (90, [4], [], -1), (91, [4], [], 6)], (70, [17], [], 1008)),
  ([(1, [42, 39, 41], [], 0), (22, [41, 40, 17], [4], 0), (90, [41], [], -1), (91, [41], [], 9999), (20, [40, 2], [4], 26), (0, [40], [], 300), (3, [39, 38, 3], [], 0), (0, [38], [], 7), (1, [37, 4, 36], [], 0), (0, [36], [], 1), (20, [35, 2], [4], 85), (0, [35], [], 346), (80, [25, 27, 34], [4, 3], 0), (1269, [34, 2, 29, 31, 33], [2, 3], 0), (90, [34], [], -10999), (91, [34], [], 10999), (22, [33, 32, 4], [2], 0), (90, [33], [], -1000), (91, [33], [], 1000), (20, [32, 2], [2], 87), (0, [32], [], 348), (22, [31, 30, 17], [2], 0), (90, [31], [], -9999), (91, [31], [], 9999), (20, [30, 2], [2], 28), (0, [30], [], 302), (22, [29, 28, 17], [2], 0), (90, [29], [], -1), (91, [29], [], 9999), (20, [28, 2], [2], 27), (0, [28], [], 301), (1, [27, 4, 26], [], 0), (0, [26], [], 1), (20, [25, 2], [2], 87), (0, [25], [], 348), (40, [23, 24], [], 0), (0, [24], [], 5), (22, [23, 22, 17], [2], 0), (90, [23], [], 0), (91, [23], [], 5), (20, [22, 2], [2], 24), (0, [22], [], 298), (80, [18, 4, 21], [2, 1], 0), (1, [21, 19, 20], [], 0), (0, [20], [], 1), (22, [19, 18, 4], [1], 0), (90, [19], [], 0), (91, [19], [], 16), (20, [18, 2], [1], 86), (0, [18], [], 347), (1, [17, 14, 16], [], 0), (22, [16, 15, 4], [1], 0), (90, [16], [], 0), (91, [16], [], 16), (20, [15, 2], [1], 86), (0, [15], [], 347), (3, [14, 11, 13], [], 0), (22, [13, 12, 4], [1], 0), (90, [13], [], 0), (91, [13], [], 62), (20, [12, 2], [1], 85), (0, [12], [], 346), (0, [11], [], 16), (41, [6, 10], [], 0), (22, [10, 7, 9], [1], 0), (90, [10], [], 0), (91, [10], [], 16), (22, [9, 8, 4], [1], 0), (90, [9], [], 0), (91, [9], [], 62), (20, [8, 2], [1], 85), (0, [8], [], 346), (20, [7, 2], [1], 22), (0, [7], [], 296), (22, [6, 5, 4], [1], 0), (90, [6], [], 0), (91, [6], [], 16), (20, [5, 2], [1], 86), (0, [5], [], 347), (33, [4], [], 0), (5000, [0, 1, 2, 3, 4], [0, 1], 34), (0, [0], [], 285), (90, [1], [], 0), (91, [1], [], 7), (0, [2], [], 285), (90, [3], [], 0), (91, [3], [], 7), (90, [4], [], -1), (91, [4], [], 6)], (70, [37], [], 8)),
  ([(1, [42, 39, 41], [], 0), (22, [41, 40, 17], [4], 0), (90, [41], [], -1), (91, [41], [], 9999), (20, [40, 2], [4], 26), (0, [40], [], 300), (3, [39, 38, 3], [], 0), (0, [38], [], 7), (1, [37, 4, 36], [], 0), (0, [36], [], 1), (20, [35, 2], [4], 85), (0, [35], [], 346), (80, [25, 27, 34], [4, 3], 0), (1269, [34, 2, 29, 31, 33], [2, 3], 0), (90, [34], [], -10999), (91, [34], [], 10999), (22, [33, 32, 4], [2], 0), (90, [33], [], -1000), (91, [33], [], 1000), (20, [32, 2], [2], 87), (0, [32], [], 348), (22, [31, 30, 17], [2], 0), (90, [31], [], -9999), (91, [31], [], 9999), (20, [30, 2], [2], 28), (0, [30], [], 302), (22, [29, 28, 17], [2], 0), (90, [29], [], -1), (91, [29], [], 9999), (20, [28, 2], [2], 27), (0, [28], [], 301), (1, [27, 4, 26], [], 0), (0, [26], [], 1), (20, [25, 2], [2], 87), (0, [25], [], 348), (40, [23, 24], [], 0), (0, [24], [], 5), (22, [23, 22, 17], [2], 0), (90, [23], [], 0), (91, [23], [], 5), (20, [22, 2], [2], 24), (0, [22], [], 298), (80, [18, 4, 21], [2, 1], 0), (1, [21, 19, 20], [], 0), (0, [20], [], 1), (22, [19, 18, 4], [1], 0), (90, [19], [], 0), (91, [19], [], 16), (20, [18, 2], [1], 86), (0, [18], [], 347), (1, [17, 14, 16], [], 0), (22, [16, 15, 4], [1], 0), (90, [16], [], 0), (91, [16], [], 16), (20, [15, 2], [1], 86), (0, [15], [], 347), (3, [14, 11, 13], [], 0), (22, [13, 12, 4], [1], 0), (90, [13], [], 0), (91, [13], [], 62), (20, [12, 2], [1], 85), (0, [12], [], 346), (0, [11], [], 16), (41, [6, 10], [], 0), (22, [10, 7, 9], [1], 0), (90, [10], [], 0), (91, [10], [], 16), (22, [9, 8, 4], [1], 0), (90, [9], [], 0), (91, [9], [], 62), (20, [8, 2], [1], 85), (0, [8], [], 346), (20, [7, 2], [1], 22), (0, [7], [], 296), (22, [6, 5, 4], [1], 0), (90, [6], [], 0), (91, [6], [], 16), (20, [5, 2], [1], 86), (0, [5], [], 347), (33, [4], [], 0), (5000, [0, 1, 2, 3, 4], [0, 1], 34), (0, [0], [], 285), (90, [1], [], 0), (91, [1], [], 7), (0, [2], [], 285), (90, [3], [], 0), (91, [3], [], 7), (90, [4], [], -1), (91, [4], [], 6)], (90, [42], [], 0)),
  ([(1, [42, 39, 41], [], 0), (22, [41, 40, 17], [4], 0), (90, [41], [], -1), (91, [41], [], 9999), (20, [40, 2], [4], 26), (0, [40], [], 300), (3, [39, 38, 3], [], 0), (0, [38], [], 7), (1, [37, 4, 36], [], 0), (0, [36], [], 1), (20, [35, 2], [4], 85), (0, [35], [], 346), (80, [25, 27, 34], [4, 3], 0), (1269, [34, 2, 29, 31, 33], [2, 3], 0), (90, [34], [], -10999), (91, [34], [], 10999), (22, [33, 32, 4], [2], 0), (90, [33], [], -1000), (91, [33], [], 1000), (20, [32, 2], [2], 87), (0, [32], [], 348), (22, [31, 30, 17], [2], 0), (90, [31], [], -9999), (91, [31], [], 9999), (20, [30, 2], [2], 28), (0, [30], [], 302), (22, [29, 28, 17], [2], 0), (90, [29], [], -1), (91, [29], [], 9999), (20, [28, 2], [2], 27), (0, [28], [], 301), (1, [27, 4, 26], [], 0), (0, [26], [], 1), (20, [25, 2], [2], 87), (0, [25], [], 348), (40, [23, 24], [], 0), (0, [24], [], 5), (22, [23, 22, 17], [2], 0), (90, [23], [], 0), (91, [23], [], 5), (20, [22, 2], [2], 24), (0, [22], [], 298), (80, [18, 4, 21], [2, 1], 0), (1, [21, 19, 20], [], 0), (0, [20], [], 1), (22, [19, 18, 4], [1], 0), (90, [19], [], 0), (91, [19], [], 16), (20, [18, 2], [1], 86), (0, [18], [], 347), (1, [17, 14, 16], [], 0), (22, [16, 15, 4], [1], 0), (90, [16], [], 0), (91, [16], [], 16), (20, [15, 2], [1], 86), (0, [15], [], 347), (3, [14, 11, 13], [], 0), (22, [13, 12, 4], [1], 0), (90, [13], [], 0), (91, [13], [], 62), (20, [12, 2], [1], 85), (0, [12], [], 346), (0, [11], [], 16), (41, [6, 10], [], 0), (22, [10, 7, 9], [1], 0), (90, [10], [], 0), (91, [10], [], 16), (22, [9, 8, 4], [1], 0), (90, [9], [], 0), (91, [9], [], 62), (20, [8, 2], [1], 85), (0, [8], [], 346), (20, [7, 2], [1], 22), (0, [7], [], 296), (22, [6, 5, 4], [1], 0), (90, [6], [], 0), (91, [6], [], 16), (20, [5, 2], [1], 86), (0, [5], [], 347), (33, [4], [], 0), (5000, [0, 1, 2, 3, 4], [0, 1], 34), (0, [0], [], 285), (90, [1], [], 0), (91, [1], [], 7), (0, [2], [], 285), (90, [3], [], 0), (91, [3], [], 7), (90, [4], [], -1), (91, [4], [], 6)], (91, [42], [], 62)),
  ([(1, [45, 4, 44], [], 0), (0, [44], [], 1), (20, [43, 2], [5], 86), (0, [43], [], 347), (80, [35, 37, 42], [5, 4], 0), (1, [42, 39, 41], [], 0), (22, [41, 40, 17], [4], 0), (90, [41], [], -1), (91, [41], [], 9999), (20, [40, 2], [4], 26), (0, [40], [], 300), (3, [39, 38, 3], [], 0), (0, [38], [], 7), (1, [37, 4, 36], [], 0), (0, [36], [], 1), (20, [35, 2], [4], 85), (0, [35], [], 346), (80, [25, 27, 34], [4, 3], 0), (1269, [34, 2, 29, 31, 33], [2, 3], 0), (90, [34], [], -10999), (91, [34], [], 10999), (22, [33, 32, 4], [2], 0), (90, [33], [], -1000), (91, [33], [], 1000), (20, [32, 2], [2], 87), (0, [32], [], 348), (22, [31, 30, 17], [2], 0), (90, [31], [], -9999), (91, [31], [], 9999), (20, [30, 2], [2], 28), (0, [30], [], 302), (22, [29, 28, 17], [2], 0), (90, [29], [], -1), (91, [29], [], 9999), (20, [28, 2], [2], 27), (0, [28], [], 301), (1, [27, 4, 26], [], 0), (0, [26], [], 1), (20, [25, 2], [2], 87), (0, [25], [], 348), (40, [23, 24], [], 0), (0, [24], [], 5), (22, [23, 22, 17], [2], 0), (90, [23], [], 0), (91, [23], [], 5), (20, [22, 2], [2], 24), (0, [22], [], 298), (80, [18, 4, 21], [2, 1], 0), (1, [21, 19, 20], [], 0), (0, [20], [], 1), (22, [19, 18, 4], [1], 0), (90, [19], [], 0), (91, [19], [], 16), (20, [18, 2], [1], 86), (0, [18], [], 347), (1, [17, 14, 16], [], 0), (22, [16, 15, 4], [1], 0), (90, [16], [], 0), (91, [16], [], 16), (20, [15, 2], [1], 86), (0, [15], [], 347), (3, [14, 11, 13], [], 0), (22, [13, 12, 4], [1], 0), (90, [13], [], 0), (91, [13], [], 62), (20, [12, 2], [1], 85), (0, [12], [], 346), (0, [11], [], 16), (41, [6, 10], [], 0), (22, [10, 7, 9], [1], 0), (90, [10], [], 0), (91, [10], [], 16), (22, [9, 8, 4], [1], 0), (90, [9], [], 0), (91, [9], [], 62), (20, [8, 2], [1], 85), (0, [8], [], 346), (20, [7, 2], [1], 22), (0, [7], [], 296), (22, [6, 5, 4], [1], 0), (90, [6], [], 0), (91, [6], [], 16), (20, [5, 2], [1], 86), (0, [5], [], 347), (33, [4], [], 0), (5000, [0, 1, 2, 3, 4], [0, 1], 34), (0, [0], [], 285), (90, [1], [], 0), (91, [1], [], 7), (0, [2], [], 285), (90, [3], [], 0), (91, [3], [], 7), (90, [4], [], -1), (91, [4], [], 6)], (70, [45], [], 8)),
  ([(10, [47, 4], [], 1), (1, [45, 4, 44], [], 0), (0, [44], [], 1), (20, [43, 2], [5], 86), (0, [43], [], 347), (80, [35, 37, 42], [5, 4], 0), (1, [42, 39, 41], [], 0), (22, [41, 40, 17], [4], 0), (90, [41], [], -1), (91, [41], [], 9999), (20, [40, 2], [4], 26), (0, [40], [], 300), (3, [39, 38, 3], [], 0), (0, [38], [], 7), (1, [37, 4, 36], [], 0), (0, [36], [], 1), (20, [35, 2], [4], 85), (0, [35], [], 346), (80, [25, 27, 34], [4, 3], 0), (1269, [34, 2, 29, 31, 33], [2, 3], 0), (90, [34], [], -10999), (91, [34], [], 10999), (22, [33, 32, 4], [2], 0), (90, [33], [], -1000), (91, [33], [], 1000), (20, [32, 2], [2], 87), (0, [32], [], 348), (22, [31, 30, 17], [2], 0), (90, [31], [], -9999), (91, [31], [], 9999), (20, [30, 2], [2], 28), (0, [30], [], 302), (22, [29, 28, 17], [2], 0), (90, [29], [], -1), (91, [29], [], 9999), (20, [28, 2], [2], 27), (0, [28], [], 301), (1, [27, 4, 26], [], 0), (0, [26], [], 1), (20, [25, 2], [2], 87), (0, [25], [], 348), (40, [23, 24], [], 0), (0, [24], [], 5), (22, [23, 22, 17], [2], 0), (90, [23], [], 0), (91, [23], [], 5), (20, [22, 2], [2], 24), (0, [22], [], 298), (80, [18, 4, 21], [2, 1], 0), (1, [21, 19, 20], [], 0), (0, [20], [], 1), (22, [19, 18, 4], [1], 0), (90, [19], [], 0), (91, [19], [], 16), (20, [18, 2], [1], 86), (0, [18], [], 347), (1, [17, 14, 16], [], 0), (22, [16, 15, 4], [1], 0), (90, [16], [], 0), (91, [16], [], 16), (20, [15, 2], [1], 86), (0, [15], [], 347), (3, [14, 11, 13], [], 0), (22, [13, 12, 4], [1], 0), (90, [13], [], 0), (91, [13], [], 62), (20, [12, 2], [1], 85), (0, [12], [], 346), (0, [11], [], 16), (41, [6, 10], [], 0), (22, [10, 7, 9], [1], 0), (90, [10], [], 0), (91, [10], [], 16), (22, [9, 8, 4], [1], 0), (90, [9], [], 0), (91, [9], [], 62), (20, [8, 2], [1], 85), (0, [8], [], 346), (20, [7, 2], [1], 22), (0, [7], [], 296), (22, [6, 5, 4], [1], 0), (90, [6], [], 0), (91, [6], [], 16), (20, [5, 2], [1], 86), (0, [5], [], 347), (33, [4], [], 0), (5000, [0, 1, 2, 3, 4], [0, 1], 34), (0, [0], [], 285), (90, [1], [], 0), (91, [1], [], 7), (0, [2], [], 285), (90, [3], [], 0), (91, [3], [], 7), (90, [4], [], -1), (91, [4], [], 6)], (90, [47], [], -1)),
  ([(10, [47, 4], [], 1), (1, [45, 4, 44], [], 0), (0, [44], [], 1), (20, [43, 2], [5], 86), (0, [43], [], 347), (80, [35, 37, 42], [5, 4], 0), (1, [42, 39, 41], [], 0), (22, [41, 40, 17], [4], 0), (90, [41], [], -1), (91, [41], [], 9999), (20, [40, 2], [4], 26), (0, [40], [], 300), (3, [39, 38, 3], [], 0), (0, [38], [], 7), (1, [37, 4, 36], [], 0), (0, [36], [], 1), (20, [35, 2], [4], 85), (0, [35], [], 346), (80, [25, 27, 34], [4, 3], 0), (1269, [34, 2, 29, 31, 33], [2, 3], 0), (90, [34], [], -10999), (91, [34], [], 10999), (22, [33, 32, 4], [2], 0), (90, [33], [], -1000), (91, [33], [], 1000), (20, [32, 2], [2], 87), (0, [32], [], 348), (22, [31, 30, 17], [2], 0), (90, [31], [], -9999), (91, [31], [], 9999), (20, [30, 2], [2], 28), (0, [30], [], 302), (22, [29, 28, 17], [2], 0), (90, [29], [], -1), (91, [29], [], 9999), (20, [28, 2], [2], 27), (0, [28], [], 301), (1, [27, 4, 26], [], 0), (0, [26], [], 1), (20, [25, 2], [2], 87), (0, [25], [], 348), (40, [23, 24], [], 0), (0, [24], [], 5), (22, [23, 22, 17], [2], 0), (90, [23], [], 0), (91, [23], [], 5), (20, [22, 2], [2], 24), (0, [22], [], 298), (80, [18, 4, 21], [2, 1], 0), (1, [21, 19, 20], [], 0), (0, [20], [], 1), (22, [19, 18, 4], [1], 0), (90, [19], [], 0), (91, [19], [], 16), (20, [18, 2], [1], 86), (0, [18], [], 347), (1, [17, 14, 16], [], 0), (22, [16, 15, 4], [1], 0), (90, [16], [], 0), (91, [16], [], 16), (20, [15, 2], [1], 86), (0, [15], [], 347), (3, [14, 11, 13], [], 0), (22, [13, 12, 4], [1], 0), (90, [13], [], 0), (91, [13], [], 62), (20, [12, 2], [1], 85), (0, [12], [], 346), (0, [11], [], 16), (41, [6, 10], [], 0), (22, [10, 7, 9], [1], 0), (90, [10], [], 0), (91, [10], [], 16), (22, [9, 8, 4], [1], 0), (90, [9], [], 0), (91, [9], [], 62), (20, [8, 2], [1], 85), (0, [8], [], 346), (20, [7, 2], [1], 22), (0, [7], [], 296), (22, [6, 5, 4], [1], 0), (90, [6], [], 0), (91, [6], [], 16), (20, [5, 2], [1], 86), (0, [5], [], 347), (33, [4], [], 0), (5000, [0, 1, 2, 3, 4], [0, 1], 34), (0, [0], [], 285), (90, [1], [], 0), (91, [1], [], 7), (0, [2], [], 285), (90, [3], [], 0), (91, [3], [], 7), (90, [4], [], -1), (91, [4], [], 6)], (91, [47], [], 6)),
  ([(10, [47, 4], [], 1), (80, [43, 45, 46], [6, 5], 0), (0, [46], [], 0), (1, [45, 4, 44], [], 0), (0, [44], [], 1), (20, [43, 2], [5], 86), (0, [43], [], 347), (80, [35, 37, 42], [5, 4], 0), (1, [42, 39, 41], [], 0), (22, [41, 40, 17], [4], 0), (90, [41], [], -1), (91, [41], [], 9999), (20, [40, 2], [4], 26), (0, [40], [], 300), (3, [39, 38, 3], [], 0), (0, [38], [], 7), (1, [37, 4, 36], [], 0), (0, [36], [], 1), (20, [35, 2], [4], 85), (0, [35], [], 346), (80, [25, 27, 34], [4, 3], 0), (1269, [34, 2, 29, 31, 33], [2, 3], 0), (90, [34], [], -10999), (91, [34], [], 10999), (22, [33, 32, 4], [2], 0), (90, [33], [], -1000), (91, [33], [], 1000), (20, [32, 2], [2], 87), (0, [32], [], 348), (22, [31, 30, 17], [2], 0), (90, [31], [], -9999), (91, [31], [], 9999), (20, [30, 2], [2], 28), (0, [30], [], 302), (22, [29, 28, 17], [2], 0), (90, [29], [], -1), (91, [29], [], 9999), (20, [28, 2], [2], 27), (0, [28], [], 301), (1, [27, 4, 26], [], 0), (0, [26], [], 1), (20, [25, 2], [2], 87), (0, [25], [], 348), (40, [23, 24], [], 0), (0, [24], [], 5), (22, [23, 22, 17], [2], 0), (90, [23], [], 0), (91, [23], [], 5), (20, [22, 2], [2], 24), (0, [22], [], 298), (80, [18, 4, 21], [2, 1], 0), (1, [21, 19, 20], [], 0), (0, [20], [], 1), (22, [19, 18, 4], [1], 0), (90, [19], [], 0), (91, [19], [], 16), (20, [18, 2], [1], 86), (0, [18], [], 347), (1, [17, 14, 16], [], 0), (22, [16, 15, 4], [1], 0), (90, [16], [], 0), (91, [16], [], 16), (20, [15, 2], [1], 86), (0, [15], [], 347), (3, [14, 11, 13], [], 0), (22, [13, 12, 4], [1], 0), (90, [13], [], 0), (91, [13], [], 62), (20, [12, 2], [1], 85), (0, [12], [], 346), (0, [11], [], 16), (41, [6, 10], [], 0), (22, [10, 7, 9], [1], 0), (90, [10], [], 0), (91, [10], [], 16), (22, [9, 8, 4], [1], 0), (90, [9], [], 0), (91, [9], [], 62), (20, [8, 2], [1], 85), (0, [8], [], 346), (20, [7, 2], [1], 22), (0, [7], [], 296), (22, [6, 5, 4], [1], 0), (90, [6], [], 0), (91, [6], [], 16), (20, [5, 2], [1], 86), (0, [5], [], 347), (33, [4], [], 0), (5000, [0, 1, 2, 3, 4], [0, 1], 34), (0, [0], [], 285), (90, [1], [], 0), (91, [1], [], 7), (0, [2], [], 285), (90, [3], [], 0), (91, [3], [], 7), (90, [4], [], -1), (91, [4], [], 6)], (4000, [2, 3, 47], [6], 34)),
  ([(20, [26, 2], [2], 82), (90, [26], [], 0), (91, [26], [], 40), (41, [23, 24], [], 0), (0, [24], [], 5), (22, [23, 22, 17], [2], 0), (90, [23], [], 0), (91, [23], [], 5), (20, [22, 2], [2], 24), (0, [22], [], 298), (80, [18, 4, 21], [2, 1], 0), (1, [21, 19, 20], [], 0), (0, [20], [], 1), (22, [19, 18, 4], [1], 0), (90, [19], [], 0), (91, [19], [], 16), (20, [18, 2], [1], 86), (0, [18], [], 347), (1, [17, 14, 16], [], 0), (22, [16, 15, 4], [1], 0), (90, [16], [], 0), (91, [16], [], 16), (20, [15, 2], [1], 86), (0, [15], [], 347), (3, [14, 11, 13], [], 0), (22, [13, 12, 4], [1], 0), (90, [13], [], 0), (91, [13], [], 62), (20, [12, 2], [1], 85), (0, [12], [], 346), (0, [11], [], 16), (41, [6, 10], [], 0), (22, [10, 7, 9], [1], 0), (90, [10], [], 0), (91, [10], [], 16), (22, [9, 8, 4], [1], 0), (90, [9], [], 0), (91, [9], [], 62), (20, [8, 2], [1], 85), (0, [8], [], 346), (20, [7, 2], [1], 22), (0, [7], [], 296), (22, [6, 5, 4], [1], 0), (90, [6], [], 0), (91, [6], [], 16), (20, [5, 2], [1], 86), (0, [5], [], 347), (33, [4], [], 0), (5000, [0, 1, 2, 3, 4], [0, 1], 34), (0, [0], [], 285), (90, [1], [], 0), (91, [1], [], 7), (0, [2], [], 285), (90, [3], [], 0), (91, [3], [], 7), (90, [4], [], -1), (91, [4], [], 6)], (70, [26], [], 40)),
  ([(20, [26, 2], [2], 82), (90, [26], [], 0), (91, [26], [], 40), (41, [23, 24], [], 0), (0, [24], [], 5), (22, [23, 22, 17], [2], 0), (90, [23], [], 0), (91, [23], [], 5), (20, [22, 2], [2], 24), (0, [22], [], 298), (80, [18, 4, 21], [2, 1], 0), (1, [21, 19, 20], [], 0), (0, [20], [], 1), (22, [19, 18, 4], [1], 0), (90, [19], [], 0), (91, [19], [], 16), (20, [18, 2], [1], 86), (0, [18], [], 347), (1, [17, 14, 16], [], 0), (22, [16, 15, 4], [1], 0), (90, [16], [], 0), (91, [16], [], 16), (20, [15, 2], [1], 86), (0, [15], [], 347), (3, [14, 11, 13], [], 0), (22, [13, 12, 4], [1], 0), (90, [13], [], 0), (91, [13], [], 62), (20, [12, 2], [1], 85), (0, [12], [], 346), (0, [11], [], 16), (41, [6, 10], [], 0), (22, [10, 7, 9], [1], 0), (90, [10], [], 0), (91, [10], [], 16), (22, [9, 8, 4], [1], 0), (90, [9], [], 0), (91, [9], [], 62), (20, [8, 2], [1], 85), (0, [8], [], 346), (20, [7, 2], [1], 22), (0, [7], [], 296), (22, [6, 5, 4], [1], 0), (90, [6], [], 0), (91, [6], [], 16), (20, [5, 2], [1], 86), (0, [5], [], 347), (33, [4], [], 0), (5000, [0, 1, 2, 3, 4], [0, 1], 34), (0, [0], [], 285), (90, [1], [], 0), (91, [1], [], 7), (0, [2], [], 285), (90, [3], [], 0), (91, [3], [], 7), (90, [4], [], -1), (91, [4], [], 6)], (90, [17], [], 0)),
  ([(20, [26, 2], [2], 82), (90, [26], [], 0), (91, [26], [], 40), (41, [23, 24], [], 0), (0, [24], [], 5), (22, [23, 22, 17], [2], 0), (90, [23], [], 0), (91, [23], [], 5), (20, [22, 2], [2], 24), (0, [22], [], 298), (80, [18, 4, 21], [2, 1], 0), (1, [21, 19, 20], [], 0), (0, [20], [], 1), (22, [19, 18, 4], [1], 0), (90, [19], [], 0), (91, [19], [], 16), (20, [18, 2], [1], 86), (0, [18], [], 347), (1, [17, 14, 16], [], 0), (22, [16, 15, 4], [1], 0), (90, [16], [], 0), (91, [16], [], 16), (20, [15, 2], [1], 86), (0, [15], [], 347), (3, [14, 11, 13], [], 0), (22, [13, 12, 4], [1], 0), (90, [13], [], 0), (91, [13], [], 62), (20, [12, 2], [1], 85), (0, [12], [], 346), (0, [11], [], 16), (41, [6, 10], [], 0), (22, [10, 7, 9], [1], 0), (90, [10], [], 0), (91, [10], [], 16), (22, [9, 8, 4], [1], 0), (90, [9], [], 0), (91, [9], [], 62), (20, [8, 2], [1], 85), (0, [8], [], 346), (20, [7, 2], [1], 22), (0, [7], [], 296), (22, [6, 5, 4], [1], 0), (90, [6], [], 0), (91, [6], [], 16), (20, [5, 2], [1], 86), (0, [5], [], 347), (33, [4], [], 0), (5000, [0, 1, 2, 3, 4], [0, 1], 34), (0, [0], [], 285), (90, [1], [], 0), (91, [1], [], 7), (0, [2], [], 285), (90, [3], [], 0), (91, [3], [], 7), (90, [4], [], -1), (91, [4], [], 6)], (91, [17], [], 1007)),
  ([(22, [30, 29, 4], [3], 0), (90, [30], [], -1000), (91, [30], [], 1000), (20, [29, 2], [3], 87), (0, [29], [], 348), (20, [28, 2], [3], 82), (90, [28], [], 0), (91, [28], [], 40), (80, [25, 26, 17], [3, 2], 0), (20, [26, 2], [2], 82), (90, [26], [], 0), (91, [26], [], 40), (20, [25, 2], [2], 83), (0, [25], [], 344), (41, [23, 24], [], 0), (0, [24], [], 5), (22, [23, 22, 17], [2], 0), (90, [23], [], 0), (91, [23], [], 5), (20, [22, 2], [2], 24), (0, [22], [], 298), (80, [18, 4, 21], [2, 1], 0), (1, [21, 19, 20], [], 0), (0, [20], [], 1), (22, [19, 18, 4], [1], 0), (90, [19], [], 0), (91, [19], [], 16), (20, [18, 2], [1], 86), (0, [18], [], 347), (1, [17, 14, 16], [], 0), (22, [16, 15, 4], [1], 0), (90, [16], [], 0), (91, [16], [], 16), (20, [15, 2], [1], 86), (0, [15], [], 347), (3, [14, 11, 13], [], 0), (22, [13, 12, 4], [1], 0), (90, [13], [], 0), (91, [13], [], 62), (20, [12, 2], [1], 85), (0, [12], [], 346), (0, [11], [], 16), (41, [6, 10], [], 0), (22, [10, 7, 9], [1], 0), (90, [10], [], 0), (91, [10], [], 16), (22, [9, 8, 4], [1], 0), (90, [9], [], 0), (91, [9], [], 62), (20, [8, 2], [1], 85), (0, [8], [], 346), (20, [7, 2], [1], 22), (0, [7], [], 296), (22, [6, 5, 4], [1], 0), (90, [6], [], 0), (91, [6], [], 16), (20, [5, 2], [1], 86), (0, [5], [], 347), (33, [4], [], 0), (5000, [0, 1, 2, 3, 4], [0, 1], 34), (0, [0], [], 285), (90, [1], [], 0), (91, [1], [], 7), (0, [2], [], 285), (90, [3], [], 0), (91, [3], [], 7), (90, [4], [], -1), (91, [4], [], 6)], (70, [28], [], 40)),
  ([(1, [33, 31, 32], [], 0), (0, [32], [], 1), (20, [31, 2], [4], 82), (90, [31], [], 0), (91, [31], [], 40), (80, [27, 28, 30], [4, 3], 0), (22, [30, 29, 4], [3], 0), (90, [30], [], -1000), (91, [30], [], 1000), (20, [29, 2], [3], 87), (0, [29], [], 348), (20, [28, 2], [3], 82), (90, [28], [], 0), (91, [28], [], 40), (20, [27, 2], [3], 84), (0, [27], [], 345), (80, [25, 26, 17], [3, 2], 0), (20, [26, 2], [2], 82), (90, [26], [], 0), (91, [26], [], 40), (20, [25, 2], [2], 83), (0, [25], [], 344), (41, [23, 24], [], 0), (0, [24], [], 5), (22, [23, 22, 17], [2], 0), (90, [23], [], 0), (91, [23], [], 5), (20, [22, 2], [2], 24), (0, [22], [], 298), (80, [18, 4, 21], [2, 1], 0), (1, [21, 19, 20], [], 0), (0, [20], [], 1), (22, [19, 18, 4], [1], 0), (90, [19], [], 0), (91, [19], [], 16), (20, [18, 2], [1], 86), (0, [18], [], 347), (1, [17, 14, 16], [], 0), (22, [16, 15, 4], [1], 0), (90, [16], [], 0), (91, [16], [], 16), (20, [15, 2], [1], 86), (0, [15], [], 347), (3, [14, 11, 13], [], 0), (22, [13, 12, 4], [1], 0), (90, [13], [], 0), (91, [13], [], 62), (20, [12, 2], [1], 85), (0, [12], [], 346), (0, [11], [], 16), (41, [6, 10], [], 0), (22, [10, 7, 9], [1], 0), (90, [10], [], 0), (91, [10], [], 16), (22, [9, 8, 4], [1], 0), (90, [9], [], 0), (91, [9], [], 62), (20, [8, 2], [1], 85), (0, [8], [], 346), (20, [7, 2], [1], 22), (0, [7], [], 296), (22, [6, 5, 4], [1], 0), (90, [6], [], 0), (91, [6], [], 16), (20, [5, 2], [1], 86), (0, [5], [], 347), (33, [4], [], 0), (5000, [0, 1, 2, 3, 4], [0, 1], 34), (0, [0], [], 285), (90, [1], [], 0), (91, [1], [], 7), (0, [2], [], 285), (90, [3], [], 0), (91, [3], [], 7), (90, [4], [], -1), (91, [4], [], 6)], (90, [33], [], 0)),
  ([(1, [33, 31, 32], [], 0), (0, [32], [], 1), (20, [31, 2], [4], 82), (90, [31], [], 0), (91, [31], [], 40), (80, [27, 28, 30], [4, 3], 0), (22, [30, 29, 4], [3], 0), (90, [30], [], -1000), (91, [30], [], 1000), (20, [29, 2], [3], 87), (0, [29], [], 348), (20, [28, 2], [3], 82), (90, [28], [], 0), (91, [28], [], 40), (20, [27, 2], [3], 84), (0, [27], [], 345), (80, [25, 26, 17], [3, 2], 0), (20, [26, 2], [2], 82), (90, [26], [], 0), (91, [26], [], 40), (20, [25, 2], [2], 83), (0, [25], [], 344), (41, [23, 24], [], 0), (0, [24], [], 5), (22, [23, 22, 17], [2], 0), (90, [23], [], 0), (91, [23], [], 5), (20, [22, 2], [2], 24), (0, [22], [], 298), (80, [18, 4, 21], [2, 1], 0), (1, [21, 19, 20], [], 0), (0, [20], [], 1), (22, [19, 18, 4], [1], 0), (90, [19], [], 0), (91, [19], [], 16), (20, [18, 2], [1], 86), (0, [18], [], 347), (1, [17, 14, 16], [], 0), (22, [16, 15, 4], [1], 0), (90, [16], [], 0), (91, [16], [], 16), (20, [15, 2], [1], 86), (0, [15], [], 347), (3, [14, 11, 13], [], 0), (22, [13, 12, 4], [1], 0), (90, [13], [], 0), (91, [13], [], 62), (20, [12, 2], [1], 85), (0, [12], [], 346), (0, [11], [], 16), (41, [6, 10], [], 0), (22, [10, 7, 9], [1], 0), (90, [10], [], 0), (91, [10], [], 16), (22, [9, 8, 4], [1], 0), (90, [9], [], 0), (91, [9], [], 62), (20, [8, 2], [1], 85), (0, [8], [], 346), (20, [7, 2], [1], 22), (0, [7], [], 296), (22, [6, 5, 4], [1], 0), (90, [6], [], 0), (91, [6], [], 16), (20, [5, 2], [1], 86), (0, [5], [], 347), (33, [4], [], 0), (5000, [0, 1, 2, 3, 4], [0, 1], 34), (0, [0], [], 285), (90, [1], [], 0), (91, [1], [], 7), (0, [2], [], 285), (90, [3], [], 0), (91, [3], [], 7), (90, [4], [], -1), (91, [4], [], 6)], (91, [33], [], 40)),
  ([(80, [2, 34, 33], [5, 4], 0), (0, [34], [], 82), (1, [33, 31, 32], [], 0), (0, [32], [], 1), (20, [31, 2], [4], 82), (90, [31], [], 0), (91, [31], [], 40), (80, [27, 28, 30], [4, 3], 0), (22, [30, 29, 4], [3], 0), (90, [30], [], -1000), (91, [30], [], 1000), (20, [29, 2], [3], 87), (0, [29], [], 348), (20, [28, 2], [3], 82), (90, [28], [], 0), (91, [28], [], 40), (20, [27, 2], [3], 84), (0, [27], [], 345), (80, [25, 26, 17], [3, 2], 0), (20, [26, 2], [2], 82), (90, [26], [], 0), (91, [26], [], 40), (20, [25, 2], [2], 83), (0, [25], [], 344), (41, [23, 24], [], 0), (0, [24], [], 5), (22, [23, 22, 17], [2], 0), (90, [23], [], 0), (91, [23], [], 5), (20, [22, 2], [2], 24), (0, [22], [], 298), (80, [18, 4, 21], [2, 1], 0), (1, [21, 19, 20], [], 0), (0, [20], [], 1), (22, [19, 18, 4], [1], 0), (90, [19], [], 0), (91, [19], [], 16), (20, [18, 2], [1], 86), (0, [18], [], 347), (1, [17, 14, 16], [], 0), (22, [16, 15, 4], [1], 0), (90, [16], [], 0), (91, [16], [], 16), (20, [15, 2], [1], 86), (0, [15], [], 347), (3, [14, 11, 13], [], 0), (22, [13, 12, 4], [1], 0), (90, [13], [], 0), (91, [13], [], 62), (20, [12, 2], [1], 85), (0, [12], [], 346), (0, [11], [], 16), (41, [6, 10], [], 0), (22, [10, 7, 9], [1], 0), (90, [10], [], 0), (91, [10], [], 16), (22, [9, 8, 4], [1], 0), (90, [9], [], 0), (91, [9], [], 62), (20, [8, 2], [1], 85), (0, [8], [], 346), (20, [7, 2], [1], 22), (0, [7], [], 296), (22, [6, 5, 4], [1], 0), (90, [6], [], 0), (91, [6], [], 16), (20, [5, 2], [1], 86), (0, [5], [], 347), (33, [4], [], 0), (5000, [0, 1, 2, 3, 4], [0, 1], 34), (0, [0], [], 285), (90, [1], [], 0), (91, [1], [], 7), (0, [2], [], 285), (90, [3], [], 0), (91, [3], [], 7), (90, [4], [], -1), (91, [4], [], 6)], (4000, [2, 3, 4], [5], 34)),
  ([(10, [11, 4], [], -1), (40, [6, 10], [], 0), (22, [10, 7, 9], [1], 0), (90, [10], [], 0), (91, [10], [], 16), (22, [9, 8, 4], [1], 0), (90, [9], [], 0), (91, [9], [], 62), (20, [8, 2], [1], 85), (0, [8], [], 346), (20, [7, 2], [1], 22), (0, [7], [], 296), (22, [6, 5, 4], [1], 0), (90, [6], [], 0), (91, [6], [], 16), (20, [5, 2], [1], 86), (0, [5], [], 347), (33, [4], [], 0), (5000, [0, 1, 2, 3, 4], [0, 1], 34), (0, [0], [], 285), (90, [1], [], 0), (91, [1], [], 7), (0, [2], [], 285), (90, [3], [], 0), (91, [3], [], 7), (90, [4], [], -1), (91, [4], [], 6)], (90, [11], [], -1)),
  ([(10, [11, 4], [], -1), (40, [6, 10], [], 0), (22, [10, 7, 9], [1], 0), (90, [10], [], 0), (91, [10], [], 16), (22, [9, 8, 4], [1], 0), (90, [9], [], 0), (91, [9], [], 62), (20, [8, 2], [1], 85), (0, [8], [], 346), (20, [7, 2], [1], 22), (0, [7], [], 296), (22, [6, 5, 4], [1], 0), (90, [6], [], 0), (91, [6], [], 16), (20, [5, 2], [1], 86), (0, [5], [], 347), (33, [4], [], 0), (5000, [0, 1, 2, 3, 4], [0, 1], 34), (0, [0], [], 285), (90, [1], [], 0), (91, [1], [], 7), (0, [2], [], 285), (90, [3], [], 0), (91, [3], [], 7), (90, [4], [], -1), (91, [4], [], 6)], (91, [11], [], 6)),
  ([(10, [11, 4], [], -1), (40, [6, 10], [], 0), (22, [10, 7, 9], [1], 0), (90, [10], [], 0), (91, [10], [], 16), (22, [9, 8, 4], [1], 0), (90, [9], [], 0), (91, [9], [], 62), (20, [8, 2], [1], 85), (0, [8], [], 346), (20, [7, 2], [1], 22), (0, [7], [], 296), (22, [6, 5, 4], [1], 0), (90, [6], [], 0), (91, [6], [], 16), (20, [5, 2], [1], 86), (0, [5], [], 347), (33, [4], [], 0), (5000, [0, 1, 2, 3, 4], [0, 1], 34), (0, [0], [], 285), (90, [1], [], 0), (91, [1], [], 7), (0, [2], [], 285), (90, [3], [], 0), (91, [3], [], 7), (90, [4], [], -1), (91, [4], [], 6)], (4000, [2, 3, 11], [1], 34))]
theorem r_270_34 : vCovO false (eRc e_270 L_270 cs_270 2000 (34, [(0, (3, 12, 285, 0)), (1, (0, 0, 7, 0)), (2, (0, -1, 6, 0))])) p_270_34 = true := by decide +kernel
theorem m_270 (d : Nat) : eC e_270 (d + 2) := eC_ok (e := e_270) (L := L_270) (cs := cs_270) (n := 2000) (d := d + 1) (A := A_270) (μ := mu_270) (tp := false) (p0 := p_270_s) rfl ⟨m_269 d, trivial⟩ rfl (.inl rfl) (by decide +kernel) (fun z => nomatch z) r_270_s (allC c_270_s_0 (allC c_270_s_1 (allC c_270_s_2 allN))) (allC (.inl ⟨p_270_34, r_270_34, fun q0 => (allC c_270_34_0 (allC c_270_34_1 (allC c_270_34_2 (allC c_270_34_3 (allC c_270_34_4 (allC c_270_34_5 (allC c_270_34_6 (allC c_270_34_7 (allC c_270_34_8 (allC c_270_34_9 (allC c_270_34_10 (allC c_270_34_11 (allC c_270_34_12 (allC c_270_34_13 (allC c_270_34_14 (allC c_270_34_15 (allC c_270_34_16 (allC c_270_34_17 (allC c_270_34_18 (allC c_270_34_19 (allC c_270_34_20 (allC c_270_34_21 (allC c_270_34_22 (allC c_270_34_23 (allC c_270_34_24 (allC c_270_34_25 (allC c_270_34_26 (allC c_270_34_27 allN))))))))))))))))))))))))))))⟩) allN)
