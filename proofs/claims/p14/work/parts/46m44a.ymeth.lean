/-! CONTRACTS of methods (printed by wip/gen/emit.py). -/
/- MixStageModel.frameOf (III)I -/
noncomputable def s_269 : vM := ([(3, 12, 285, 0), (0, -1, 7, 0), (0, -9999, 9999, 0), (0, -1000, 1000, 0)], (0, -10999, 10999, 0), 0, 0, [])
def postb_269 (r a0 a1 a2 a3 : Int) (h0 h : gH) : Prop := (a1 = -1 ∧ r = a2 + a3) ∨ (¬ a1 = -1 ∧ a2 ≤ r ∧ r ≤ a2 + 60)
def post_269 : List Int → gH → gH → Prop := fun xs h0 h => match xs with
  | [r, a0, a1, a2, a3] => postb_269 r a0 a1 a2 a3 h0 h
  | _ => True
noncomputable def e_269 : vE := (269, s_269, pre0, post_269)
noncomputable def L_269 : List vE := []
def cs_269 : List vC := []
def A_269 : Int → List Int → gH → gH → Prop := fun c xs h0 h => True
def mu_269 : Int → List Int → gH → gH → Nat := fun c xs h0 h => 0
theorem q_269_0 {n0 n1 n2 n3 n4 : Int} {H0 : gH} (f0 : n0 ≤ 1000) (f1 : (-1000) ≤ n0) (f2 : n1 ≤ 9999) (f3 : (-9999) ≤ n1) (f4 : n2 ≤ 7) (f5 : (-1) ≤ n2) (f6 : n3 = 285) (f7 : hWt T0 H0 ∧ True) (f8 : n4 = (-1)) (f9 : n2 ≠ n4) : 0 ≤ n2 ∧ n2 < 8 := by
  omega
theorem c_269_s_0 : vOkm T0 (eP e_269 L_269 A_269 mu_269 none) 4 ([(41, [1, 4], [], 0), (0, [4], [], -1), (6000, [0, 1, 2, 3], [0], 0), (0, [0], [], 285), (90, [1], [], -1), (91, [1], [], 7), (90, [2], [], -9999), (91, [2], [], 9999), (90, [3], [], -1000), (91, [3], [], 1000)], (70, [1], [], 8)) := vOk_in fun ρ η h => by
  obtain ⟨f0, f1, f2, f3, f4, f5, f6, f7, f8, f9, _⟩ := h
  exact q_269_0 (n0 := ρ 3) (n1 := ρ 2) (n2 := ρ 1) (n3 := ρ 0) (n4 := ρ 4) (H0 := η 0) f9 f8 f7 f6 f5 f4 f3 f2 f1 f0
theorem q_269_1 {n0 n1 n2 n3 n4 n5 n6 n7 : Int} {H0 : gH} (f0 : n0 ≤ 1000) (f1 : (-1000) ≤ n0) (f2 : n1 ≤ 9999) (f3 : (-9999) ≤ n1) (f4 : n2 ≤ 7) (f5 : (-1) ≤ n2) (f6 : n3 = 285) (f7 : hWt T0 H0 ∧ True) (f8 : n4 = (-1)) (f9 : n2 ≠ n4) (f10 : n5 = 340) (f11 : n5 = hV H0 (n3).toNat 78) (f12 : n6 ≤ 60) (f13 : 0 ≤ n6) (f14 : n6 = hV H0 (n5).toNat (n2).toNat) (f15 : n7 = w32 (n6 + n1)) : (-10999) ≤ n7 := by
  have e0 : n6 = hV H0 340 (n2).toNat := (by rw [f10] at f14; exact f14 : n6 = hV H0 340 (n2).toNat)
  clear f11 f14
  subst e0
  unfold w32 at *
  try (have ix0 : n7 = hV H0 340 (n2).toNat + n1 := (by omega); subst ix0)
  omega
theorem c_269_s_1 : vOkm T0 (eP e_269 L_269 A_269 mu_269 none) 4 ([(1, [7, 6, 2], [], 0), (22, [6, 5, 1], [0], 0), (90, [6], [], 0), (91, [6], [], 60), (20, [5, 0], [0], 78), (0, [5], [], 340), (41, [1, 4], [], 0), (0, [4], [], -1), (6000, [0, 1, 2, 3], [0], 0), (0, [0], [], 285), (90, [1], [], -1), (91, [1], [], 7), (90, [2], [], -9999), (91, [2], [], 9999), (90, [3], [], -1000), (91, [3], [], 1000)], (90, [7], [], -10999)) := vOk_in fun ρ η h => by
  obtain ⟨f0, f1, f2, f3, f4, f5, f6, f7, f8, f9, f10, f11, f12, f13, f14, f15, _⟩ := h
  exact q_269_1 (n0 := ρ 3) (n1 := ρ 2) (n2 := ρ 1) (n3 := ρ 0) (n4 := ρ 4) (n5 := ρ 5) (n6 := ρ 6) (n7 := ρ 7) (H0 := η 0) f15 f14 f13 f12 f11 f10 f9 f8 f7 f6 f5 f4 f3 f2 f1 f0
theorem q_269_2 {n0 n1 n2 n3 n4 n5 n6 n7 : Int} {H0 : gH} (f0 : n0 ≤ 1000) (f1 : (-1000) ≤ n0) (f2 : n1 ≤ 9999) (f3 : (-9999) ≤ n1) (f4 : n2 ≤ 7) (f5 : (-1) ≤ n2) (f6 : n3 = 285) (f7 : hWt T0 H0 ∧ True) (f8 : n4 = (-1)) (f9 : n2 ≠ n4) (f10 : n5 = 340) (f11 : n5 = hV H0 (n3).toNat 78) (f12 : n6 ≤ 60) (f13 : 0 ≤ n6) (f14 : n6 = hV H0 (n5).toNat (n2).toNat) (f15 : n7 = w32 (n6 + n1)) : n7 ≤ 10999 := by
  have e0 : n6 = hV H0 340 (n2).toNat := (by rw [f10] at f14; exact f14 : n6 = hV H0 340 (n2).toNat)
  clear f11 f14
  subst e0
  unfold w32 at *
  try (have ix0 : n7 = hV H0 340 (n2).toNat + n1 := (by omega); subst ix0)
  omega
theorem c_269_s_2 : vOkm T0 (eP e_269 L_269 A_269 mu_269 none) 4 ([(1, [7, 6, 2], [], 0), (22, [6, 5, 1], [0], 0), (90, [6], [], 0), (91, [6], [], 60), (20, [5, 0], [0], 78), (0, [5], [], 340), (41, [1, 4], [], 0), (0, [4], [], -1), (6000, [0, 1, 2, 3], [0], 0), (0, [0], [], 285), (90, [1], [], -1), (91, [1], [], 7), (90, [2], [], -9999), (91, [2], [], 9999), (90, [3], [], -1000), (91, [3], [], 1000)], (91, [7], [], 10999)) := vOk_in fun ρ η h => by
  obtain ⟨f0, f1, f2, f3, f4, f5, f6, f7, f8, f9, f10, f11, f12, f13, f14, f15, _⟩ := h
  exact q_269_2 (n0 := ρ 3) (n1 := ρ 2) (n2 := ρ 1) (n3 := ρ 0) (n4 := ρ 4) (n5 := ρ 5) (n6 := ρ 6) (n7 := ρ 7) (H0 := η 0) f15 f14 f13 f12 f11 f10 f9 f8 f7 f6 f5 f4 f3 f2 f1 f0
theorem q_269_3 {n0 n1 n2 n3 n4 n5 n6 n7 : Int} {H0 : gH} (f0 : n0 ≤ 1000) (f1 : (-1000) ≤ n0) (f2 : n1 ≤ 9999) (f3 : (-9999) ≤ n1) (f4 : n2 ≤ 7) (f5 : (-1) ≤ n2) (f6 : n3 = 285) (f7 : hWt T0 H0 ∧ True) (f8 : n4 = (-1)) (f9 : n2 ≠ n4) (f10 : n5 = 340) (f11 : n5 = hV H0 (n3).toNat 78) (f12 : n6 ≤ 60) (f13 : 0 ≤ n6) (f14 : n6 = hV H0 (n5).toNat (n2).toNat) (f15 : n7 = w32 (n6 + n1)) : postb_269 n7 n3 n2 n1 n0 H0 H0 := by
  unfold postb_269
  have e0 : n6 = hV H0 340 (n2).toNat := (by rw [f10] at f14; exact f14 : n6 = hV H0 340 (n2).toNat)
  clear f11 f14
  subst e0
  unfold w32 at *
  try (have ix0 : n7 = hV H0 340 (n2).toNat + n1 := (by omega); subst ix0)
  first | assumption | omega | trivial
theorem c_269_s_3 : vOkm T0 (eP e_269 L_269 A_269 mu_269 none) 4 ([(1, [7, 6, 2], [], 0), (22, [6, 5, 1], [0], 0), (90, [6], [], 0), (91, [6], [], 60), (20, [5, 0], [0], 78), (0, [5], [], 340), (41, [1, 4], [], 0), (0, [4], [], -1), (6000, [0, 1, 2, 3], [0], 0), (0, [0], [], 285), (90, [1], [], -1), (91, [1], [], 7), (90, [2], [], -9999), (91, [2], [], 9999), (90, [3], [], -1000), (91, [3], [], 1000)], (3000, [7], [0], 19)) := vOk_in fun ρ η h => by
  obtain ⟨f0, f1, f2, f3, f4, f5, f6, f7, f8, f9, f10, f11, f12, f13, f14, f15, _⟩ := h
  exact q_269_3 (n0 := ρ 3) (n1 := ρ 2) (n2 := ρ 1) (n3 := ρ 0) (n4 := ρ 4) (n5 := ρ 5) (n6 := ρ 6) (n7 := ρ 7) (H0 := η 0) f15 f14 f13 f12 f11 f10 f9 f8 f7 f6 f5 f4 f3 f2 f1 f0
theorem q_269_4 {n0 n1 n2 n3 n4 n5 : Int} {H0 : gH} (f0 : n0 ≤ 1000) (f1 : (-1000) ≤ n0) (f2 : n1 ≤ 9999) (f3 : (-9999) ≤ n1) (f4 : n2 ≤ 7) (f5 : (-1) ≤ n2) (f6 : n3 = 285) (f7 : hWt T0 H0 ∧ True) (f8 : n4 = (-1)) (f9 : n2 = n4) (f10 : n5 = w32 (n1 + n0)) : (-10999) ≤ n5 := by
  unfold w32 at *
  try (have ix0 : n5 = n1 + n0 := (by omega); subst ix0)
  omega
theorem c_269_s_4 : vOkm T0 (eP e_269 L_269 A_269 mu_269 none) 4 ([(1, [5, 2, 3], [], 0), (40, [1, 4], [], 0), (0, [4], [], -1), (6000, [0, 1, 2, 3], [0], 0), (0, [0], [], 285), (90, [1], [], -1), (91, [1], [], 7), (90, [2], [], -9999), (91, [2], [], 9999), (90, [3], [], -1000), (91, [3], [], 1000)], (90, [5], [], -10999)) := vOk_in fun ρ η h => by
  obtain ⟨f0, f1, f2, f3, f4, f5, f6, f7, f8, f9, f10, _⟩ := h
  exact q_269_4 (n0 := ρ 3) (n1 := ρ 2) (n2 := ρ 1) (n3 := ρ 0) (n4 := ρ 4) (n5 := ρ 5) (H0 := η 0) f10 f9 f8 f7 f6 f5 f4 f3 f2 f1 f0
theorem q_269_5 {n0 n1 n2 n3 n4 n5 : Int} {H0 : gH} (f0 : n0 ≤ 1000) (f1 : (-1000) ≤ n0) (f2 : n1 ≤ 9999) (f3 : (-9999) ≤ n1) (f4 : n2 ≤ 7) (f5 : (-1) ≤ n2) (f6 : n3 = 285) (f7 : hWt T0 H0 ∧ True) (f8 : n4 = (-1)) (f9 : n2 = n4) (f10 : n5 = w32 (n1 + n0)) : n5 ≤ 10999 := by
  unfold w32 at *
  try (have ix0 : n5 = n1 + n0 := (by omega); subst ix0)
  omega
theorem c_269_s_5 : vOkm T0 (eP e_269 L_269 A_269 mu_269 none) 4 ([(1, [5, 2, 3], [], 0), (40, [1, 4], [], 0), (0, [4], [], -1), (6000, [0, 1, 2, 3], [0], 0), (0, [0], [], 285), (90, [1], [], -1), (91, [1], [], 7), (90, [2], [], -9999), (91, [2], [], 9999), (90, [3], [], -1000), (91, [3], [], 1000)], (91, [5], [], 10999)) := vOk_in fun ρ η h => by
  obtain ⟨f0, f1, f2, f3, f4, f5, f6, f7, f8, f9, f10, _⟩ := h
  exact q_269_5 (n0 := ρ 3) (n1 := ρ 2) (n2 := ρ 1) (n3 := ρ 0) (n4 := ρ 4) (n5 := ρ 5) (H0 := η 0) f10 f9 f8 f7 f6 f5 f4 f3 f2 f1 f0
theorem q_269_6 {n0 n1 n2 n3 n4 n5 : Int} {H0 : gH} (f0 : n0 ≤ 1000) (f1 : (-1000) ≤ n0) (f2 : n1 ≤ 9999) (f3 : (-9999) ≤ n1) (f4 : n2 ≤ 7) (f5 : (-1) ≤ n2) (f6 : n3 = 285) (f7 : hWt T0 H0 ∧ True) (f8 : n4 = (-1)) (f9 : n2 = n4) (f10 : n5 = w32 (n1 + n0)) : postb_269 n5 n3 n2 n1 n0 H0 H0 := by
  unfold postb_269
  unfold w32 at *
  try (have ix0 : n5 = n1 + n0 := (by omega); subst ix0)
  first | assumption | omega | trivial
theorem c_269_s_6 : vOkm T0 (eP e_269 L_269 A_269 mu_269 none) 4 ([(1, [5, 2, 3], [], 0), (40, [1, 4], [], 0), (0, [4], [], -1), (6000, [0, 1, 2, 3], [0], 0), (0, [0], [], 285), (90, [1], [], -1), (91, [1], [], 7), (90, [2], [], -9999), (91, [2], [], 9999), (90, [3], [], -1000), (91, [3], [], 1000)], (3000, [5], [0], 19)) := vOk_in fun ρ η h => by
  obtain ⟨f0, f1, f2, f3, f4, f5, f6, f7, f8, f9, f10, _⟩ := h
  exact q_269_6 (n0 := ρ 3) (n1 := ρ 2) (n2 := ρ 1) (n3 := ρ 0) (n4 := ρ 4) (n5 := ρ 5) (H0 := η 0) f10 f9 f8 f7 f6 f5 f4 f3 f2 f1 f0
def p_269_s : List vG := [([(41, [1, 4], [], 0), (0, [4], [], -1), (6000, [0, 1, 2, 3], [0], 0), (0, [0], [], 285), (90, [1], [], -1), (91, [1], [], 7), (90, [2], [], -9999), (91, [2], [], 9999), (90, [3], [], -1000), (91, [3], [], 1000)], (70, [1], [], 8)),
  ([(1, [7, 6, 2], [], 0), (22, [6, 5, 1], [0], 0), (90, [6], [], 0), (91, [6], [], 60), (20, [5, 0], [0], 78), (0, [5], [], 340), (41, [1, 4], [], 0), (0, [4], [], -1), (6000, [0, 1, 2, 3], [0], 0), (0, [0], [], 285), (90, [1], [], -1), (91, [1], [], 7), (90, [2], [], -9999), (91, [2], [], 9999), (90, [3], [], -1000), (91, [3], [], 1000)], (90, [7], [], -10999)),
  ([(1, [7, 6, 2], [], 0), (22, [6, 5, 1], [0], 0), (90, [6], [], 0), (91, [6], [], 60), (20, [5, 0], [0], 78), (0, [5], [], 340), (41, [1, 4], [], 0), (0, [4], [], -1), (6000, [0, 1, 2, 3], [0], 0), (0, [0], [], 285), (90, [1], [], -1), (91, [1], [], 7), (90, [2], [], -9999), (91, [2], [], 9999), (90, [3], [], -1000), (91, [3], [], 1000)], (91, [7], [], 10999)),
  ([(1, [7, 6, 2], [], 0), (22, [6, 5, 1], [0], 0), (90, [6], [], 0), (91, [6], [], 60), (20, [5, 0], [0], 78), (0, [5], [], 340), (41, [1, 4], [], 0), (0, [4], [], -1), (6000, [0, 1, 2, 3], [0], 0), (0, [0], [], 285), (90, [1], [], -1), (91, [1], [], 7), (90, [2], [], -9999), (91, [2], [], 9999), (90, [3], [], -1000), (91, [3], [], 1000)], (3000, [7], [0], 19)),
  ([(1, [5, 2, 3], [], 0), (40, [1, 4], [], 0), (0, [4], [], -1), (6000, [0, 1, 2, 3], [0], 0), (0, [0], [], 285), (90, [1], [], -1), (91, [1], [], 7), (90, [2], [], -9999), (91, [2], [], 9999), (90, [3], [], -1000), (91, [3], [], 1000)], (90, [5], [], -10999)),
  ([(1, [5, 2, 3], [], 0), (40, [1, 4], [], 0), (0, [4], [], -1), (6000, [0, 1, 2, 3], [0], 0), (0, [0], [], 285), (90, [1], [], -1), (91, [1], [], 7), (90, [2], [], -9999), (91, [2], [], 9999), (90, [3], [], -1000), (91, [3], [], 1000)], (91, [5], [], 10999)),
  ([(1, [5, 2, 3], [], 0), (40, [1, 4], [], 0), (0, [4], [], -1), (6000, [0, 1, 2, 3], [0], 0), (0, [0], [], 285), (90, [1], [], -1), (91, [1], [], 7), (90, [2], [], -9999), (91, [2], [], 9999), (90, [3], [], -1000), (91, [3], [], 1000)], (3000, [5], [0], 19))]
theorem r_269_s : vCovO false (eR0 e_269 L_269 cs_269 2000) p_269_s = true := by decide +kernel
theorem m_269 (d : Nat) : eC e_269 (d + 1) := eC_ok (e := e_269) (L := L_269) (cs := cs_269) (n := 2000) (d := d + 0) (A := A_269) (μ := mu_269) (tp := false) (p0 := p_269_s) rfl trivial rfl (.inr pre0_ok) (by decide +kernel) (fun z => nomatch z) r_269_s (allC c_269_s_0 (allC c_269_s_1 (allC c_269_s_2 (allC c_269_s_3 (allC c_269_s_4 (allC c_269_s_5 (allC c_269_s_6 allN))))))) allN
/- MixStageModel.unfolds (I)V -/
noncomputable def s_270 : vM := ([(3, 12, 285, 0), (0, 0, 7, 0)], (9, 0, 0, 0), 1, 0, [(12, 82), (580, 0), (588, 0), (596, 0), (604, 0), (612, 0)])
def preb_270 (a0 a1 : Int) (h : gH) : Prop := a1 < hV h 285 18 ∧ PG h
def pre_270 : List Int → gH → Prop := fun xs h => match xs with
  | [a0, a1] => preb_270 a0 a1 h
  | _ => False
def postb_270 (a0 a1 : Int) (h0 h : gH) : Prop := XLp (hV h 296) (hV h 298) (hV h 300) (hV h 344) (a1).toNat (hV h 285 82) ∧ XQ h
def post_270 : List Int → gH → gH → Prop := fun xs h0 h => match xs with
  | [a0, a1] => postb_270 a0 a1 h0 h
  | _ => True
noncomputable def e_270 : vE := (270, s_270, pre_270, post_270)
noncomputable def L_270 : List vE := [e_269]
def cs_270 : List vC := [(34, [(0, (3, 12, 285, 0)), (1, (0, 0, 7, 0)), (2, (0, -1, 6, 0))])]
def Ab_270_34 (a0 a1 x0 x1 x2 : Int) (h0 h : gH) : Prop := x1 = a1 ∧ LVp (hV h 294) (hV h 296) (hV h 346) (hV h 347) (a1).toNat x2 ∧ SHp (hV h 348) x2 ∧ ULp (hV h 296) (hV h 298) (hV h 300) (hV h 344) (hV h 346) (hV h 347) (a1).toNat (hV h 285 82) x2
def mub_270_34 (a0 a1 x0 x1 x2 : Int) (h0 h : gH) : Nat := MS (hV h 296) (7 * (a1).toNat) (hV h 346) (hV h 347) (x2 + 1).toNat
def A_270 : Int → List Int → gH → gH → Prop := fun c xs h0 h => match c.toNat with
  | 34 => (match xs with
    | [a0, a1, x0, x1, x2] => Ab_270_34 a0 a1 x0 x1 x2 h0 h
    | _ => False)
  | _ => True
def mu_270 : Int → List Int → gH → gH → Nat := fun c xs h0 h => match c.toNat with
  | 34 => (match xs with
    | [a0, a1, x0, x1, x2] => mub_270_34 a0 a1 x0 x1 x2 h0 h
    | _ => 0)
  | _ => 0
theorem q_270_0 {n0 n1 n2 n3 n4 n5 : Int} {H0 : gH} (f0 : n0 ≤ 7) (f1 : 0 ≤ n0) (f2 : n1 = 285) (f3 : hWt T0 H0 ∧ preb_270 n1 n0 H0) (f4 : n2 = 7) (f5 : n3 = w32 (n2 * n0)) (f6 : n4 = 6) (f7 : n5 = w32 (n3 + n4)) : 0 ≤ n5 := by
  unfold preb_270 at f3
  have e0 : (0 : Int) ≤ hV H0 285 18 ∧ hV H0 285 18 ≤ 8 := f3.1 285 18 _ _ (by decide +kernel)
  have p0 := f3.2.1
  have p1 := f3.2.2
  rw [f4] at f5
  unfold w32 at *
  try (have ix0 : n3 = 7 * n0 := (by omega); subst ix0)
  try (have ix1 : n5 = (7 * n0) + 6 := (by omega); subst ix1)
  omega
theorem c_270_s_0 : vOkm T0 (eP e_270 L_270 A_270 mu_270 none) 2 ([(1, [10, 8, 9], [], 0), (0, [9], [], 6), (3, [8, 7, 1], [], 0), (0, [7], [], 7), (6000, [0, 1], [0], 0), (0, [0], [], 285), (90, [1], [], 0), (91, [1], [], 7)], (90, [10], [], 0)) := vOk_in fun ρ η h => by
  obtain ⟨f0, f1, f2, f3, f4, f5, f6, f7, _⟩ := h
  exact q_270_0 (n0 := ρ 1) (n1 := ρ 0) (n2 := ρ 7) (n3 := ρ 8) (n4 := ρ 9) (n5 := ρ 10) (H0 := η 0) f7 f6 f5 f4 f3 f2 f1 f0
theorem q_270_1 {n0 n1 n2 n3 n4 n5 : Int} {H0 : gH} (f0 : n0 ≤ 7) (f1 : 0 ≤ n0) (f2 : n1 = 285) (f3 : hWt T0 H0 ∧ preb_270 n1 n0 H0) (f4 : n2 = 7) (f5 : n3 = w32 (n2 * n0)) (f6 : n4 = 6) (f7 : n5 = w32 (n3 + n4)) : n5 ≤ 62 := by
  unfold preb_270 at f3
  have e0 : (0 : Int) ≤ hV H0 285 18 ∧ hV H0 285 18 ≤ 8 := f3.1 285 18 _ _ (by decide +kernel)
  have p0 := f3.2.1
  have p1 := f3.2.2
  rw [f4] at f5
  unfold w32 at *
  try (have ix0 : n3 = 7 * n0 := (by omega); subst ix0)
  try (have ix1 : n5 = (7 * n0) + 6 := (by omega); subst ix1)
  omega
theorem c_270_s_1 : vOkm T0 (eP e_270 L_270 A_270 mu_270 none) 2 ([(1, [10, 8, 9], [], 0), (0, [9], [], 6), (3, [8, 7, 1], [], 0), (0, [7], [], 7), (6000, [0, 1], [0], 0), (0, [0], [], 285), (90, [1], [], 0), (91, [1], [], 7)], (91, [10], [], 62)) := vOk_in fun ρ η h => by
  obtain ⟨f0, f1, f2, f3, f4, f5, f6, f7, _⟩ := h
  exact q_270_1 (n0 := ρ 1) (n1 := ρ 0) (n2 := ρ 7) (n3 := ρ 8) (n4 := ρ 9) (n5 := ρ 10) (H0 := η 0) f7 f6 f5 f4 f3 f2 f1 f0
theorem q_270_2 {n0 n1 n2 n3 n4 n5 n6 n7 n8 n9 n10 n11 n12 n13 n14 n15 n16 : Int} {H0 H1 H2 H3 H4 : gH} (f0 : n0 ≤ 7) (f1 : 0 ≤ n0) (f2 : n1 = 285) (f3 : hWt T0 H0 ∧ preb_270 n1 n0 H0) (f4 : n2 = 0) (f5 : n3 = 82) (f6 : hUpd H1 H0 n1 n3 n2) (f7 : n4 = 0) (f8 : n5 = 346) (f9 : n5 = hV H1 (n1).toNat 85) (f10 : n6 = 0) (f11 : n7 = 7) (f12 : n8 = w32 (n7 * n0)) (f13 : n9 = 6) (f14 : n10 = w32 (n8 + n9)) (f15 : hUpd H2 H1 n5 n6 n10) (f16 : n11 = 347) (f17 : n11 = hV H2 (n1).toNat 86) (f18 : n12 = 0) (f19 : n13 = 0) (f20 : hUpd H3 H2 n11 n12 n13) (f21 : n14 = 348) (f22 : n14 = hV H3 (n1).toNat 87) (f23 : n15 = 0) (f24 : n16 = 0) (f25 : hUpd H4 H3 n14 n15 n16) : Ab_270_34 n1 n0 n1 n0 n4 H0 H4 ∧ ∀ q, none = some q → mub_270_34 n1 n0 n1 n0 n4 H0 H4 < q := by
  unfold preb_270 at f3
  unfold Ab_270_34
  have e0 : hV H4 285 82 = hV H3 285 82 := uSlot f25 _ _ (iS (show n15 = ((0 : Nat) : Int) from f23) rfl)
  have e1 : hV H3 285 82 = hV H2 285 82 := uSlot f20 _ _ (iS (show n12 = ((0 : Nat) : Int) from f18) rfl)
  have e2 : hV H2 285 82 = hV H1 285 82 := uSlot f15 _ _ (iS (show n6 = ((0 : Nat) : Int) from f10) rfl)
  have e3 : hV H1 285 82 = n2 := uSame f6 _ _ f2.symm f5.symm
  have e4 : hV H4 285 82 = n2 := (e0).trans ((e1).trans ((e2).trans e3))
  have e5 : hV H4 294 = hV H3 294 := uRowNe f25 _ (iS (show n14 = ((348 : Nat) : Int) from f21) rfl)
  have e6 : hV H3 294 = hV H2 294 := uRowNe f20 _ (iS (show n11 = ((347 : Nat) : Int) from f16) rfl)
  have e7 : hV H2 294 = hV H1 294 := uRowNe f15 _ (iS (show n5 = ((346 : Nat) : Int) from f8) rfl)
  have e8 : hV H1 294 = hV H0 294 := uRowNe f6 _ (iS (show n1 = ((285 : Nat) : Int) from f2) rfl)
  have e9 : hV H2 294 = hV H0 294 := e7.trans e8
  have e10 : hV H3 294 = hV H0 294 := e6.trans e9
  have e11 : hV H4 294 = hV H0 294 := e5.trans e10
  have e12 : hV H4 296 = hV H3 296 := uRowNe f25 _ (iS (show n14 = ((348 : Nat) : Int) from f21) rfl)
  have e13 : hV H3 296 = hV H2 296 := uRowNe f20 _ (iS (show n11 = ((347 : Nat) : Int) from f16) rfl)
  have e14 : hV H2 296 = hV H1 296 := uRowNe f15 _ (iS (show n5 = ((346 : Nat) : Int) from f8) rfl)
  have e15 : hV H1 296 = hV H0 296 := uRowNe f6 _ (iS (show n1 = ((285 : Nat) : Int) from f2) rfl)
  have e16 : hV H2 296 = hV H0 296 := e14.trans e15
  have e17 : hV H3 296 = hV H0 296 := e13.trans e16
  have e18 : hV H4 296 = hV H0 296 := e12.trans e17
  have e19 : hV H4 298 = hV H3 298 := uRowNe f25 _ (iS (show n14 = ((348 : Nat) : Int) from f21) rfl)
  have e20 : hV H3 298 = hV H2 298 := uRowNe f20 _ (iS (show n11 = ((347 : Nat) : Int) from f16) rfl)
  have e21 : hV H2 298 = hV H1 298 := uRowNe f15 _ (iS (show n5 = ((346 : Nat) : Int) from f8) rfl)
  have e22 : hV H1 298 = hV H0 298 := uRowNe f6 _ (iS (show n1 = ((285 : Nat) : Int) from f2) rfl)
  have e23 : hV H2 298 = hV H0 298 := e21.trans e22
  have e24 : hV H3 298 = hV H0 298 := e20.trans e23
  have e25 : hV H4 298 = hV H0 298 := e19.trans e24
  have e26 : hV H4 300 = hV H3 300 := uRowNe f25 _ (iS (show n14 = ((348 : Nat) : Int) from f21) rfl)
  have e27 : hV H3 300 = hV H2 300 := uRowNe f20 _ (iS (show n11 = ((347 : Nat) : Int) from f16) rfl)
  have e28 : hV H2 300 = hV H1 300 := uRowNe f15 _ (iS (show n5 = ((346 : Nat) : Int) from f8) rfl)
  have e29 : hV H1 300 = hV H0 300 := uRowNe f6 _ (iS (show n1 = ((285 : Nat) : Int) from f2) rfl)
  have e30 : hV H2 300 = hV H0 300 := e28.trans e29
  have e31 : hV H3 300 = hV H0 300 := e27.trans e30
  have e32 : hV H4 300 = hV H0 300 := e26.trans e31
  have e33 : hV H4 344 = hV H3 344 := uRowNe f25 _ (iS (show n14 = ((348 : Nat) : Int) from f21) rfl)
  have e34 : hV H3 344 = hV H2 344 := uRowNe f20 _ (iS (show n11 = ((347 : Nat) : Int) from f16) rfl)
  have e35 : hV H2 344 = hV H1 344 := uRowNe f15 _ (iS (show n5 = ((346 : Nat) : Int) from f8) rfl)
  have e36 : hV H1 344 = hV H0 344 := uRowNe f6 _ (iS (show n1 = ((285 : Nat) : Int) from f2) rfl)
  have e37 : hV H2 344 = hV H0 344 := e35.trans e36
  have e38 : hV H3 344 = hV H0 344 := e34.trans e37
  have e39 : hV H4 344 = hV H0 344 := e33.trans e38
  have e40 : hV H4 346 = hV H3 346 := uRowNe f25 _ (iS (show n14 = ((348 : Nat) : Int) from f21) rfl)
  have e41 : hV H3 346 = hV H2 346 := uRowNe f20 _ (iS (show n11 = ((347 : Nat) : Int) from f16) rfl)
  have e42 : hV H2 346 = uF (hV H1 346) n6 n10 := uRow f15 _ f8.symm
  have e43 : hV H1 346 = hV H0 346 := uRowNe f6 _ (iS (show n1 = ((285 : Nat) : Int) from f2) rfl)
  have e44 : hV H2 346 = (uF (hV H0 346) n6 n10) := e42.trans (congrArg (fun z => uF z n6 n10) e43)
  have e45 : hV H3 346 = (uF (hV H0 346) n6 n10) := e41.trans e44
  have e46 : hV H4 346 = (uF (hV H0 346) n6 n10) := e40.trans e45
  have e47 : hV H4 347 = hV H3 347 := uRowNe f25 _ (iS (show n14 = ((348 : Nat) : Int) from f21) rfl)
  have e48 : hV H3 347 = uF (hV H2 347) n12 n13 := uRow f20 _ f16.symm
  have e49 : hV H2 347 = hV H1 347 := uRowNe f15 _ (iS (show n5 = ((346 : Nat) : Int) from f8) rfl)
  have e50 : hV H1 347 = hV H0 347 := uRowNe f6 _ (iS (show n1 = ((285 : Nat) : Int) from f2) rfl)
  have e51 : hV H2 347 = hV H0 347 := e49.trans e50
  have e52 : hV H3 347 = (uF (hV H0 347) n12 n13) := e48.trans (congrArg (fun z => uF z n12 n13) e51)
  have e53 : hV H4 347 = (uF (hV H0 347) n12 n13) := e47.trans e52
  have e54 : hV H4 348 = uF (hV H3 348) n15 n16 := uRow f25 _ f21.symm
  have e55 : hV H3 348 = hV H2 348 := uRowNe f20 _ (iS (show n11 = ((347 : Nat) : Int) from f16) rfl)
  have e56 : hV H2 348 = hV H1 348 := uRowNe f15 _ (iS (show n5 = ((346 : Nat) : Int) from f8) rfl)
  have e57 : hV H1 348 = hV H0 348 := uRowNe f6 _ (iS (show n1 = ((285 : Nat) : Int) from f2) rfl)
  have e58 : hV H2 348 = hV H0 348 := e56.trans e57
  have e59 : hV H3 348 = hV H0 348 := e55.trans e58
  have e60 : hV H4 348 = (uF (hV H0 348) n15 n16) := e54.trans (congrArg (fun z => uF z n15 n16) e59)
  have e61 : (0 : Int) ≤ hV H0 285 18 ∧ hV H0 285 18 ≤ 8 := f3.1 285 18 _ _ (by decide +kernel)
  try simp only [e4, e11, e18, e25, e32, e39, e46, e53, e60] at f3
  try simp only [e4, e11, e18, e25, e32, e39, e46, e53, e60] at e61
  try simp only [e4, e11, e18, e25, e32, e39, e46, e53, e60]
  have p0 := f3.2.1
  have p1 := f3.2.2
  try simp only [e4, e11, e18, e25, e32, e39, e46, e53, e60] at p0
  try simp only [e4, e11, e18, e25, e32, e39, e46, e53, e60] at p1
  clear f9 f17 f22 e0 e1 e2 e5 e6 e7 e8 e9 e10 e11 e12 e13 e14 e15 e16 e17 e18 e19 e20 e21 e22 e23 e24 e25 e26 e27 e28 e29 e30 e31 e32 e33 e34 e35 e36 e37 e38 e39 e40 e41 e43 e44 e45 e46 e47 e49 e50 e51 e52 e53 e55 e56 e57 e58 e59 e60
  rw [f11] at f12
  unfold w32 at *
  try (have ix0 : n8 = 7 * n0 := (by omega); subst ix0)
  try (have ix1 : n10 = (7 * n0) + 6 := (by omega); subst ix1)

  have pg := p1 (n0).toNat (by omega)
  have pr := (pg.2.1 6 (.inr rfl)).1
  refine ⟨⟨by first | omega | trivial, LVp_first (by omega) (by omega) (by omega) (by omega) (by omega) (by omega), SHp_first (by omega) (by omega) (by omega), ULp_first (by omega) (by omega) (by omega) (by omega) (by omega) (by omega)⟩, fun q hq => nomatch hq⟩
theorem c_270_s_2 : vOkm T0 (eP e_270 L_270 A_270 mu_270 none) 2 ([(80, [14, 15, 16], [4, 3], 0), (0, [16], [], 0), (0, [15], [], 0), (20, [14, 0], [3], 87), (0, [14], [], 348), (80, [11, 12, 13], [3, 2], 0), (0, [13], [], 0), (0, [12], [], 0), (20, [11, 0], [2], 86), (0, [11], [], 347), (80, [5, 6, 10], [2, 1], 0), (1, [10, 8, 9], [], 0), (0, [9], [], 6), (3, [8, 7, 1], [], 0), (0, [7], [], 7), (0, [6], [], 0), (20, [5, 0], [1], 85), (0, [5], [], 346), (0, [4], [], 0), (80, [0, 3, 2], [1, 0], 0), (0, [3], [], 82), (0, [2], [], 0), (6000, [0, 1], [0], 0), (0, [0], [], 285), (90, [1], [], 0), (91, [1], [], 7)], (4000, [0, 1, 4], [4], 34)) := vOk_in fun ρ η h => by
  obtain ⟨f0, f1, f2, f3, f4, f5, f6, f7, f8, f9, f10, f11, f12, f13, f14, f15, f16, f17, f18, f19, f20, f21, f22, f23, f24, f25, _⟩ := h
  exact q_270_2 (n0 := ρ 1) (n1 := ρ 0) (n2 := ρ 2) (n3 := ρ 3) (n4 := ρ 4) (n5 := ρ 5) (n6 := ρ 6) (n7 := ρ 7) (n8 := ρ 8) (n9 := ρ 9) (n10 := ρ 10) (n11 := ρ 11) (n12 := ρ 12) (n13 := ρ 13) (n14 := ρ 14) (n15 := ρ 15) (n16 := ρ 16) (H0 := η 0) (H1 := η 1) (H2 := η 2) (H3 := η 3) (H4 := η 4) f25 f24 f23 f22 f21 f20 f19 f18 f17 f16 f15 f14 f13 f12 f11 f10 f9 f8 f7 f6 f5 f4 f3 f2 f1 f0
def p_270_s : List vG := [([(1, [10, 8, 9], [], 0), (0, [9], [], 6), (3, [8, 7, 1], [], 0), (0, [7], [], 7), (6000, [0, 1], [0], 0), (0, [0], [], 285), (90, [1], [], 0), (91, [1], [], 7)], (90, [10], [], 0)),
  ([(1, [10, 8, 9], [], 0), (0, [9], [], 6), (3, [8, 7, 1], [], 0), (0, [7], [], 7), (6000, [0, 1], [0], 0), (0, [0], [], 285), (90, [1], [], 0), (91, [1], [], 7)], (91, [10], [], 62)),
  ([(80, [14, 15, 16], [4, 3], 0), (0, [16], [], 0), (0, [15], [], 0), (20, [14, 0], [3], 87), (0, [14], [], 348), (80, [11, 12, 13], [3, 2], 0), (0, [13], [], 0), (0, [12], [], 0), (20, [11, 0], [2], 86), (0, [11], [], 347), (80, [5, 6, 10], [2, 1], 0), (1, [10, 8, 9], [], 0), (0, [9], [], 6), (3, [8, 7, 1], [], 0), (0, [7], [], 7), (0, [6], [], 0), (20, [5, 0], [1], 85), (0, [5], [], 346), (0, [4], [], 0), (80, [0, 3, 2], [1, 0], 0), (0, [3], [], 82), (0, [2], [], 0), (6000, [0, 1], [0], 0), (0, [0], [], 285), (90, [1], [], 0), (91, [1], [], 7)], (4000, [0, 1, 4], [4], 34))]
theorem r_270_s : vCovO false (eR0 e_270 L_270 cs_270 2000) p_270_s = true := by decide +kernel
theorem q_270_3 {q0 : Nat} {n0 n1 n2 n3 n4 : Int} {H0 H1 : gH} (f0 : n0 ≤ 6) (f1 : (-1) ≤ n0) (f2 : n1 ≤ 7) (f3 : 0 ≤ n1) (f4 : n2 = 285) (f5 : n3 ≤ 7) (f6 : 0 ≤ n3) (f7 : n4 = 285) (f8 : (hLe T0 H0 H1 ∧ hFr s_270.2.2.2.2 H0 H1 ∧ hWt T0 H1) ∧ (Ab_270_34 n4 n3 n2 n1 n0 H0 H1 ∧ preb_270 n4 n3 H0) ∧ some q0 = some (mub_270_34 n4 n3 n2 n1 n0 H0 H1)) (f9 : n0 < 0) : postb_270 n4 n3 H0 H1 := by
  have g4 := f8.2.1.1
  unfold Ab_270_34 at g4
  have g3 := f8.2.1.2
  unfold preb_270 at g3
  unfold postb_270
  have e0 : hV H1 285 18 = hV H0 285 18 := f8.1.2.1.1 285 18 (by decide +kernel)
  have e1 : hV H1 285 18 = hV H0 285 18 := e0
  have e2 : hV H1 294 = hV H0 294 := fRow f8.1.2.1 294 (by decide +kernel)
  have e3 : hV H1 296 = hV H0 296 := fRow f8.1.2.1 296 (by decide +kernel)
  have e4 : hV H1 298 = hV H0 298 := fRow f8.1.2.1 298 (by decide +kernel)
  have e5 : hV H1 300 = hV H0 300 := fRow f8.1.2.1 300 (by decide +kernel)
  have e6 : hV H1 301 = hV H0 301 := fRow f8.1.2.1 301 (by decide +kernel)
  have e7 : hV H1 302 = hV H0 302 := fRow f8.1.2.1 302 (by decide +kernel)
  have e8 : hV H1 303 = hV H0 303 := fRow f8.1.2.1 303 (by decide +kernel)
  have e9 : hV H1 305 = hV H0 305 := fRow f8.1.2.1 305 (by decide +kernel)
  have e10 : (0 : Int) ≤ hV H1 285 18 ∧ hV H1 285 18 ≤ 8 := f8.1.2.2 285 18 _ _ (by decide +kernel)
  have e11 : (0 : Int) ≤ hV H1 285 82 ∧ hV H1 285 82 ≤ 40 := f8.1.2.2 285 82 _ _ (by decide +kernel)
  try simp only [XQ] at *
  try simp only [e1, e2, e3, e4, e5, e6, e7, e8, e9] at f8
  try simp only [e1, e2, e3, e4, e5, e6, e7, e8, e9] at e10
  try simp only [e1, e2, e3, e4, e5, e6, e7, e8, e9] at e11
  try simp only [e1, e2, e3, e4, e5, e6, e7, e8, e9] at g3
  try simp only [e1, e2, e3, e4, e5, e6, e7, e8, e9] at g4
  try simp only [e1, e2, e3, e4, e5, e6, e7, e8, e9]
  have k0 := g4.1
  have y0 := g4.2.1
  have y1 := g4.2.2.1
  have y2 := g4.2.2.2
  have p0 := g3.1
  have p1 := g3.2
  try simp only [e1, e2, e3, e4, e5, e6, e7, e8, e9] at k0
  try simp only [e1, e2, e3, e4, e5, e6, e7, e8, e9] at y0
  try simp only [e1, e2, e3, e4, e5, e6, e7, e8, e9] at y1
  try simp only [e1, e2, e3, e4, e5, e6, e7, e8, e9] at y2
  try simp only [e1, e2, e3, e4, e5, e6, e7, e8, e9] at p0
  try simp only [e1, e2, e3, e4, e5, e6, e7, e8, e9] at p1
  clear g3
  clear g4
  clear e0 e1 e2 e3 e4 e5 e6 e7 e8 e9
  try have ca := cue_at (p1 (n3).toNat (by omega)) y0 (by omega) (by omega) (c := (16 * hV H1 346 (n0).toNat + hV H1 347 (n0).toNat)) (by omega)
  try have sh := y1 (n0).toNat (by omega)
  try have lv := y0 (n0).toNat (by omega)

  have xl := ULp_end y2 (by omega)
  exact ⟨xl, XLp_good xl (p1 (n3).toNat (by omega))⟩
theorem c_270_34_0 {q0 : Nat} : vOkm T0 (eP e_270 L_270 A_270 mu_270 (some q0)) 2 ([(32, [4], [], 0), (5000, [0, 1, 2, 3, 4], [0, 1], 34), (0, [0], [], 285), (90, [1], [], 0), (91, [1], [], 7), (0, [2], [], 285), (90, [3], [], 0), (91, [3], [], 7), (90, [4], [], -1), (91, [4], [], 6)], (3000, [], [1], 203)) := vOk_in fun ρ η h => by
  obtain ⟨f0, f1, f2, f3, f4, f5, f6, f7, f8, f9, _⟩ := h
  exact q_270_3 (q0 := q0) (n0 := ρ 4) (n1 := ρ 3) (n2 := ρ 2) (n3 := ρ 1) (n4 := ρ 0) (H0 := η 0) (H1 := η 1) f9 f8 f7 f6 f5 f4 f3 f2 f1 f0
theorem q_270_4 {q0 : Nat} {n0 n1 n2 n3 n4 n5 n6 n7 n8 n9 n10 n11 n12 n13 n14 n15 n16 n17 n18 n19 n20 n21 : Int} {H0 H1 : gH} (f0 : n0 ≤ 6) (f1 : (-1) ≤ n0) (f2 : n1 ≤ 7) (f3 : 0 ≤ n1) (f4 : n2 = 285) (f5 : n3 ≤ 7) (f6 : 0 ≤ n3) (f7 : n4 = 285) (f8 : (hLe T0 H0 H1 ∧ hFr s_270.2.2.2.2 H0 H1 ∧ hWt T0 H1) ∧ (Ab_270_34 n4 n3 n2 n1 n0 H0 H1 ∧ preb_270 n4 n3 H0) ∧ some q0 = some (mub_270_34 n4 n3 n2 n1 n0 H0 H1)) (f9 : 0 ≤ n0) (f10 : n5 = 347) (f11 : n5 = hV H1 (n2).toNat 86) (f12 : n6 ≤ 16) (f13 : 0 ≤ n6) (f14 : n6 = hV H1 (n5).toNat (n0).toNat) (f15 : n7 = 296) (f16 : n7 = hV H1 (n2).toNat 22) (f17 : n8 = 346) (f18 : n8 = hV H1 (n2).toNat 85) (f19 : n9 ≤ 62) (f20 : 0 ≤ n9) (f21 : n9 = hV H1 (n8).toNat (n0).toNat) (f22 : n10 ≤ 16) (f23 : 0 ≤ n10) (f24 : n10 = hV H1 (n7).toNat (n9).toNat) (f25 : n6 ≠ n10) (f26 : n11 = 16) (f27 : n12 = 346) (f28 : n12 = hV H1 (n2).toNat 85) (f29 : n13 ≤ 62) (f30 : 0 ≤ n13) (f31 : n13 = hV H1 (n12).toNat (n0).toNat) (f32 : n14 = w32 (n11 * n13)) (f33 : n15 = 347) (f34 : n15 = hV H1 (n2).toNat 86) (f35 : n16 ≤ 16) (f36 : 0 ≤ n16) (f37 : n16 = hV H1 (n15).toNat (n0).toNat) (f38 : n17 = w32 (n14 + n16)) (f39 : n18 = 347) (f40 : n18 = hV H1 (n2).toNat 86) (f41 : n19 ≤ 16) (f42 : 0 ≤ n19) (f43 : n19 = hV H1 (n18).toNat (n0).toNat) (f44 : n20 = 1) (f45 : n21 = w32 (n19 + n20)) : 0 ≤ n21 := by
  have g4 := f8.2.1.1
  unfold Ab_270_34 at g4
  have g3 := f8.2.1.2
  unfold preb_270 at g3
  have e0 : n6 = hV H1 347 (n0).toNat := (by rw [f10] at f14; exact f14 : n6 = hV H1 347 (n0).toNat)
  have e1 : n9 = hV H1 346 (n0).toNat := (by rw [f17] at f21; exact f21 : n9 = hV H1 346 (n0).toNat)
  have e2 : hV H1 296 = hV H0 296 := fRow f8.1.2.1 296 (by decide +kernel)
  have e3 : n10 = hV H0 296 (n9).toNat := (by rw [f15] at f24; exact f24 : n10 = hV H1 296 (n9).toNat).trans ((congrFun e2 _))
  have e4 : n13 = hV H1 346 (n0).toNat := (by rw [f27] at f31; exact f31 : n13 = hV H1 346 (n0).toNat)
  have e5 : n16 = hV H1 347 (n0).toNat := (by rw [f33] at f37; exact f37 : n16 = hV H1 347 (n0).toNat)
  have e6 : n19 = hV H1 347 (n0).toNat := (by rw [f39] at f43; exact f43 : n19 = hV H1 347 (n0).toNat)
  have e7 : hV H1 285 18 = hV H0 285 18 := f8.1.2.1.1 285 18 (by decide +kernel)
  have e8 : hV H1 285 18 = hV H0 285 18 := e7
  have e9 : hV H1 294 = hV H0 294 := fRow f8.1.2.1 294 (by decide +kernel)
  have e10 : hV H1 298 = hV H0 298 := fRow f8.1.2.1 298 (by decide +kernel)
  have e11 : hV H1 300 = hV H0 300 := fRow f8.1.2.1 300 (by decide +kernel)
  have e12 : (0 : Int) ≤ hV H1 285 18 ∧ hV H1 285 18 ≤ 8 := f8.1.2.2 285 18 _ _ (by decide +kernel)
  have e13 : (0 : Int) ≤ hV H1 285 82 ∧ hV H1 285 82 ≤ 40 := f8.1.2.2 285 82 _ _ (by decide +kernel)
  try simp only [e8, e9, e2, e10, e11] at f8
  try simp only [e8, e9, e2, e10, e11] at e12
  try simp only [e8, e9, e2, e10, e11] at e13
  try simp only [e8, e9, e2, e10, e11] at g3
  try simp only [e8, e9, e2, e10, e11] at g4
  try simp only [e8, e9, e2, e10, e11]
  have k0 := g4.1
  have y0 := g4.2.1
  have y1 := g4.2.2.1
  have y2 := g4.2.2.2
  have p0 := g3.1
  have p1 := g3.2
  try simp only [e8, e9, e2, e10, e11] at k0
  try simp only [e8, e9, e2, e10, e11] at y0
  try simp only [e8, e9, e2, e10, e11] at y1
  try simp only [e8, e9, e2, e10, e11] at y2
  try simp only [e8, e9, e2, e10, e11] at p0
  try simp only [e8, e9, e2, e10, e11] at p1
  clear g3
  clear g4
  clear f11 f14 f16 f18 f21 f24 f28 f31 f34 f37 f40 f43 e2 e7 e8 e9 e10 e11
  subst e0
  subst e1
  subst e3
  subst e4
  subst e5
  subst e6
  rw [f26] at f32
  unfold w32 at *
  try have ca := cue_at (p1 (n3).toNat (by omega)) y0 (by omega) (by omega) (c := (16 * hV H1 346 (n0).toNat + hV H1 347 (n0).toNat)) (by omega)
  try have sh := y1 (n0).toNat (by omega)
  try have lv := y0 (n0).toNat (by omega)
  try (have ix0 : n21 = hV H1 347 (n0).toNat + 1 := (by omega); subst ix0)

  first
  | omega
  | (have ca := cue_at (p1 (n3).toNat (by omega)) y0 (by omega) (by omega) (c := (16 * hV H1 346 (n0).toNat + hV H1 347 (n0).toNat)) (by omega)
     omega)
  | (have ua := use_at (p1 (n3).toNat (by omega)) y0 (by omega) (by omega) (c := (16 * hV H1 346 (n0).toNat + hV H1 347 (n0).toNat)) (by omega) (by omega)
     omega)
  | (have ul := ULp_lay y2 (p1 (n3).toNat (by omega)) y0 (by omega) (by omega) (by omega) (c := (16 * hV H1 346 (n0).toNat + hV H1 347 (n0).toNat)) (by omega) (by omega)
     omega)
theorem c_270_34_1 {q0 : Nat} : vOkm T0 (eP e_270 L_270 A_270 mu_270 (some q0)) 2 ([(1, [21, 19, 20], [], 0), (0, [20], [], 1), (22, [19, 18, 4], [1], 0), (90, [19], [], 0), (91, [19], [], 16), (20, [18, 2], [1], 86), (0, [18], [], 347), (1, [17, 14, 16], [], 0), (22, [16, 15, 4], [1], 0), (90, [16], [], 0), (91, [16], [], 16), (20, [15, 2], [1], 86), (0, [15], [], 347), (3, [14, 11, 13], [], 0), (22, [13, 12, 4], [1], 0), (90, [13], [], 0), (91, [13], [], 62), (20, [12, 2], [1], 85), (0, [12], [], 346), (0, [11], [], 16), (41, [6, 10], [], 0), (22, [10, 7, 9], [1], 0), (90, [10], [], 0), (91, [10], [], 16), (22, [9, 8, 4], [1], 0), (90, [9], [], 0), (91, [9], [], 62), (20, [8, 2], [1], 85), (0, [8], [], 346), (20, [7, 2], [1], 22), (0, [7], [], 296), (22, [6, 5, 4], [1], 0), (90, [6], [], 0), (91, [6], [], 16), (20, [5, 2], [1], 86), (0, [5], [], 347), (33, [4], [], 0), (5000, [0, 1, 2, 3, 4], [0, 1], 34), (0, [0], [], 285), (90, [1], [], 0), (91, [1], [], 7), (0, [2], [], 285), (90, [3], [], 0), (91, [3], [], 7), (90, [4], [], -1), (91, [4], [], 6)], (90, [21], [], 0)) := vOk_in fun ρ η h => by
  obtain ⟨f0, f1, f2, f3, f4, f5, f6, f7, f8, f9, f10, f11, f12, f13, f14, f15, f16, f17, f18, f19, f20, f21, f22, f23, f24, f25, f26, f27, f28, f29, f30, f31, f32, f33, f34, f35, f36, f37, f38, f39, f40, f41, f42, f43, f44, f45, _⟩ := h
  exact q_270_4 (q0 := q0) (n0 := ρ 4) (n1 := ρ 3) (n2 := ρ 2) (n3 := ρ 1) (n4 := ρ 0) (n5 := ρ 5) (n6 := ρ 6) (n7 := ρ 7) (n8 := ρ 8) (n9 := ρ 9) (n10 := ρ 10) (n11 := ρ 11) (n12 := ρ 12) (n13 := ρ 13) (n14 := ρ 14) (n15 := ρ 15) (n16 := ρ 16) (n17 := ρ 17) (n18 := ρ 18) (n19 := ρ 19) (n20 := ρ 20) (n21 := ρ 21) (H0 := η 0) (H1 := η 1) f45 f44 f43 f42 f41 f40 f39 f38 f37 f36 f35 f34 f33 f32 f31 f30 f29 f28 f27 f26 f25 f24 f23 f22 f21 f20 f19 f18 f17 f16 f15 f14 f13 f12 f11 f10 f9 f8 f7 f6 f5 f4 f3 f2 f1 f0
theorem q_270_5 {q0 : Nat} {n0 n1 n2 n3 n4 n5 n6 n7 n8 n9 n10 n11 n12 n13 n14 n15 n16 n17 n18 n19 n20 n21 : Int} {H0 H1 : gH} (f0 : n0 ≤ 6) (f1 : (-1) ≤ n0) (f2 : n1 ≤ 7) (f3 : 0 ≤ n1) (f4 : n2 = 285) (f5 : n3 ≤ 7) (f6 : 0 ≤ n3) (f7 : n4 = 285) (f8 : (hLe T0 H0 H1 ∧ hFr s_270.2.2.2.2 H0 H1 ∧ hWt T0 H1) ∧ (Ab_270_34 n4 n3 n2 n1 n0 H0 H1 ∧ preb_270 n4 n3 H0) ∧ some q0 = some (mub_270_34 n4 n3 n2 n1 n0 H0 H1)) (f9 : 0 ≤ n0) (f10 : n5 = 347) (f11 : n5 = hV H1 (n2).toNat 86) (f12 : n6 ≤ 16) (f13 : 0 ≤ n6) (f14 : n6 = hV H1 (n5).toNat (n0).toNat) (f15 : n7 = 296) (f16 : n7 = hV H1 (n2).toNat 22) (f17 : n8 = 346) (f18 : n8 = hV H1 (n2).toNat 85) (f19 : n9 ≤ 62) (f20 : 0 ≤ n9) (f21 : n9 = hV H1 (n8).toNat (n0).toNat) (f22 : n10 ≤ 16) (f23 : 0 ≤ n10) (f24 : n10 = hV H1 (n7).toNat (n9).toNat) (f25 : n6 ≠ n10) (f26 : n11 = 16) (f27 : n12 = 346) (f28 : n12 = hV H1 (n2).toNat 85) (f29 : n13 ≤ 62) (f30 : 0 ≤ n13) (f31 : n13 = hV H1 (n12).toNat (n0).toNat) (f32 : n14 = w32 (n11 * n13)) (f33 : n15 = 347) (f34 : n15 = hV H1 (n2).toNat 86) (f35 : n16 ≤ 16) (f36 : 0 ≤ n16) (f37 : n16 = hV H1 (n15).toNat (n0).toNat) (f38 : n17 = w32 (n14 + n16)) (f39 : n18 = 347) (f40 : n18 = hV H1 (n2).toNat 86) (f41 : n19 ≤ 16) (f42 : 0 ≤ n19) (f43 : n19 = hV H1 (n18).toNat (n0).toNat) (f44 : n20 = 1) (f45 : n21 = w32 (n19 + n20)) : n21 ≤ 16 := by
  have g4 := f8.2.1.1
  unfold Ab_270_34 at g4
  have g3 := f8.2.1.2
  unfold preb_270 at g3
  have e0 : n6 = hV H1 347 (n0).toNat := (by rw [f10] at f14; exact f14 : n6 = hV H1 347 (n0).toNat)
  have e1 : n9 = hV H1 346 (n0).toNat := (by rw [f17] at f21; exact f21 : n9 = hV H1 346 (n0).toNat)
  have e2 : hV H1 296 = hV H0 296 := fRow f8.1.2.1 296 (by decide +kernel)
  have e3 : n10 = hV H0 296 (n9).toNat := (by rw [f15] at f24; exact f24 : n10 = hV H1 296 (n9).toNat).trans ((congrFun e2 _))
  have e4 : n13 = hV H1 346 (n0).toNat := (by rw [f27] at f31; exact f31 : n13 = hV H1 346 (n0).toNat)
  have e5 : n16 = hV H1 347 (n0).toNat := (by rw [f33] at f37; exact f37 : n16 = hV H1 347 (n0).toNat)
  have e6 : n19 = hV H1 347 (n0).toNat := (by rw [f39] at f43; exact f43 : n19 = hV H1 347 (n0).toNat)
  have e7 : hV H1 285 18 = hV H0 285 18 := f8.1.2.1.1 285 18 (by decide +kernel)
  have e8 : hV H1 285 18 = hV H0 285 18 := e7
  have e9 : hV H1 294 = hV H0 294 := fRow f8.1.2.1 294 (by decide +kernel)
  have e10 : hV H1 298 = hV H0 298 := fRow f8.1.2.1 298 (by decide +kernel)
  have e11 : hV H1 300 = hV H0 300 := fRow f8.1.2.1 300 (by decide +kernel)
  have e12 : (0 : Int) ≤ hV H1 285 18 ∧ hV H1 285 18 ≤ 8 := f8.1.2.2 285 18 _ _ (by decide +kernel)
  have e13 : (0 : Int) ≤ hV H1 285 82 ∧ hV H1 285 82 ≤ 40 := f8.1.2.2 285 82 _ _ (by decide +kernel)
  try simp only [e8, e9, e2, e10, e11] at f8
  try simp only [e8, e9, e2, e10, e11] at e12
  try simp only [e8, e9, e2, e10, e11] at e13
  try simp only [e8, e9, e2, e10, e11] at g3
  try simp only [e8, e9, e2, e10, e11] at g4
  try simp only [e8, e9, e2, e10, e11]
  have k0 := g4.1
  have y0 := g4.2.1
  have y1 := g4.2.2.1
  have y2 := g4.2.2.2
  have p0 := g3.1
  have p1 := g3.2
  try simp only [e8, e9, e2, e10, e11] at k0
  try simp only [e8, e9, e2, e10, e11] at y0
  try simp only [e8, e9, e2, e10, e11] at y1
  try simp only [e8, e9, e2, e10, e11] at y2
  try simp only [e8, e9, e2, e10, e11] at p0
  try simp only [e8, e9, e2, e10, e11] at p1
  clear g3
  clear g4
  clear f11 f14 f16 f18 f21 f24 f28 f31 f34 f37 f40 f43 e2 e7 e8 e9 e10 e11
  subst e0
  subst e1
  subst e3
  subst e4
  subst e5
  subst e6
  rw [f26] at f32
  unfold w32 at *
  try have ca := cue_at (p1 (n3).toNat (by omega)) y0 (by omega) (by omega) (c := (16 * hV H1 346 (n0).toNat + hV H1 347 (n0).toNat)) (by omega)
  try have sh := y1 (n0).toNat (by omega)
  try have lv := y0 (n0).toNat (by omega)
  try (have ix0 : n21 = hV H1 347 (n0).toNat + 1 := (by omega); subst ix0)

  first
  | omega
  | (have ca := cue_at (p1 (n3).toNat (by omega)) y0 (by omega) (by omega) (c := (16 * hV H1 346 (n0).toNat + hV H1 347 (n0).toNat)) (by omega)
     omega)
  | (have ua := use_at (p1 (n3).toNat (by omega)) y0 (by omega) (by omega) (c := (16 * hV H1 346 (n0).toNat + hV H1 347 (n0).toNat)) (by omega) (by omega)
     omega)
  | (have ul := ULp_lay y2 (p1 (n3).toNat (by omega)) y0 (by omega) (by omega) (by omega) (c := (16 * hV H1 346 (n0).toNat + hV H1 347 (n0).toNat)) (by omega) (by omega)
     omega)
theorem c_270_34_2 {q0 : Nat} : vOkm T0 (eP e_270 L_270 A_270 mu_270 (some q0)) 2 ([(1, [21, 19, 20], [], 0), (0, [20], [], 1), (22, [19, 18, 4], [1], 0), (90, [19], [], 0), (91, [19], [], 16), (20, [18, 2], [1], 86), (0, [18], [], 347), (1, [17, 14, 16], [], 0), (22, [16, 15, 4], [1], 0), (90, [16], [], 0), (91, [16], [], 16), (20, [15, 2], [1], 86), (0, [15], [], 347), (3, [14, 11, 13], [], 0), (22, [13, 12, 4], [1], 0), (90, [13], [], 0), (91, [13], [], 62), (20, [12, 2], [1], 85), (0, [12], [], 346), (0, [11], [], 16), (41, [6, 10], [], 0), (22, [10, 7, 9], [1], 0), (90, [10], [], 0), (91, [10], [], 16), (22, [9, 8, 4], [1], 0), (90, [9], [], 0), (91, [9], [], 62), (20, [8, 2], [1], 85), (0, [8], [], 346), (20, [7, 2], [1], 22), (0, [7], [], 296), (22, [6, 5, 4], [1], 0), (90, [6], [], 0), (91, [6], [], 16), (20, [5, 2], [1], 86), (0, [5], [], 347), (33, [4], [], 0), (5000, [0, 1, 2, 3, 4], [0, 1], 34), (0, [0], [], 285), (90, [1], [], 0), (91, [1], [], 7), (0, [2], [], 285), (90, [3], [], 0), (91, [3], [], 7), (90, [4], [], -1), (91, [4], [], 6)], (91, [21], [], 16)) := vOk_in fun ρ η h => by
  obtain ⟨f0, f1, f2, f3, f4, f5, f6, f7, f8, f9, f10, f11, f12, f13, f14, f15, f16, f17, f18, f19, f20, f21, f22, f23, f24, f25, f26, f27, f28, f29, f30, f31, f32, f33, f34, f35, f36, f37, f38, f39, f40, f41, f42, f43, f44, f45, _⟩ := h
  exact q_270_5 (q0 := q0) (n0 := ρ 4) (n1 := ρ 3) (n2 := ρ 2) (n3 := ρ 1) (n4 := ρ 0) (n5 := ρ 5) (n6 := ρ 6) (n7 := ρ 7) (n8 := ρ 8) (n9 := ρ 9) (n10 := ρ 10) (n11 := ρ 11) (n12 := ρ 12) (n13 := ρ 13) (n14 := ρ 14) (n15 := ρ 15) (n16 := ρ 16) (n17 := ρ 17) (n18 := ρ 18) (n19 := ρ 19) (n20 := ρ 20) (n21 := ρ 21) (H0 := η 0) (H1 := η 1) f45 f44 f43 f42 f41 f40 f39 f38 f37 f36 f35 f34 f33 f32 f31 f30 f29 f28 f27 f26 f25 f24 f23 f22 f21 f20 f19 f18 f17 f16 f15 f14 f13 f12 f11 f10 f9 f8 f7 f6 f5 f4 f3 f2 f1 f0
theorem q_270_6 {q0 : Nat} {n0 n1 n2 n3 n4 n5 n6 n7 n8 n9 n10 n11 n12 n13 n14 n15 n16 n17 n18 n19 n20 n21 : Int} {H0 H1 : gH} (f0 : n0 ≤ 6) (f1 : (-1) ≤ n0) (f2 : n1 ≤ 7) (f3 : 0 ≤ n1) (f4 : n2 = 285) (f5 : n3 ≤ 7) (f6 : 0 ≤ n3) (f7 : n4 = 285) (f8 : (hLe T0 H0 H1 ∧ hFr s_270.2.2.2.2 H0 H1 ∧ hWt T0 H1) ∧ (Ab_270_34 n4 n3 n2 n1 n0 H0 H1 ∧ preb_270 n4 n3 H0) ∧ some q0 = some (mub_270_34 n4 n3 n2 n1 n0 H0 H1)) (f9 : 0 ≤ n0) (f10 : n5 = 347) (f11 : n5 = hV H1 (n2).toNat 86) (f12 : n6 ≤ 16) (f13 : 0 ≤ n6) (f14 : n6 = hV H1 (n5).toNat (n0).toNat) (f15 : n7 = 296) (f16 : n7 = hV H1 (n2).toNat 22) (f17 : n8 = 346) (f18 : n8 = hV H1 (n2).toNat 85) (f19 : n9 ≤ 62) (f20 : 0 ≤ n9) (f21 : n9 = hV H1 (n8).toNat (n0).toNat) (f22 : n10 ≤ 16) (f23 : 0 ≤ n10) (f24 : n10 = hV H1 (n7).toNat (n9).toNat) (f25 : n6 ≠ n10) (f26 : n11 = 16) (f27 : n12 = 346) (f28 : n12 = hV H1 (n2).toNat 85) (f29 : n13 ≤ 62) (f30 : 0 ≤ n13) (f31 : n13 = hV H1 (n12).toNat (n0).toNat) (f32 : n14 = w32 (n11 * n13)) (f33 : n15 = 347) (f34 : n15 = hV H1 (n2).toNat 86) (f35 : n16 ≤ 16) (f36 : 0 ≤ n16) (f37 : n16 = hV H1 (n15).toNat (n0).toNat) (f38 : n17 = w32 (n14 + n16)) (f39 : n18 = 347) (f40 : n18 = hV H1 (n2).toNat 86) (f41 : n19 ≤ 16) (f42 : 0 ≤ n19) (f43 : n19 = hV H1 (n18).toNat (n0).toNat) (f44 : n20 = 1) (f45 : n21 = w32 (n19 + n20)) : 0 ≤ n17 ∧ n17 < 1008 := by
  have g4 := f8.2.1.1
  unfold Ab_270_34 at g4
  have g3 := f8.2.1.2
  unfold preb_270 at g3
  have e0 : n6 = hV H1 347 (n0).toNat := (by rw [f10] at f14; exact f14 : n6 = hV H1 347 (n0).toNat)
  have e1 : n9 = hV H1 346 (n0).toNat := (by rw [f17] at f21; exact f21 : n9 = hV H1 346 (n0).toNat)
  have e2 : hV H1 296 = hV H0 296 := fRow f8.1.2.1 296 (by decide +kernel)
  have e3 : n10 = hV H0 296 (n9).toNat := (by rw [f15] at f24; exact f24 : n10 = hV H1 296 (n9).toNat).trans ((congrFun e2 _))
  have e4 : n13 = hV H1 346 (n0).toNat := (by rw [f27] at f31; exact f31 : n13 = hV H1 346 (n0).toNat)
  have e5 : n16 = hV H1 347 (n0).toNat := (by rw [f33] at f37; exact f37 : n16 = hV H1 347 (n0).toNat)
  have e6 : n19 = hV H1 347 (n0).toNat := (by rw [f39] at f43; exact f43 : n19 = hV H1 347 (n0).toNat)
  have e7 : hV H1 285 18 = hV H0 285 18 := f8.1.2.1.1 285 18 (by decide +kernel)
  have e8 : hV H1 285 18 = hV H0 285 18 := e7
  have e9 : hV H1 294 = hV H0 294 := fRow f8.1.2.1 294 (by decide +kernel)
  have e10 : hV H1 298 = hV H0 298 := fRow f8.1.2.1 298 (by decide +kernel)
  have e11 : hV H1 300 = hV H0 300 := fRow f8.1.2.1 300 (by decide +kernel)
  have e12 : (0 : Int) ≤ hV H1 285 18 ∧ hV H1 285 18 ≤ 8 := f8.1.2.2 285 18 _ _ (by decide +kernel)
  have e13 : (0 : Int) ≤ hV H1 285 82 ∧ hV H1 285 82 ≤ 40 := f8.1.2.2 285 82 _ _ (by decide +kernel)
  try simp only [e8, e9, e2, e10, e11] at f8
  try simp only [e8, e9, e2, e10, e11] at e12
  try simp only [e8, e9, e2, e10, e11] at e13
  try simp only [e8, e9, e2, e10, e11] at g3
  try simp only [e8, e9, e2, e10, e11] at g4
  try simp only [e8, e9, e2, e10, e11]
  have k0 := g4.1
  have y0 := g4.2.1
  have y1 := g4.2.2.1
  have y2 := g4.2.2.2
  have p0 := g3.1
  have p1 := g3.2
  try simp only [e8, e9, e2, e10, e11] at k0
  try simp only [e8, e9, e2, e10, e11] at y0
  try simp only [e8, e9, e2, e10, e11] at y1
  try simp only [e8, e9, e2, e10, e11] at y2
  try simp only [e8, e9, e2, e10, e11] at p0
  try simp only [e8, e9, e2, e10, e11] at p1
  clear g3
  clear g4
  clear f11 f14 f16 f18 f21 f24 f28 f31 f34 f37 f40 f43 e2 e7 e8 e9 e10 e11
  subst e0
  subst e1
  subst e3
  subst e4
  subst e5
  subst e6
  rw [f26] at f32
  unfold w32 at *
  try have ca := cue_at (p1 (n3).toNat (by omega)) y0 (by omega) (by omega) (c := (16 * hV H1 346 (n0).toNat + hV H1 347 (n0).toNat)) (by omega)
  try have sh := y1 (n0).toNat (by omega)
  try have lv := y0 (n0).toNat (by omega)
  try (have ix0 : n14 = 16 * (hV H1 346 (n0).toNat) := (by omega); subst ix0)
  try (have ix1 : n17 = (16 * (hV H1 346 (n0).toNat)) + hV H1 347 (n0).toNat := (by omega); subst ix1)

  first
  | omega
  | (have ca := cue_at (p1 (n3).toNat (by omega)) y0 (by omega) (by omega) (c := (16 * hV H1 346 (n0).toNat + hV H1 347 (n0).toNat)) (by omega)
     omega)
  | (have ua := use_at (p1 (n3).toNat (by omega)) y0 (by omega) (by omega) (c := (16 * hV H1 346 (n0).toNat + hV H1 347 (n0).toNat)) (by omega) (by omega)
     omega)
  | (have ul := ULp_lay y2 (p1 (n3).toNat (by omega)) y0 (by omega) (by omega) (by omega) (c := (16 * hV H1 346 (n0).toNat + hV H1 347 (n0).toNat)) (by omega) (by omega)
     omega)
theorem c_270_34_3 {q0 : Nat} : vOkm T0 (eP e_270 L_270 A_270 mu_270 (some q0)) 2 ([(1, [21, 19, 20], [], 0), (0, [20], [], 1), (22, [19, 18, 4], [1], 0), (90, [19], [], 0), (91, [19], [], 16), (20, [18, 2], [1], 86), (0, [18], [], 347), (1, [17, 14, 16], [], 0), (22, [16, 15, 4], [1], 0), (90, [16], [], 0), (91, [16], [], 16), (20, [15, 2], [1], 86), (0, [15], [], 347), (3, [14, 11, 13], [], 0), (22, [13, 12, 4], [1], 0), (90, [13], [], 0), (91, [13], [], 62), (20, [12, 2], [1], 85), (0, [12], [], 346), (0, [11], [], 16), (41, [6, 10], [], 0), (22, [10, 7, 9], [1], 0), (90, [10], [], 0), (91, [10], [], 16), (22, [9, 8, 4], [1], 0), (90, [9], [], 0), (91, [9], [], 62), (20, [8, 2], [1], 85), (0, [8], [], 346), (20, [7, 2], [1], 22), (0, [7], [], 296), (22, [6, 5, 4], [1], 0), (90, [6], [], 0), (91, [6], [], 16), (20, [5, 2], [1], 86), (0, [5], [], 347), (33, [4], [], 0), (5000, [0, 1, 2, 3, 4], [0, 1], 34), (0, [0], [], 285), (90, [1], [], 0), (91, [1], [], 7), (0, [2], [], 285), (90, [3], [], 0), (91, [3], [], 7), (90, [4], [], -1), (91, [4], [], 6)], (70, [17], [], 1008)) := vOk_in fun ρ η h => by
  obtain ⟨f0, f1, f2, f3, f4, f5, f6, f7, f8, f9, f10, f11, f12, f13, f14, f15, f16, f17, f18, f19, f20, f21, f22, f23, f24, f25, f26, f27, f28, f29, f30, f31, f32, f33, f34, f35, f36, f37, f38, f39, f40, f41, f42, f43, f44, f45, _⟩ := h
  exact q_270_6 (q0 := q0) (n0 := ρ 4) (n1 := ρ 3) (n2 := ρ 2) (n3 := ρ 1) (n4 := ρ 0) (n5 := ρ 5) (n6 := ρ 6) (n7 := ρ 7) (n8 := ρ 8) (n9 := ρ 9) (n10 := ρ 10) (n11 := ρ 11) (n12 := ρ 12) (n13 := ρ 13) (n14 := ρ 14) (n15 := ρ 15) (n16 := ρ 16) (n17 := ρ 17) (n18 := ρ 18) (n19 := ρ 19) (n20 := ρ 20) (n21 := ρ 21) (H0 := η 0) (H1 := η 1) f45 f44 f43 f42 f41 f40 f39 f38 f37 f36 f35 f34 f33 f32 f31 f30 f29 f28 f27 f26 f25 f24 f23 f22 f21 f20 f19 f18 f17 f16 f15 f14 f13 f12 f11 f10 f9 f8 f7 f6 f5 f4 f3 f2 f1 f0
theorem q_270_7 {q0 : Nat} {n0 n1 n2 n3 n4 n5 n6 n7 n8 n9 n10 n11 n12 n13 n14 n15 n16 n17 n18 n19 n20 n21 n22 n23 n24 n25 n26 : Int} {H0 H1 H2 : gH} (f0 : n0 ≤ 6) (f1 : (-1) ≤ n0) (f2 : n1 ≤ 7) (f3 : 0 ≤ n1) (f4 : n2 = 285) (f5 : n3 ≤ 7) (f6 : 0 ≤ n3) (f7 : n4 = 285) (f8 : (hLe T0 H0 H1 ∧ hFr s_270.2.2.2.2 H0 H1 ∧ hWt T0 H1) ∧ (Ab_270_34 n4 n3 n2 n1 n0 H0 H1 ∧ preb_270 n4 n3 H0) ∧ some q0 = some (mub_270_34 n4 n3 n2 n1 n0 H0 H1)) (f9 : 0 ≤ n0) (f10 : n5 = 347) (f11 : n5 = hV H1 (n2).toNat 86) (f12 : n6 ≤ 16) (f13 : 0 ≤ n6) (f14 : n6 = hV H1 (n5).toNat (n0).toNat) (f15 : n7 = 296) (f16 : n7 = hV H1 (n2).toNat 22) (f17 : n8 = 346) (f18 : n8 = hV H1 (n2).toNat 85) (f19 : n9 ≤ 62) (f20 : 0 ≤ n9) (f21 : n9 = hV H1 (n8).toNat (n0).toNat) (f22 : n10 ≤ 16) (f23 : 0 ≤ n10) (f24 : n10 = hV H1 (n7).toNat (n9).toNat) (f25 : n6 ≠ n10) (f26 : n11 = 16) (f27 : n12 = 346) (f28 : n12 = hV H1 (n2).toNat 85) (f29 : n13 ≤ 62) (f30 : 0 ≤ n13) (f31 : n13 = hV H1 (n12).toNat (n0).toNat) (f32 : n14 = w32 (n11 * n13)) (f33 : n15 = 347) (f34 : n15 = hV H1 (n2).toNat 86) (f35 : n16 ≤ 16) (f36 : 0 ≤ n16) (f37 : n16 = hV H1 (n15).toNat (n0).toNat) (f38 : n17 = w32 (n14 + n16)) (f39 : n18 = 347) (f40 : n18 = hV H1 (n2).toNat 86) (f41 : n19 ≤ 16) (f42 : 0 ≤ n19) (f43 : n19 = hV H1 (n18).toNat (n0).toNat) (f44 : n20 = 1) (f45 : n21 = w32 (n19 + n20)) (f46 : hUpd H2 H1 n18 n0 n21) (f47 : n22 = 298) (f48 : n22 = hV H2 (n2).toNat 24) (f49 : n23 ≤ 5) (f50 : 0 ≤ n23) (f51 : n23 = hV H2 (n22).toNat (n17).toNat) (f52 : n24 = 5) (f53 : n23 = n24) (f54 : n25 = 1) (f55 : n26 = w32 (n0 + n25)) : 0 ≤ n17 ∧ n17 < 1008 := by
  have g4 := f8.2.1.1
  unfold Ab_270_34 at g4
  have g3 := f8.2.1.2
  unfold preb_270 at g3
  have e0 : n6 = hV H1 347 (n0).toNat := (by rw [f10] at f14; exact f14 : n6 = hV H1 347 (n0).toNat)
  have e1 : n9 = hV H1 346 (n0).toNat := (by rw [f17] at f21; exact f21 : n9 = hV H1 346 (n0).toNat)
  have e2 : hV H1 296 = hV H0 296 := fRow f8.1.2.1 296 (by decide +kernel)
  have e3 : n10 = hV H0 296 (n9).toNat := (by rw [f15] at f24; exact f24 : n10 = hV H1 296 (n9).toNat).trans ((congrFun e2 _))
  have e4 : n13 = hV H1 346 (n0).toNat := (by rw [f27] at f31; exact f31 : n13 = hV H1 346 (n0).toNat)
  have e5 : n16 = hV H1 347 (n0).toNat := (by rw [f33] at f37; exact f37 : n16 = hV H1 347 (n0).toNat)
  have e6 : n19 = hV H1 347 (n0).toNat := (by rw [f39] at f43; exact f43 : n19 = hV H1 347 (n0).toNat)
  have e7 : hV H2 298 = hV H1 298 := uRowNe f46 _ (iS (show n18 = ((347 : Nat) : Int) from f39) rfl)
  have e8 : hV H1 298 = hV H0 298 := fRow f8.1.2.1 298 (by decide +kernel)
  have e9 : n23 = hV H0 298 (n17).toNat := (by rw [f47] at f51; exact f51 : n23 = hV H2 298 (n17).toNat).trans (((congrFun e7 _)).trans ((congrFun e8 _)))
  have e10 : hV H1 285 18 = hV H0 285 18 := f8.1.2.1.1 285 18 (by decide +kernel)
  have e11 : hV H1 285 18 = hV H0 285 18 := e10
  have e12 : hV H1 294 = hV H0 294 := fRow f8.1.2.1 294 (by decide +kernel)
  have e13 : hV H1 300 = hV H0 300 := fRow f8.1.2.1 300 (by decide +kernel)
  have e14 : (0 : Int) ≤ hV H1 285 18 ∧ hV H1 285 18 ≤ 8 := f8.1.2.2 285 18 _ _ (by decide +kernel)
  have e15 : (0 : Int) ≤ hV H1 285 82 ∧ hV H1 285 82 ≤ 40 := f8.1.2.2 285 82 _ _ (by decide +kernel)
  try simp only [e11, e12, e2, e8, e13] at f8
  try simp only [e11, e12, e2, e8, e13] at e14
  try simp only [e11, e12, e2, e8, e13] at e15
  try simp only [e11, e12, e2, e8, e13] at g3
  try simp only [e11, e12, e2, e8, e13] at g4
  try simp only [e11, e12, e2, e8, e13]
  have k0 := g4.1
  have y0 := g4.2.1
  have y1 := g4.2.2.1
  have y2 := g4.2.2.2
  have p0 := g3.1
  have p1 := g3.2
  try simp only [e11, e12, e2, e8, e13] at k0
  try simp only [e11, e12, e2, e8, e13] at y0
  try simp only [e11, e12, e2, e8, e13] at y1
  try simp only [e11, e12, e2, e8, e13] at y2
  try simp only [e11, e12, e2, e8, e13] at p0
  try simp only [e11, e12, e2, e8, e13] at p1
  clear g3
  clear g4
  clear f11 f14 f16 f18 f21 f24 f28 f31 f34 f37 f40 f43 f48 f51 e2 e7 e8 e10 e11 e12 e13
  subst e0
  subst e1
  subst e3
  subst e4
  subst e5
  subst e6
  subst e9
  rw [f26] at f32
  unfold w32 at *
  try have ca := cue_at (p1 (n3).toNat (by omega)) y0 (by omega) (by omega) (c := (16 * hV H1 346 (n0).toNat + hV H1 347 (n0).toNat)) (by omega)
  try have sh := y1 (n0).toNat (by omega)
  try have lv := y0 (n0).toNat (by omega)
  try (have ix0 : n14 = 16 * (hV H1 346 (n0).toNat) := (by omega); subst ix0)
  try (have ix1 : n17 = (16 * (hV H1 346 (n0).toNat)) + hV H1 347 (n0).toNat := (by omega); subst ix1)
  try (have ix2 : n21 = hV H1 347 (n0).toNat + 1 := (by omega); subst ix2)

  first
  | omega
  | (have ca := cue_at (p1 (n3).toNat (by omega)) y0 (by omega) (by omega) (c := (16 * hV H1 346 (n0).toNat + hV H1 347 (n0).toNat)) (by omega)
     omega)
  | (have ua := use_at (p1 (n3).toNat (by omega)) y0 (by omega) (by omega) (c := (16 * hV H1 346 (n0).toNat + hV H1 347 (n0).toNat)) (by omega) (by omega)
     omega)
  | (have ul := ULp_lay y2 (p1 (n3).toNat (by omega)) y0 (by omega) (by omega) (by omega) (c := (16 * hV H1 346 (n0).toNat + hV H1 347 (n0).toNat)) (by omega) (by omega)
     omega)
theorem c_270_34_4 {q0 : Nat} : vOkm T0 (eP e_270 L_270 A_270 mu_270 (some q0)) 2 ([(1, [27, 4, 26], [], 0), (0, [26], [], 1), (40, [23, 24], [], 0), (0, [24], [], 5), (22, [23, 22, 17], [2], 0), (90, [23], [], 0), (91, [23], [], 5), (20, [22, 2], [2], 24), (0, [22], [], 298), (80, [18, 4, 21], [2, 1], 0), (1, [21, 19, 20], [], 0), (0, [20], [], 1), (22, [19, 18, 4], [1], 0), (90, [19], [], 0), (91, [19], [], 16), (20, [18, 2], [1], 86), (0, [18], [], 347), (1, [17, 14, 16], [], 0), (22, [16, 15, 4], [1], 0), (90, [16], [], 0), (91, [16], [], 16), (20, [15, 2], [1], 86), (0, [15], [], 347), (3, [14, 11, 13], [], 0), (22, [13, 12, 4], [1], 0), (90, [13], [], 0), (91, [13], [], 62), (20, [12, 2], [1], 85), (0, [12], [], 346), (0, [11], [], 16), (41, [6, 10], [], 0), (22, [10, 7, 9], [1], 0), (90, [10], [], 0), (91, [10], [], 16), (22, [9, 8, 4], [1], 0), (90, [9], [], 0), (91, [9], [], 62), (20, [8, 2], [1], 85), (0, [8], [], 346), (20, [7, 2], [1], 22), (0, [7], [], 296), (22, [6, 5, 4], [1], 0), (90, [6], [], 0), (91, [6], [], 16), (20, [5, 2], [1], 86), (0, [5], [], 347), (33, [4], [], 0), (5000, [0, 1, 2, 3, 4], [0, 1], 34), (0, [0], [], 285), (90, [1], [], 0), (91, [1], [], 7), (0, [2], [], 285), (90, [3], [], 0), (91, [3], [], 7), (90, [4], [], -1), (91, [4], [], 6)], (70, [17], [], 1008)) := vOk_in fun ρ η h => by
  obtain ⟨f0, f1, f2, f3, f4, f5, f6, f7, f8, f9, f10, f11, f12, f13, f14, f15, f16, f17, f18, f19, f20, f21, f22, f23, f24, f25, f26, f27, f28, f29, f30, f31, f32, f33, f34, f35, f36, f37, f38, f39, f40, f41, f42, f43, f44, f45, f46, f47, f48, f49, f50, f51, f52, f53, f54, f55, _⟩ := h
  exact q_270_7 (q0 := q0) (n0 := ρ 4) (n1 := ρ 3) (n2 := ρ 2) (n3 := ρ 1) (n4 := ρ 0) (n5 := ρ 5) (n6 := ρ 6) (n7 := ρ 7) (n8 := ρ 8) (n9 := ρ 9) (n10 := ρ 10) (n11 := ρ 11) (n12 := ρ 12) (n13 := ρ 13) (n14 := ρ 14) (n15 := ρ 15) (n16 := ρ 16) (n17 := ρ 17) (n18 := ρ 18) (n19 := ρ 19) (n20 := ρ 20) (n21 := ρ 21) (n22 := ρ 22) (n23 := ρ 23) (n24 := ρ 24) (n25 := ρ 26) (n26 := ρ 27) (H0 := η 0) (H1 := η 1) (H2 := η 2) f55 f54 f53 f52 f51 f50 f49 f48 f47 f46 f45 f44 f43 f42 f41 f40 f39 f38 f37 f36 f35 f34 f33 f32 f31 f30 f29 f28 f27 f26 f25 f24 f23 f22 f21 f20 f19 f18 f17 f16 f15 f14 f13 f12 f11 f10 f9 f8 f7 f6 f5 f4 f3 f2 f1 f0
theorem q_270_8 {q0 : Nat} {n0 n1 n2 n3 n4 n5 n6 n7 n8 n9 n10 n11 n12 n13 n14 n15 n16 n17 n18 n19 n20 n21 n22 n23 n24 n25 n26 n27 n28 : Int} {H0 H1 H2 : gH} (f0 : n0 ≤ 6) (f1 : (-1) ≤ n0) (f2 : n1 ≤ 7) (f3 : 0 ≤ n1) (f4 : n2 = 285) (f5 : n3 ≤ 7) (f6 : 0 ≤ n3) (f7 : n4 = 285) (f8 : (hLe T0 H0 H1 ∧ hFr s_270.2.2.2.2 H0 H1 ∧ hWt T0 H1) ∧ (Ab_270_34 n4 n3 n2 n1 n0 H0 H1 ∧ preb_270 n4 n3 H0) ∧ some q0 = some (mub_270_34 n4 n3 n2 n1 n0 H0 H1)) (f9 : 0 ≤ n0) (f10 : n5 = 347) (f11 : n5 = hV H1 (n2).toNat 86) (f12 : n6 ≤ 16) (f13 : 0 ≤ n6) (f14 : n6 = hV H1 (n5).toNat (n0).toNat) (f15 : n7 = 296) (f16 : n7 = hV H1 (n2).toNat 22) (f17 : n8 = 346) (f18 : n8 = hV H1 (n2).toNat 85) (f19 : n9 ≤ 62) (f20 : 0 ≤ n9) (f21 : n9 = hV H1 (n8).toNat (n0).toNat) (f22 : n10 ≤ 16) (f23 : 0 ≤ n10) (f24 : n10 = hV H1 (n7).toNat (n9).toNat) (f25 : n6 ≠ n10) (f26 : n11 = 16) (f27 : n12 = 346) (f28 : n12 = hV H1 (n2).toNat 85) (f29 : n13 ≤ 62) (f30 : 0 ≤ n13) (f31 : n13 = hV H1 (n12).toNat (n0).toNat) (f32 : n14 = w32 (n11 * n13)) (f33 : n15 = 347) (f34 : n15 = hV H1 (n2).toNat 86) (f35 : n16 ≤ 16) (f36 : 0 ≤ n16) (f37 : n16 = hV H1 (n15).toNat (n0).toNat) (f38 : n17 = w32 (n14 + n16)) (f39 : n18 = 347) (f40 : n18 = hV H1 (n2).toNat 86) (f41 : n19 ≤ 16) (f42 : 0 ≤ n19) (f43 : n19 = hV H1 (n18).toNat (n0).toNat) (f44 : n20 = 1) (f45 : n21 = w32 (n19 + n20)) (f46 : hUpd H2 H1 n18 n0 n21) (f47 : n22 = 298) (f48 : n22 = hV H2 (n2).toNat 24) (f49 : n23 ≤ 5) (f50 : 0 ≤ n23) (f51 : n23 = hV H2 (n22).toNat (n17).toNat) (f52 : n24 = 5) (f53 : n23 = n24) (f54 : n25 = 1) (f55 : n26 = w32 (n0 + n25)) (f56 : n27 = 301) (f57 : n27 = hV H2 (n2).toNat 27) (f58 : n28 ≤ 9999) (f59 : (-1) ≤ n28) (f60 : n28 = hV H2 (n27).toNat (n17).toNat) : 0 ≤ n17 ∧ n17 < 1008 := by
  have g4 := f8.2.1.1
  unfold Ab_270_34 at g4
  have g3 := f8.2.1.2
  unfold preb_270 at g3
  have e0 : n6 = hV H1 347 (n0).toNat := (by rw [f10] at f14; exact f14 : n6 = hV H1 347 (n0).toNat)
  have e1 : n9 = hV H1 346 (n0).toNat := (by rw [f17] at f21; exact f21 : n9 = hV H1 346 (n0).toNat)
  have e2 : hV H1 296 = hV H0 296 := fRow f8.1.2.1 296 (by decide +kernel)
  have e3 : n10 = hV H0 296 (n9).toNat := (by rw [f15] at f24; exact f24 : n10 = hV H1 296 (n9).toNat).trans ((congrFun e2 _))
  have e4 : n13 = hV H1 346 (n0).toNat := (by rw [f27] at f31; exact f31 : n13 = hV H1 346 (n0).toNat)
  have e5 : n16 = hV H1 347 (n0).toNat := (by rw [f33] at f37; exact f37 : n16 = hV H1 347 (n0).toNat)
  have e6 : n19 = hV H1 347 (n0).toNat := (by rw [f39] at f43; exact f43 : n19 = hV H1 347 (n0).toNat)
  have e7 : hV H2 298 = hV H1 298 := uRowNe f46 _ (iS (show n18 = ((347 : Nat) : Int) from f39) rfl)
  have e8 : hV H1 298 = hV H0 298 := fRow f8.1.2.1 298 (by decide +kernel)
  have e9 : n23 = hV H0 298 (n17).toNat := (by rw [f47] at f51; exact f51 : n23 = hV H2 298 (n17).toNat).trans (((congrFun e7 _)).trans ((congrFun e8 _)))
  have e10 : hV H2 301 = hV H1 301 := uRowNe f46 _ (iS (show n18 = ((347 : Nat) : Int) from f39) rfl)
  have e11 : hV H1 301 = hV H0 301 := fRow f8.1.2.1 301 (by decide +kernel)
  have e12 : n28 = hV H0 301 (n17).toNat := (by rw [f56] at f60; exact f60 : n28 = hV H2 301 (n17).toNat).trans (((congrFun e10 _)).trans ((congrFun e11 _)))
  have e13 : hV H1 285 18 = hV H0 285 18 := f8.1.2.1.1 285 18 (by decide +kernel)
  have e14 : hV H1 285 18 = hV H0 285 18 := e13
  have e15 : hV H1 294 = hV H0 294 := fRow f8.1.2.1 294 (by decide +kernel)
  have e16 : hV H1 300 = hV H0 300 := fRow f8.1.2.1 300 (by decide +kernel)
  have e17 : (0 : Int) ≤ hV H1 285 18 ∧ hV H1 285 18 ≤ 8 := f8.1.2.2 285 18 _ _ (by decide +kernel)
  have e18 : (0 : Int) ≤ hV H1 285 82 ∧ hV H1 285 82 ≤ 40 := f8.1.2.2 285 82 _ _ (by decide +kernel)
  try simp only [e14, e15, e2, e8, e16] at f8
  try simp only [e14, e15, e2, e8, e16] at e17
  try simp only [e14, e15, e2, e8, e16] at e18
  try simp only [e14, e15, e2, e8, e16] at g3
  try simp only [e14, e15, e2, e8, e16] at g4
  try simp only [e14, e15, e2, e8, e16]
  have k0 := g4.1
  have y0 := g4.2.1
  have y1 := g4.2.2.1
  have y2 := g4.2.2.2
  have p0 := g3.1
  have p1 := g3.2
  try simp only [e14, e15, e2, e8, e16] at k0
  try simp only [e14, e15, e2, e8, e16] at y0
  try simp only [e14, e15, e2, e8, e16] at y1
  try simp only [e14, e15, e2, e8, e16] at y2
  try simp only [e14, e15, e2, e8, e16] at p0
  try simp only [e14, e15, e2, e8, e16] at p1
  clear g3
  clear g4
  clear f11 f14 f16 f18 f21 f24 f28 f31 f34 f37 f40 f43 f48 f51 f57 f60 e2 e7 e8 e10 e11 e13 e14 e15 e16
  subst e0
  subst e1
  subst e3
  subst e4
  subst e5
  subst e6
  subst e9
  subst e12
  rw [f26] at f32
  unfold w32 at *
  try have ca := cue_at (p1 (n3).toNat (by omega)) y0 (by omega) (by omega) (c := (16 * hV H1 346 (n0).toNat + hV H1 347 (n0).toNat)) (by omega)
  try have sh := y1 (n0).toNat (by omega)
  try have lv := y0 (n0).toNat (by omega)
  try (have ix0 : n14 = 16 * (hV H1 346 (n0).toNat) := (by omega); subst ix0)
  try (have ix1 : n17 = (16 * (hV H1 346 (n0).toNat)) + hV H1 347 (n0).toNat := (by omega); subst ix1)
  try (have ix2 : n21 = hV H1 347 (n0).toNat + 1 := (by omega); subst ix2)

  first
  | omega
  | (have ca := cue_at (p1 (n3).toNat (by omega)) y0 (by omega) (by omega) (c := (16 * hV H1 346 (n0).toNat + hV H1 347 (n0).toNat)) (by omega)
     omega)
  | (have ua := use_at (p1 (n3).toNat (by omega)) y0 (by omega) (by omega) (c := (16 * hV H1 346 (n0).toNat + hV H1 347 (n0).toNat)) (by omega) (by omega)
     omega)
  | (have ul := ULp_lay y2 (p1 (n3).toNat (by omega)) y0 (by omega) (by omega) (by omega) (c := (16 * hV H1 346 (n0).toNat + hV H1 347 (n0).toNat)) (by omega) (by omega)
     omega)
theorem c_270_34_5 {q0 : Nat} : vOkm T0 (eP e_270 L_270 A_270 mu_270 (some q0)) 2 ([(22, [29, 28, 17], [2], 0), (90, [29], [], -1), (91, [29], [], 9999), (20, [28, 2], [2], 27), (0, [28], [], 301), (1, [27, 4, 26], [], 0), (0, [26], [], 1), (40, [23, 24], [], 0), (0, [24], [], 5), (22, [23, 22, 17], [2], 0), (90, [23], [], 0), (91, [23], [], 5), (20, [22, 2], [2], 24), (0, [22], [], 298), (80, [18, 4, 21], [2, 1], 0), (1, [21, 19, 20], [], 0), (0, [20], [], 1), (22, [19, 18, 4], [1], 0), (90, [19], [], 0), (91, [19], [], 16), (20, [18, 2], [1], 86), (0, [18], [], 347), (1, [17, 14, 16], [], 0), (22, [16, 15, 4], [1], 0), (90, [16], [], 0), (91, [16], [], 16), (20, [15, 2], [1], 86), (0, [15], [], 347), (3, [14, 11, 13], [], 0), (22, [13, 12, 4], [1], 0), (90, [13], [], 0), (91, [13], [], 62), (20, [12, 2], [1], 85), (0, [12], [], 346), (0, [11], [], 16), (41, [6, 10], [], 0), (22, [10, 7, 9], [1], 0), (90, [10], [], 0), (91, [10], [], 16), (22, [9, 8, 4], [1], 0), (90, [9], [], 0), (91, [9], [], 62), (20, [8, 2], [1], 85), (0, [8], [], 346), (20, [7, 2], [1], 22), (0, [7], [], 296), (22, [6, 5, 4], [1], 0), (90, [6], [], 0), (91, [6], [], 16), (20, [5, 2], [1], 86), (0, [5], [], 347), (33, [4], [], 0), (5000, [0, 1, 2, 3, 4], [0, 1], 34), (0, [0], [], 285), (90, [1], [], 0), (91, [1], [], 7), (0, [2], [], 285), (90, [3], [], 0), (91, [3], [], 7), (90, [4], [], -1), (91, [4], [], 6)], (70, [17], [], 1008)) := vOk_in fun ρ η h => by
  obtain ⟨f0, f1, f2, f3, f4, f5, f6, f7, f8, f9, f10, f11, f12, f13, f14, f15, f16, f17, f18, f19, f20, f21, f22, f23, f24, f25, f26, f27, f28, f29, f30, f31, f32, f33, f34, f35, f36, f37, f38, f39, f40, f41, f42, f43, f44, f45, f46, f47, f48, f49, f50, f51, f52, f53, f54, f55, f56, f57, f58, f59, f60, _⟩ := h
  exact q_270_8 (q0 := q0) (n0 := ρ 4) (n1 := ρ 3) (n2 := ρ 2) (n3 := ρ 1) (n4 := ρ 0) (n5 := ρ 5) (n6 := ρ 6) (n7 := ρ 7) (n8 := ρ 8) (n9 := ρ 9) (n10 := ρ 10) (n11 := ρ 11) (n12 := ρ 12) (n13 := ρ 13) (n14 := ρ 14) (n15 := ρ 15) (n16 := ρ 16) (n17 := ρ 17) (n18 := ρ 18) (n19 := ρ 19) (n20 := ρ 20) (n21 := ρ 21) (n22 := ρ 22) (n23 := ρ 23) (n24 := ρ 24) (n25 := ρ 26) (n26 := ρ 27) (n27 := ρ 28) (n28 := ρ 29) (H0 := η 0) (H1 := η 1) (H2 := η 2) f60 f59 f58 f57 f56 f55 f54 f53 f52 f51 f50 f49 f48 f47 f46 f45 f44 f43 f42 f41 f40 f39 f38 f37 f36 f35 f34 f33 f32 f31 f30 f29 f28 f27 f26 f25 f24 f23 f22 f21 f20 f19 f18 f17 f16 f15 f14 f13 f12 f11 f10 f9 f8 f7 f6 f5 f4 f3 f2 f1 f0
theorem q_270_9 {q0 : Nat} {n0 n1 n2 n3 n4 n5 n6 n7 n8 n9 n10 n11 n12 n13 n14 n15 n16 n17 n18 n19 n20 n21 n22 n23 n24 n25 n26 n27 n28 n29 n30 n31 n32 n33 : Int} {H0 H1 H2 : gH} (f0 : n0 ≤ 6) (f1 : (-1) ≤ n0) (f2 : n1 ≤ 7) (f3 : 0 ≤ n1) (f4 : n2 = 285) (f5 : n3 ≤ 7) (f6 : 0 ≤ n3) (f7 : n4 = 285) (f8 : (hLe T0 H0 H1 ∧ hFr s_270.2.2.2.2 H0 H1 ∧ hWt T0 H1) ∧ (Ab_270_34 n4 n3 n2 n1 n0 H0 H1 ∧ preb_270 n4 n3 H0) ∧ some q0 = some (mub_270_34 n4 n3 n2 n1 n0 H0 H1)) (f9 : 0 ≤ n0) (f10 : n5 = 347) (f11 : n5 = hV H1 (n2).toNat 86) (f12 : n6 ≤ 16) (f13 : 0 ≤ n6) (f14 : n6 = hV H1 (n5).toNat (n0).toNat) (f15 : n7 = 296) (f16 : n7 = hV H1 (n2).toNat 22) (f17 : n8 = 346) (f18 : n8 = hV H1 (n2).toNat 85) (f19 : n9 ≤ 62) (f20 : 0 ≤ n9) (f21 : n9 = hV H1 (n8).toNat (n0).toNat) (f22 : n10 ≤ 16) (f23 : 0 ≤ n10) (f24 : n10 = hV H1 (n7).toNat (n9).toNat) (f25 : n6 ≠ n10) (f26 : n11 = 16) (f27 : n12 = 346) (f28 : n12 = hV H1 (n2).toNat 85) (f29 : n13 ≤ 62) (f30 : 0 ≤ n13) (f31 : n13 = hV H1 (n12).toNat (n0).toNat) (f32 : n14 = w32 (n11 * n13)) (f33 : n15 = 347) (f34 : n15 = hV H1 (n2).toNat 86) (f35 : n16 ≤ 16) (f36 : 0 ≤ n16) (f37 : n16 = hV H1 (n15).toNat (n0).toNat) (f38 : n17 = w32 (n14 + n16)) (f39 : n18 = 347) (f40 : n18 = hV H1 (n2).toNat 86) (f41 : n19 ≤ 16) (f42 : 0 ≤ n19) (f43 : n19 = hV H1 (n18).toNat (n0).toNat) (f44 : n20 = 1) (f45 : n21 = w32 (n19 + n20)) (f46 : hUpd H2 H1 n18 n0 n21) (f47 : n22 = 298) (f48 : n22 = hV H2 (n2).toNat 24) (f49 : n23 ≤ 5) (f50 : 0 ≤ n23) (f51 : n23 = hV H2 (n22).toNat (n17).toNat) (f52 : n24 = 5) (f53 : n23 = n24) (f54 : n25 = 348) (f55 : n25 = hV H2 (n2).toNat 87) (f56 : n26 = 1) (f57 : n27 = w32 (n0 + n26)) (f58 : n28 = 301) (f59 : n28 = hV H2 (n2).toNat 27) (f60 : n29 ≤ 9999) (f61 : (-1) ≤ n29) (f62 : n29 = hV H2 (n28).toNat (n17).toNat) (f63 : n30 = 302) (f64 : n30 = hV H2 (n2).toNat 28) (f65 : n31 ≤ 9999) (f66 : (-9999) ≤ n31) (f67 : n31 = hV H2 (n30).toNat (n17).toNat) (f68 : n32 = 348) (f69 : n32 = hV H2 (n2).toNat 87) (f70 : n33 ≤ 1000) (f71 : (-1000) ≤ n33) (f72 : n33 = hV H2 (n32).toNat (n0).toNat) : n29 ≤ 7 := by
  have g4 := f8.2.1.1
  unfold Ab_270_34 at g4
  have g3 := f8.2.1.2
  unfold preb_270 at g3
  have e0 : n6 = hV H1 347 (n0).toNat := (by rw [f10] at f14; exact f14 : n6 = hV H1 347 (n0).toNat)
  have e1 : n9 = hV H1 346 (n0).toNat := (by rw [f17] at f21; exact f21 : n9 = hV H1 346 (n0).toNat)
  have e2 : hV H1 296 = hV H0 296 := fRow f8.1.2.1 296 (by decide +kernel)
  have e3 : n10 = hV H0 296 (n9).toNat := (by rw [f15] at f24; exact f24 : n10 = hV H1 296 (n9).toNat).trans ((congrFun e2 _))
  have e4 : n13 = hV H1 346 (n0).toNat := (by rw [f27] at f31; exact f31 : n13 = hV H1 346 (n0).toNat)
  have e5 : n16 = hV H1 347 (n0).toNat := (by rw [f33] at f37; exact f37 : n16 = hV H1 347 (n0).toNat)
  have e6 : n19 = hV H1 347 (n0).toNat := (by rw [f39] at f43; exact f43 : n19 = hV H1 347 (n0).toNat)
  have e7 : hV H2 298 = hV H1 298 := uRowNe f46 _ (iS (show n18 = ((347 : Nat) : Int) from f39) rfl)
  have e8 : hV H1 298 = hV H0 298 := fRow f8.1.2.1 298 (by decide +kernel)
  have e9 : n23 = hV H0 298 (n17).toNat := (by rw [f47] at f51; exact f51 : n23 = hV H2 298 (n17).toNat).trans (((congrFun e7 _)).trans ((congrFun e8 _)))
  have e10 : hV H2 301 = hV H1 301 := uRowNe f46 _ (iS (show n18 = ((347 : Nat) : Int) from f39) rfl)
  have e11 : hV H1 301 = hV H0 301 := fRow f8.1.2.1 301 (by decide +kernel)
  have e12 : n29 = hV H0 301 (n17).toNat := (by rw [f58] at f62; exact f62 : n29 = hV H2 301 (n17).toNat).trans (((congrFun e10 _)).trans ((congrFun e11 _)))
  have e13 : hV H2 302 = hV H1 302 := uRowNe f46 _ (iS (show n18 = ((347 : Nat) : Int) from f39) rfl)
  have e14 : hV H1 302 = hV H0 302 := fRow f8.1.2.1 302 (by decide +kernel)
  have e15 : n31 = hV H0 302 (n17).toNat := (by rw [f63] at f67; exact f67 : n31 = hV H2 302 (n17).toNat).trans (((congrFun e13 _)).trans ((congrFun e14 _)))
  have e16 : hV H2 348 = hV H1 348 := uRowNe f46 _ (iS (show n18 = ((347 : Nat) : Int) from f39) rfl)
  have e17 : n33 = hV H1 348 (n0).toNat := (by rw [f68] at f72; exact f72 : n33 = hV H2 348 (n0).toNat).trans ((congrFun e16 _))
  have e18 : hV H1 285 18 = hV H0 285 18 := f8.1.2.1.1 285 18 (by decide +kernel)
  have e19 : hV H1 285 18 = hV H0 285 18 := e18
  have e20 : hV H1 294 = hV H0 294 := fRow f8.1.2.1 294 (by decide +kernel)
  have e21 : hV H1 300 = hV H0 300 := fRow f8.1.2.1 300 (by decide +kernel)
  have e22 : (0 : Int) ≤ hV H1 285 18 ∧ hV H1 285 18 ≤ 8 := f8.1.2.2 285 18 _ _ (by decide +kernel)
  have e23 : (0 : Int) ≤ hV H1 285 82 ∧ hV H1 285 82 ≤ 40 := f8.1.2.2 285 82 _ _ (by decide +kernel)
  try simp only [e19, e20, e2, e8, e21] at f8
  try simp only [e19, e20, e2, e8, e21] at e22
  try simp only [e19, e20, e2, e8, e21] at e23
  try simp only [e19, e20, e2, e8, e21] at g3
  try simp only [e19, e20, e2, e8, e21] at g4
  try simp only [e19, e20, e2, e8, e21]
  have k0 := g4.1
  have y0 := g4.2.1
  have y1 := g4.2.2.1
  have y2 := g4.2.2.2
  have p0 := g3.1
  have p1 := g3.2
  try simp only [e19, e20, e2, e8, e21] at k0
  try simp only [e19, e20, e2, e8, e21] at y0
  try simp only [e19, e20, e2, e8, e21] at y1
  try simp only [e19, e20, e2, e8, e21] at y2
  try simp only [e19, e20, e2, e8, e21] at p0
  try simp only [e19, e20, e2, e8, e21] at p1
  clear g3
  clear g4
  clear f11 f14 f16 f18 f21 f24 f28 f31 f34 f37 f40 f43 f48 f51 f55 f59 f62 f64 f67 f69 f72 e2 e7 e8 e10 e11 e13 e14 e16 e18 e19 e20 e21
  subst e0
  subst e1
  subst e3
  subst e4
  subst e5
  subst e6
  subst e9
  subst e12
  subst e15
  subst e17
  rw [f26] at f32
  unfold w32 at *
  try have ca := cue_at (p1 (n3).toNat (by omega)) y0 (by omega) (by omega) (c := (16 * hV H1 346 (n0).toNat + hV H1 347 (n0).toNat)) (by omega)
  try have sh := y1 (n0).toNat (by omega)
  try have lv := y0 (n0).toNat (by omega)
  try (have ix0 : n14 = 16 * (hV H1 346 (n0).toNat) := (by omega); subst ix0)
  try (have ix1 : n17 = (16 * (hV H1 346 (n0).toNat)) + hV H1 347 (n0).toNat := (by omega); subst ix1)
  try (have ix2 : n21 = hV H1 347 (n0).toNat + 1 := (by omega); subst ix2)

  first
  | omega
  | (have ca := cue_at (p1 (n3).toNat (by omega)) y0 (by omega) (by omega) (c := (16 * hV H1 346 (n0).toNat + hV H1 347 (n0).toNat)) (by omega)
     omega)
  | (have ua := use_at (p1 (n3).toNat (by omega)) y0 (by omega) (by omega) (c := (16 * hV H1 346 (n0).toNat + hV H1 347 (n0).toNat)) (by omega) (by omega)
     omega)
  | (have ul := ULp_lay y2 (p1 (n3).toNat (by omega)) y0 (by omega) (by omega) (by omega) (c := (16 * hV H1 346 (n0).toNat + hV H1 347 (n0).toNat)) (by omega) (by omega)
     omega)
theorem c_270_34_6 {q0 : Nat} : vOkm T0 (eP e_270 L_270 A_270 mu_270 (some q0)) 2 ([(22, [33, 32, 4], [2], 0), (90, [33], [], -1000), (91, [33], [], 1000), (20, [32, 2], [2], 87), (0, [32], [], 348), (22, [31, 30, 17], [2], 0), (90, [31], [], -9999), (91, [31], [], 9999), (20, [30, 2], [2], 28), (0, [30], [], 302), (22, [29, 28, 17], [2], 0), (90, [29], [], -1), (91, [29], [], 9999), (20, [28, 2], [2], 27), (0, [28], [], 301), (1, [27, 4, 26], [], 0), (0, [26], [], 1), (20, [25, 2], [2], 87), (0, [25], [], 348), (40, [23, 24], [], 0), (0, [24], [], 5), (22, [23, 22, 17], [2], 0), (90, [23], [], 0), (91, [23], [], 5), (20, [22, 2], [2], 24), (0, [22], [], 298), (80, [18, 4, 21], [2, 1], 0), (1, [21, 19, 20], [], 0), (0, [20], [], 1), (22, [19, 18, 4], [1], 0), (90, [19], [], 0), (91, [19], [], 16), (20, [18, 2], [1], 86), (0, [18], [], 347), (1, [17, 14, 16], [], 0), (22, [16, 15, 4], [1], 0), (90, [16], [], 0), (91, [16], [], 16), (20, [15, 2], [1], 86), (0, [15], [], 347), (3, [14, 11, 13], [], 0), (22, [13, 12, 4], [1], 0), (90, [13], [], 0), (91, [13], [], 62), (20, [12, 2], [1], 85), (0, [12], [], 346), (0, [11], [], 16), (41, [6, 10], [], 0), (22, [10, 7, 9], [1], 0), (90, [10], [], 0), (91, [10], [], 16), (22, [9, 8, 4], [1], 0), (90, [9], [], 0), (91, [9], [], 62), (20, [8, 2], [1], 85), (0, [8], [], 346), (20, [7, 2], [1], 22), (0, [7], [], 296), (22, [6, 5, 4], [1], 0), (90, [6], [], 0), (91, [6], [], 16), (20, [5, 2], [1], 86), (0, [5], [], 347), (33, [4], [], 0), (5000, [0, 1, 2, 3, 4], [0, 1], 34), (0, [0], [], 285), (90, [1], [], 0), (91, [1], [], 7), (0, [2], [], 285), (90, [3], [], 0), (91, [3], [], 7), (90, [4], [], -1), (91, [4], [], 6)], (91, [29], [], 7)) := vOk_in fun ρ η h => by
  obtain ⟨f0, f1, f2, f3, f4, f5, f6, f7, f8, f9, f10, f11, f12, f13, f14, f15, f16, f17, f18, f19, f20, f21, f22, f23, f24, f25, f26, f27, f28, f29, f30, f31, f32, f33, f34, f35, f36, f37, f38, f39, f40, f41, f42, f43, f44, f45, f46, f47, f48, f49, f50, f51, f52, f53, f54, f55, f56, f57, f58, f59, f60, f61, f62, f63, f64, f65, f66, f67, f68, f69, f70, f71, f72, _⟩ := h
  exact q_270_9 (q0 := q0) (n0 := ρ 4) (n1 := ρ 3) (n2 := ρ 2) (n3 := ρ 1) (n4 := ρ 0) (n5 := ρ 5) (n6 := ρ 6) (n7 := ρ 7) (n8 := ρ 8) (n9 := ρ 9) (n10 := ρ 10) (n11 := ρ 11) (n12 := ρ 12) (n13 := ρ 13) (n14 := ρ 14) (n15 := ρ 15) (n16 := ρ 16) (n17 := ρ 17) (n18 := ρ 18) (n19 := ρ 19) (n20 := ρ 20) (n21 := ρ 21) (n22 := ρ 22) (n23 := ρ 23) (n24 := ρ 24) (n25 := ρ 25) (n26 := ρ 26) (n27 := ρ 27) (n28 := ρ 28) (n29 := ρ 29) (n30 := ρ 30) (n31 := ρ 31) (n32 := ρ 32) (n33 := ρ 33) (H0 := η 0) (H1 := η 1) (H2 := η 2) f72 f71 f70 f69 f68 f67 f66 f65 f64 f63 f62 f61 f60 f59 f58 f57 f56 f55 f54 f53 f52 f51 f50 f49 f48 f47 f46 f45 f44 f43 f42 f41 f40 f39 f38 f37 f36 f35 f34 f33 f32 f31 f30 f29 f28 f27 f26 f25 f24 f23 f22 f21 f20 f19 f18 f17 f16 f15 f14 f13 f12 f11 f10 f9 f8 f7 f6 f5 f4 f3 f2 f1 f0
theorem q_270_10 {q0 : Nat} {n0 n1 n2 n3 n4 n5 n6 n7 n8 n9 n10 n11 n12 n13 n14 n15 n16 n17 n18 n19 n20 n21 n22 n23 n24 n25 n26 n27 n28 n29 n30 n31 n32 n33 n34 : Int} {H0 H1 H2 H3 : gH} (f0 : n0 ≤ 6) (f1 : (-1) ≤ n0) (f2 : n1 ≤ 7) (f3 : 0 ≤ n1) (f4 : n2 = 285) (f5 : n3 ≤ 7) (f6 : 0 ≤ n3) (f7 : n4 = 285) (f8 : (hLe T0 H0 H1 ∧ hFr s_270.2.2.2.2 H0 H1 ∧ hWt T0 H1) ∧ (Ab_270_34 n4 n3 n2 n1 n0 H0 H1 ∧ preb_270 n4 n3 H0) ∧ some q0 = some (mub_270_34 n4 n3 n2 n1 n0 H0 H1)) (f9 : 0 ≤ n0) (f10 : n5 = 347) (f11 : n5 = hV H1 (n2).toNat 86) (f12 : n6 ≤ 16) (f13 : 0 ≤ n6) (f14 : n6 = hV H1 (n5).toNat (n0).toNat) (f15 : n7 = 296) (f16 : n7 = hV H1 (n2).toNat 22) (f17 : n8 = 346) (f18 : n8 = hV H1 (n2).toNat 85) (f19 : n9 ≤ 62) (f20 : 0 ≤ n9) (f21 : n9 = hV H1 (n8).toNat (n0).toNat) (f22 : n10 ≤ 16) (f23 : 0 ≤ n10) (f24 : n10 = hV H1 (n7).toNat (n9).toNat) (f25 : n6 ≠ n10) (f26 : n11 = 16) (f27 : n12 = 346) (f28 : n12 = hV H1 (n2).toNat 85) (f29 : n13 ≤ 62) (f30 : 0 ≤ n13) (f31 : n13 = hV H1 (n12).toNat (n0).toNat) (f32 : n14 = w32 (n11 * n13)) (f33 : n15 = 347) (f34 : n15 = hV H1 (n2).toNat 86) (f35 : n16 ≤ 16) (f36 : 0 ≤ n16) (f37 : n16 = hV H1 (n15).toNat (n0).toNat) (f38 : n17 = w32 (n14 + n16)) (f39 : n18 = 347) (f40 : n18 = hV H1 (n2).toNat 86) (f41 : n19 ≤ 16) (f42 : 0 ≤ n19) (f43 : n19 = hV H1 (n18).toNat (n0).toNat) (f44 : n20 = 1) (f45 : n21 = w32 (n19 + n20)) (f46 : hUpd H2 H1 n18 n0 n21) (f47 : n22 = 298) (f48 : n22 = hV H2 (n2).toNat 24) (f49 : n23 ≤ 5) (f50 : 0 ≤ n23) (f51 : n23 = hV H2 (n22).toNat (n17).toNat) (f52 : n24 = 5) (f53 : n23 = n24) (f54 : n25 = 348) (f55 : n25 = hV H2 (n2).toNat 87) (f56 : n26 = 1) (f57 : n27 = w32 (n0 + n26)) (f58 : n28 = 301) (f59 : n28 = hV H2 (n2).toNat 27) (f60 : n29 ≤ 9999) (f61 : (-1) ≤ n29) (f62 : n29 = hV H2 (n28).toNat (n17).toNat) (f63 : n30 = 302) (f64 : n30 = hV H2 (n2).toNat 28) (f65 : n31 ≤ 9999) (f66 : (-9999) ≤ n31) (f67 : n31 = hV H2 (n30).toNat (n17).toNat) (f68 : n32 = 348) (f69 : n32 = hV H2 (n2).toNat 87) (f70 : n33 ≤ 1000) (f71 : (-1000) ≤ n33) (f72 : n33 = hV H2 (n32).toNat (n0).toNat) (f73 : n34 ≤ 10999) (f74 : (-10999) ≤ n34) (f75 : (hLe T0 H2 H3 ∧ hFr s_269.2.2.2.2 H2 H3 ∧ ((0 : Int) = 0 → H3.length = H2.length) ∧ hWt T0 H3) ∧ postb_269 n34 n2 n29 n31 n33 H2 H3) : 0 ≤ n27 ∧ n27 < 8 := by
  have g4 := f8.2.1.1
  unfold Ab_270_34 at g4
  have g3 := f8.2.1.2
  unfold preb_270 at g3
  unfold postb_269 at f75
  have e0 : n6 = hV H1 347 (n0).toNat := (by rw [f10] at f14; exact f14 : n6 = hV H1 347 (n0).toNat)
  have e1 : n9 = hV H1 346 (n0).toNat := (by rw [f17] at f21; exact f21 : n9 = hV H1 346 (n0).toNat)
  have e2 : hV H1 296 = hV H0 296 := fRow f8.1.2.1 296 (by decide +kernel)
  have e3 : n10 = hV H0 296 (n9).toNat := (by rw [f15] at f24; exact f24 : n10 = hV H1 296 (n9).toNat).trans ((congrFun e2 _))
  have e4 : n13 = hV H1 346 (n0).toNat := (by rw [f27] at f31; exact f31 : n13 = hV H1 346 (n0).toNat)
  have e5 : n16 = hV H1 347 (n0).toNat := (by rw [f33] at f37; exact f37 : n16 = hV H1 347 (n0).toNat)
  have e6 : n19 = hV H1 347 (n0).toNat := (by rw [f39] at f43; exact f43 : n19 = hV H1 347 (n0).toNat)
  have e7 : hV H2 298 = hV H1 298 := uRowNe f46 _ (iS (show n18 = ((347 : Nat) : Int) from f39) rfl)
  have e8 : hV H1 298 = hV H0 298 := fRow f8.1.2.1 298 (by decide +kernel)
  have e9 : n23 = hV H0 298 (n17).toNat := (by rw [f47] at f51; exact f51 : n23 = hV H2 298 (n17).toNat).trans (((congrFun e7 _)).trans ((congrFun e8 _)))
  have e10 : hV H2 301 = hV H1 301 := uRowNe f46 _ (iS (show n18 = ((347 : Nat) : Int) from f39) rfl)
  have e11 : hV H1 301 = hV H0 301 := fRow f8.1.2.1 301 (by decide +kernel)
  have e12 : n29 = hV H0 301 (n17).toNat := (by rw [f58] at f62; exact f62 : n29 = hV H2 301 (n17).toNat).trans (((congrFun e10 _)).trans ((congrFun e11 _)))
  have e13 : hV H2 302 = hV H1 302 := uRowNe f46 _ (iS (show n18 = ((347 : Nat) : Int) from f39) rfl)
  have e14 : hV H1 302 = hV H0 302 := fRow f8.1.2.1 302 (by decide +kernel)
  have e15 : n31 = hV H0 302 (n17).toNat := (by rw [f63] at f67; exact f67 : n31 = hV H2 302 (n17).toNat).trans (((congrFun e13 _)).trans ((congrFun e14 _)))
  have e16 : hV H2 348 = hV H1 348 := uRowNe f46 _ (iS (show n18 = ((347 : Nat) : Int) from f39) rfl)
  have e17 : n33 = hV H1 348 (n0).toNat := (by rw [f68] at f72; exact f72 : n33 = hV H2 348 (n0).toNat).trans ((congrFun e16 _))
  have e18 : hV H1 285 18 = hV H0 285 18 := f8.1.2.1.1 285 18 (by decide +kernel)
  have e19 : hV H1 285 18 = hV H0 285 18 := e18
  have e20 : hV H1 294 = hV H0 294 := fRow f8.1.2.1 294 (by decide +kernel)
  have e21 : hV H1 300 = hV H0 300 := fRow f8.1.2.1 300 (by decide +kernel)
  have e22 : (0 : Int) ≤ hV H1 285 18 ∧ hV H1 285 18 ≤ 8 := f8.1.2.2 285 18 _ _ (by decide +kernel)
  have e23 : (0 : Int) ≤ hV H1 285 82 ∧ hV H1 285 82 ≤ 40 := f8.1.2.2 285 82 _ _ (by decide +kernel)
  try simp only [e19, e20, e2, e8, e21] at f8
  try simp only [e19, e20, e2, e8, e21] at f75
  try simp only [e19, e20, e2, e8, e21] at e22
  try simp only [e19, e20, e2, e8, e21] at e23
  try simp only [e19, e20, e2, e8, e21] at g3
  try simp only [e19, e20, e2, e8, e21] at g4
  try simp only [e19, e20, e2, e8, e21]
  have k0 := g4.1
  have y0 := g4.2.1
  have y1 := g4.2.2.1
  have y2 := g4.2.2.2
  have p0 := g3.1
  have p1 := g3.2
  have r0_0 := f75.2
  try simp only [e19, e20, e2, e8, e21] at k0
  try simp only [e19, e20, e2, e8, e21] at y0
  try simp only [e19, e20, e2, e8, e21] at y1
  try simp only [e19, e20, e2, e8, e21] at y2
  try simp only [e19, e20, e2, e8, e21] at p0
  try simp only [e19, e20, e2, e8, e21] at p1
  try simp only [e19, e20, e2, e8, e21] at r0_0
  clear g3
  clear g4
  clear f11 f14 f16 f18 f21 f24 f28 f31 f34 f37 f40 f43 f48 f51 f55 f59 f62 f64 f67 f69 f72 e2 e7 e8 e10 e11 e13 e14 e16 e18 e19 e20 e21
  subst e0
  subst e1
  subst e3
  subst e4
  subst e5
  subst e6
  subst e9
  subst e12
  subst e15
  subst e17
  rw [f26] at f32
  unfold w32 at *
  try have ca := cue_at (p1 (n3).toNat (by omega)) y0 (by omega) (by omega) (c := (16 * hV H1 346 (n0).toNat + hV H1 347 (n0).toNat)) (by omega)
  try have sh := y1 (n0).toNat (by omega)
  try have lv := y0 (n0).toNat (by omega)
  try (have ix0 : n14 = 16 * (hV H1 346 (n0).toNat) := (by omega); subst ix0)
  try (have ix1 : n17 = (16 * (hV H1 346 (n0).toNat)) + hV H1 347 (n0).toNat := (by omega); subst ix1)
  try (have ix2 : n21 = hV H1 347 (n0).toNat + 1 := (by omega); subst ix2)
  try (have ix3 : n27 = n0 + 1 := (by omega); subst ix3)

  first
  | omega
  | (have ca := cue_at (p1 (n3).toNat (by omega)) y0 (by omega) (by omega) (c := (16 * hV H1 346 (n0).toNat + hV H1 347 (n0).toNat)) (by omega)
     omega)
  | (have ua := use_at (p1 (n3).toNat (by omega)) y0 (by omega) (by omega) (c := (16 * hV H1 346 (n0).toNat + hV H1 347 (n0).toNat)) (by omega) (by omega)
     omega)
  | (have ul := ULp_lay y2 (p1 (n3).toNat (by omega)) y0 (by omega) (by omega) (by omega) (c := (16 * hV H1 346 (n0).toNat + hV H1 347 (n0).toNat)) (by omega) (by omega)
     omega)
theorem c_270_34_7 {q0 : Nat} : vOkm T0 (eP e_270 L_270 A_270 mu_270 (some q0)) 2 ([(1269, [34, 2, 29, 31, 33], [2, 3], 0), (90, [34], [], -10999), (91, [34], [], 10999), (22, [33, 32, 4], [2], 0), (90, [33], [], -1000), (91, [33], [], 1000), (20, [32, 2], [2], 87), (0, [32], [], 348), (22, [31, 30, 17], [2], 0), (90, [31], [], -9999), (91, [31], [], 9999), (20, [30, 2], [2], 28), (0, [30], [], 302), (22, [29, 28, 17], [2], 0), (90, [29], [], -1), (91, [29], [], 9999), (20, [28, 2], [2], 27), (0, [28], [], 301), (1, [27, 4, 26], [], 0), (0, [26], [], 1), (20, [25, 2], [2], 87), (0, [25], [], 348), (40, [23, 24], [], 0), (0, [24], [], 5), (22, [23, 22, 17], [2], 0), (90, [23], [], 0), (91, [23], [], 5), (20, [22, 2], [2], 24), (0, [22], [], 298), (80, [18, 4, 21], [2, 1], 0), (1, [21, 19, 20], [], 0), (0, [20], [], 1), (22, [19, 18, 4], [1], 0), (90, [19], [], 0), (91, [19], [], 16), (20, [18, 2], [1], 86), (0, [18], [], 347), (1, [17, 14, 16], [], 0), (22, [16, 15, 4], [1], 0), (90, [16], [], 0), (91, [16], [], 16), (20, [15, 2], [1], 86), (0, [15], [], 347), (3, [14, 11, 13], [], 0), (22, [13, 12, 4], [1], 0), (90, [13], [], 0), (91, [13], [], 62), (20, [12, 2], [1], 85), (0, [12], [], 346), (0, [11], [], 16), (41, [6, 10], [], 0), (22, [10, 7, 9], [1], 0), (90, [10], [], 0), (91, [10], [], 16), (22, [9, 8, 4], [1], 0), (90, [9], [], 0), (91, [9], [], 62), (20, [8, 2], [1], 85), (0, [8], [], 346), (20, [7, 2], [1], 22), (0, [7], [], 296), (22, [6, 5, 4], [1], 0), (90, [6], [], 0), (91, [6], [], 16), (20, [5, 2], [1], 86), (0, [5], [], 347), (33, [4], [], 0), (5000, [0, 1, 2, 3, 4], [0, 1], 34), (0, [0], [], 285), (90, [1], [], 0), (91, [1], [], 7), (0, [2], [], 285), (90, [3], [], 0), (91, [3], [], 7), (90, [4], [], -1), (91, [4], [], 6)], (70, [27], [], 8)) := vOk_in fun ρ η h => by
  obtain ⟨f0, f1, f2, f3, f4, f5, f6, f7, f8, f9, f10, f11, f12, f13, f14, f15, f16, f17, f18, f19, f20, f21, f22, f23, f24, f25, f26, f27, f28, f29, f30, f31, f32, f33, f34, f35, f36, f37, f38, f39, f40, f41, f42, f43, f44, f45, f46, f47, f48, f49, f50, f51, f52, f53, f54, f55, f56, f57, f58, f59, f60, f61, f62, f63, f64, f65, f66, f67, f68, f69, f70, f71, f72, f73, f74, f75, _⟩ := h
  exact q_270_10 (q0 := q0) (n0 := ρ 4) (n1 := ρ 3) (n2 := ρ 2) (n3 := ρ 1) (n4 := ρ 0) (n5 := ρ 5) (n6 := ρ 6) (n7 := ρ 7) (n8 := ρ 8) (n9 := ρ 9) (n10 := ρ 10) (n11 := ρ 11) (n12 := ρ 12) (n13 := ρ 13) (n14 := ρ 14) (n15 := ρ 15) (n16 := ρ 16) (n17 := ρ 17) (n18 := ρ 18) (n19 := ρ 19) (n20 := ρ 20) (n21 := ρ 21) (n22 := ρ 22) (n23 := ρ 23) (n24 := ρ 24) (n25 := ρ 25) (n26 := ρ 26) (n27 := ρ 27) (n28 := ρ 28) (n29 := ρ 29) (n30 := ρ 30) (n31 := ρ 31) (n32 := ρ 32) (n33 := ρ 33) (n34 := ρ 34) (H0 := η 0) (H1 := η 1) (H2 := η 2) (H3 := η 3) f75 f74 f73 f72 f71 f70 f69 f68 f67 f66 f65 f64 f63 f62 f61 f60 f59 f58 f57 f56 f55 f54 f53 f52 f51 f50 f49 f48 f47 f46 f45 f44 f43 f42 f41 f40 f39 f38 f37 f36 f35 f34 f33 f32 f31 f30 f29 f28 f27 f26 f25 f24 f23 f22 f21 f20 f19 f18 f17 f16 f15 f14 f13 f12 f11 f10 f9 f8 f7 f6 f5 f4 f3 f2 f1 f0
theorem q_270_11 {q0 : Nat} {n0 n1 n2 n3 n4 n5 n6 n7 n8 n9 n10 n11 n12 n13 n14 n15 n16 n17 n18 n19 n20 n21 n22 n23 n24 n25 n26 n27 n28 n29 n30 n31 n32 n33 n34 : Int} {H0 H1 H2 H3 : gH} (f0 : n0 ≤ 6) (f1 : (-1) ≤ n0) (f2 : n1 ≤ 7) (f3 : 0 ≤ n1) (f4 : n2 = 285) (f5 : n3 ≤ 7) (f6 : 0 ≤ n3) (f7 : n4 = 285) (f8 : (hLe T0 H0 H1 ∧ hFr s_270.2.2.2.2 H0 H1 ∧ hWt T0 H1) ∧ (Ab_270_34 n4 n3 n2 n1 n0 H0 H1 ∧ preb_270 n4 n3 H0) ∧ some q0 = some (mub_270_34 n4 n3 n2 n1 n0 H0 H1)) (f9 : 0 ≤ n0) (f10 : n5 = 347) (f11 : n5 = hV H1 (n2).toNat 86) (f12 : n6 ≤ 16) (f13 : 0 ≤ n6) (f14 : n6 = hV H1 (n5).toNat (n0).toNat) (f15 : n7 = 296) (f16 : n7 = hV H1 (n2).toNat 22) (f17 : n8 = 346) (f18 : n8 = hV H1 (n2).toNat 85) (f19 : n9 ≤ 62) (f20 : 0 ≤ n9) (f21 : n9 = hV H1 (n8).toNat (n0).toNat) (f22 : n10 ≤ 16) (f23 : 0 ≤ n10) (f24 : n10 = hV H1 (n7).toNat (n9).toNat) (f25 : n6 ≠ n10) (f26 : n11 = 16) (f27 : n12 = 346) (f28 : n12 = hV H1 (n2).toNat 85) (f29 : n13 ≤ 62) (f30 : 0 ≤ n13) (f31 : n13 = hV H1 (n12).toNat (n0).toNat) (f32 : n14 = w32 (n11 * n13)) (f33 : n15 = 347) (f34 : n15 = hV H1 (n2).toNat 86) (f35 : n16 ≤ 16) (f36 : 0 ≤ n16) (f37 : n16 = hV H1 (n15).toNat (n0).toNat) (f38 : n17 = w32 (n14 + n16)) (f39 : n18 = 347) (f40 : n18 = hV H1 (n2).toNat 86) (f41 : n19 ≤ 16) (f42 : 0 ≤ n19) (f43 : n19 = hV H1 (n18).toNat (n0).toNat) (f44 : n20 = 1) (f45 : n21 = w32 (n19 + n20)) (f46 : hUpd H2 H1 n18 n0 n21) (f47 : n22 = 298) (f48 : n22 = hV H2 (n2).toNat 24) (f49 : n23 ≤ 5) (f50 : 0 ≤ n23) (f51 : n23 = hV H2 (n22).toNat (n17).toNat) (f52 : n24 = 5) (f53 : n23 = n24) (f54 : n25 = 348) (f55 : n25 = hV H2 (n2).toNat 87) (f56 : n26 = 1) (f57 : n27 = w32 (n0 + n26)) (f58 : n28 = 301) (f59 : n28 = hV H2 (n2).toNat 27) (f60 : n29 ≤ 9999) (f61 : (-1) ≤ n29) (f62 : n29 = hV H2 (n28).toNat (n17).toNat) (f63 : n30 = 302) (f64 : n30 = hV H2 (n2).toNat 28) (f65 : n31 ≤ 9999) (f66 : (-9999) ≤ n31) (f67 : n31 = hV H2 (n30).toNat (n17).toNat) (f68 : n32 = 348) (f69 : n32 = hV H2 (n2).toNat 87) (f70 : n33 ≤ 1000) (f71 : (-1000) ≤ n33) (f72 : n33 = hV H2 (n32).toNat (n0).toNat) (f73 : n34 ≤ 10999) (f74 : (-10999) ≤ n34) (f75 : (hLe T0 H2 H3 ∧ hFr s_269.2.2.2.2 H2 H3 ∧ ((0 : Int) = 0 → H3.length = H2.length) ∧ hWt T0 H3) ∧ postb_269 n34 n2 n29 n31 n33 H2 H3) : (-1000) ≤ n34 := by
  have g4 := f8.2.1.1
  unfold Ab_270_34 at g4
  have g3 := f8.2.1.2
  unfold preb_270 at g3
  unfold postb_269 at f75
  have e0 : n6 = hV H1 347 (n0).toNat := (by rw [f10] at f14; exact f14 : n6 = hV H1 347 (n0).toNat)
  have e1 : n9 = hV H1 346 (n0).toNat := (by rw [f17] at f21; exact f21 : n9 = hV H1 346 (n0).toNat)
  have e2 : hV H1 296 = hV H0 296 := fRow f8.1.2.1 296 (by decide +kernel)
  have e3 : n10 = hV H0 296 (n9).toNat := (by rw [f15] at f24; exact f24 : n10 = hV H1 296 (n9).toNat).trans ((congrFun e2 _))
  have e4 : n13 = hV H1 346 (n0).toNat := (by rw [f27] at f31; exact f31 : n13 = hV H1 346 (n0).toNat)
  have e5 : n16 = hV H1 347 (n0).toNat := (by rw [f33] at f37; exact f37 : n16 = hV H1 347 (n0).toNat)
  have e6 : n19 = hV H1 347 (n0).toNat := (by rw [f39] at f43; exact f43 : n19 = hV H1 347 (n0).toNat)
  have e7 : hV H2 298 = hV H1 298 := uRowNe f46 _ (iS (show n18 = ((347 : Nat) : Int) from f39) rfl)
  have e8 : hV H1 298 = hV H0 298 := fRow f8.1.2.1 298 (by decide +kernel)
  have e9 : n23 = hV H0 298 (n17).toNat := (by rw [f47] at f51; exact f51 : n23 = hV H2 298 (n17).toNat).trans (((congrFun e7 _)).trans ((congrFun e8 _)))
  have e10 : hV H2 301 = hV H1 301 := uRowNe f46 _ (iS (show n18 = ((347 : Nat) : Int) from f39) rfl)
  have e11 : hV H1 301 = hV H0 301 := fRow f8.1.2.1 301 (by decide +kernel)
  have e12 : n29 = hV H0 301 (n17).toNat := (by rw [f58] at f62; exact f62 : n29 = hV H2 301 (n17).toNat).trans (((congrFun e10 _)).trans ((congrFun e11 _)))
  have e13 : hV H2 302 = hV H1 302 := uRowNe f46 _ (iS (show n18 = ((347 : Nat) : Int) from f39) rfl)
  have e14 : hV H1 302 = hV H0 302 := fRow f8.1.2.1 302 (by decide +kernel)
  have e15 : n31 = hV H0 302 (n17).toNat := (by rw [f63] at f67; exact f67 : n31 = hV H2 302 (n17).toNat).trans (((congrFun e13 _)).trans ((congrFun e14 _)))
  have e16 : hV H2 348 = hV H1 348 := uRowNe f46 _ (iS (show n18 = ((347 : Nat) : Int) from f39) rfl)
  have e17 : n33 = hV H1 348 (n0).toNat := (by rw [f68] at f72; exact f72 : n33 = hV H2 348 (n0).toNat).trans ((congrFun e16 _))
  have e18 : hV H1 285 18 = hV H0 285 18 := f8.1.2.1.1 285 18 (by decide +kernel)
  have e19 : hV H1 285 18 = hV H0 285 18 := e18
  have e20 : hV H1 294 = hV H0 294 := fRow f8.1.2.1 294 (by decide +kernel)
  have e21 : hV H1 300 = hV H0 300 := fRow f8.1.2.1 300 (by decide +kernel)
  have e22 : (0 : Int) ≤ hV H1 285 18 ∧ hV H1 285 18 ≤ 8 := f8.1.2.2 285 18 _ _ (by decide +kernel)
  have e23 : (0 : Int) ≤ hV H1 285 82 ∧ hV H1 285 82 ≤ 40 := f8.1.2.2 285 82 _ _ (by decide +kernel)
  try simp only [e19, e20, e2, e8, e21] at f8
  try simp only [e19, e20, e2, e8, e21] at f75
  try simp only [e19, e20, e2, e8, e21] at e22
  try simp only [e19, e20, e2, e8, e21] at e23
  try simp only [e19, e20, e2, e8, e21] at g3
  try simp only [e19, e20, e2, e8, e21] at g4
  try simp only [e19, e20, e2, e8, e21]
  have k0 := g4.1
  have y0 := g4.2.1
  have y1 := g4.2.2.1
  have y2 := g4.2.2.2
  have p0 := g3.1
  have p1 := g3.2
  have r0_0 := f75.2
  try simp only [e19, e20, e2, e8, e21] at k0
  try simp only [e19, e20, e2, e8, e21] at y0
  try simp only [e19, e20, e2, e8, e21] at y1
  try simp only [e19, e20, e2, e8, e21] at y2
  try simp only [e19, e20, e2, e8, e21] at p0
  try simp only [e19, e20, e2, e8, e21] at p1
  try simp only [e19, e20, e2, e8, e21] at r0_0
  clear g3
  clear g4
  clear f11 f14 f16 f18 f21 f24 f28 f31 f34 f37 f40 f43 f48 f51 f55 f59 f62 f64 f67 f69 f72 e2 e7 e8 e10 e11 e13 e14 e16 e18 e19 e20 e21
  subst e0
  subst e1
  subst e3
  subst e4
  subst e5
  subst e6
  subst e9
  subst e12
  subst e15
  subst e17
  rw [f26] at f32
  unfold w32 at *
  try have ca := cue_at (p1 (n3).toNat (by omega)) y0 (by omega) (by omega) (c := (16 * hV H1 346 (n0).toNat + hV H1 347 (n0).toNat)) (by omega)
  try have sh := y1 (n0).toNat (by omega)
  try have lv := y0 (n0).toNat (by omega)
  try (have ix0 : n14 = 16 * (hV H1 346 (n0).toNat) := (by omega); subst ix0)
  try (have ix1 : n17 = (16 * (hV H1 346 (n0).toNat)) + hV H1 347 (n0).toNat := (by omega); subst ix1)
  try (have ix2 : n21 = hV H1 347 (n0).toNat + 1 := (by omega); subst ix2)

  first
  | omega
  | (have ca := cue_at (p1 (n3).toNat (by omega)) y0 (by omega) (by omega) (c := (16 * hV H1 346 (n0).toNat + hV H1 347 (n0).toNat)) (by omega)
     omega)
  | (have ua := use_at (p1 (n3).toNat (by omega)) y0 (by omega) (by omega) (c := (16 * hV H1 346 (n0).toNat + hV H1 347 (n0).toNat)) (by omega) (by omega)
     omega)
  | (have ul := ULp_lay y2 (p1 (n3).toNat (by omega)) y0 (by omega) (by omega) (by omega) (c := (16 * hV H1 346 (n0).toNat + hV H1 347 (n0).toNat)) (by omega) (by omega)
     omega)
theorem c_270_34_8 {q0 : Nat} : vOkm T0 (eP e_270 L_270 A_270 mu_270 (some q0)) 2 ([(1269, [34, 2, 29, 31, 33], [2, 3], 0), (90, [34], [], -10999), (91, [34], [], 10999), (22, [33, 32, 4], [2], 0), (90, [33], [], -1000), (91, [33], [], 1000), (20, [32, 2], [2], 87), (0, [32], [], 348), (22, [31, 30, 17], [2], 0), (90, [31], [], -9999), (91, [31], [], 9999), (20, [30, 2], [2], 28), (0, [30], [], 302), (22, [29, 28, 17], [2], 0), (90, [29], [], -1), (91, [29], [], 9999), (20, [28, 2], [2], 27), (0, [28], [], 301), (1, [27, 4, 26], [], 0), (0, [26], [], 1), (20, [25, 2], [2], 87), (0, [25], [], 348), (40, [23, 24], [], 0), (0, [24], [], 5), (22, [23, 22, 17], [2], 0), (90, [23], [], 0), (91, [23], [], 5), (20, [22, 2], [2], 24), (0, [22], [], 298), (80, [18, 4, 21], [2, 1], 0), (1, [21, 19, 20], [], 0), (0, [20], [], 1), (22, [19, 18, 4], [1], 0), (90, [19], [], 0), (91, [19], [], 16), (20, [18, 2], [1], 86), (0, [18], [], 347), (1, [17, 14, 16], [], 0), (22, [16, 15, 4], [1], 0), (90, [16], [], 0), (91, [16], [], 16), (20, [15, 2], [1], 86), (0, [15], [], 347), (3, [14, 11, 13], [], 0), (22, [13, 12, 4], [1], 0), (90, [13], [], 0), (91, [13], [], 62), (20, [12, 2], [1], 85), (0, [12], [], 346), (0, [11], [], 16), (41, [6, 10], [], 0), (22, [10, 7, 9], [1], 0), (90, [10], [], 0), (91, [10], [], 16), (22, [9, 8, 4], [1], 0), (90, [9], [], 0), (91, [9], [], 62), (20, [8, 2], [1], 85), (0, [8], [], 346), (20, [7, 2], [1], 22), (0, [7], [], 296), (22, [6, 5, 4], [1], 0), (90, [6], [], 0), (91, [6], [], 16), (20, [5, 2], [1], 86), (0, [5], [], 347), (33, [4], [], 0), (5000, [0, 1, 2, 3, 4], [0, 1], 34), (0, [0], [], 285), (90, [1], [], 0), (91, [1], [], 7), (0, [2], [], 285), (90, [3], [], 0), (91, [3], [], 7), (90, [4], [], -1), (91, [4], [], 6)], (90, [34], [], -1000)) := vOk_in fun ρ η h => by
  obtain ⟨f0, f1, f2, f3, f4, f5, f6, f7, f8, f9, f10, f11, f12, f13, f14, f15, f16, f17, f18, f19, f20, f21, f22, f23, f24, f25, f26, f27, f28, f29, f30, f31, f32, f33, f34, f35, f36, f37, f38, f39, f40, f41, f42, f43, f44, f45, f46, f47, f48, f49, f50, f51, f52, f53, f54, f55, f56, f57, f58, f59, f60, f61, f62, f63, f64, f65, f66, f67, f68, f69, f70, f71, f72, f73, f74, f75, _⟩ := h
  exact q_270_11 (q0 := q0) (n0 := ρ 4) (n1 := ρ 3) (n2 := ρ 2) (n3 := ρ 1) (n4 := ρ 0) (n5 := ρ 5) (n6 := ρ 6) (n7 := ρ 7) (n8 := ρ 8) (n9 := ρ 9) (n10 := ρ 10) (n11 := ρ 11) (n12 := ρ 12) (n13 := ρ 13) (n14 := ρ 14) (n15 := ρ 15) (n16 := ρ 16) (n17 := ρ 17) (n18 := ρ 18) (n19 := ρ 19) (n20 := ρ 20) (n21 := ρ 21) (n22 := ρ 22) (n23 := ρ 23) (n24 := ρ 24) (n25 := ρ 25) (n26 := ρ 26) (n27 := ρ 27) (n28 := ρ 28) (n29 := ρ 29) (n30 := ρ 30) (n31 := ρ 31) (n32 := ρ 32) (n33 := ρ 33) (n34 := ρ 34) (H0 := η 0) (H1 := η 1) (H2 := η 2) (H3 := η 3) f75 f74 f73 f72 f71 f70 f69 f68 f67 f66 f65 f64 f63 f62 f61 f60 f59 f58 f57 f56 f55 f54 f53 f52 f51 f50 f49 f48 f47 f46 f45 f44 f43 f42 f41 f40 f39 f38 f37 f36 f35 f34 f33 f32 f31 f30 f29 f28 f27 f26 f25 f24 f23 f22 f21 f20 f19 f18 f17 f16 f15 f14 f13 f12 f11 f10 f9 f8 f7 f6 f5 f4 f3 f2 f1 f0
theorem q_270_12 {q0 : Nat} {n0 n1 n2 n3 n4 n5 n6 n7 n8 n9 n10 n11 n12 n13 n14 n15 n16 n17 n18 n19 n20 n21 n22 n23 n24 n25 n26 n27 n28 n29 n30 n31 n32 n33 n34 : Int} {H0 H1 H2 H3 : gH} (f0 : n0 ≤ 6) (f1 : (-1) ≤ n0) (f2 : n1 ≤ 7) (f3 : 0 ≤ n1) (f4 : n2 = 285) (f5 : n3 ≤ 7) (f6 : 0 ≤ n3) (f7 : n4 = 285) (f8 : (hLe T0 H0 H1 ∧ hFr s_270.2.2.2.2 H0 H1 ∧ hWt T0 H1) ∧ (Ab_270_34 n4 n3 n2 n1 n0 H0 H1 ∧ preb_270 n4 n3 H0) ∧ some q0 = some (mub_270_34 n4 n3 n2 n1 n0 H0 H1)) (f9 : 0 ≤ n0) (f10 : n5 = 347) (f11 : n5 = hV H1 (n2).toNat 86) (f12 : n6 ≤ 16) (f13 : 0 ≤ n6) (f14 : n6 = hV H1 (n5).toNat (n0).toNat) (f15 : n7 = 296) (f16 : n7 = hV H1 (n2).toNat 22) (f17 : n8 = 346) (f18 : n8 = hV H1 (n2).toNat 85) (f19 : n9 ≤ 62) (f20 : 0 ≤ n9) (f21 : n9 = hV H1 (n8).toNat (n0).toNat) (f22 : n10 ≤ 16) (f23 : 0 ≤ n10) (f24 : n10 = hV H1 (n7).toNat (n9).toNat) (f25 : n6 ≠ n10) (f26 : n11 = 16) (f27 : n12 = 346) (f28 : n12 = hV H1 (n2).toNat 85) (f29 : n13 ≤ 62) (f30 : 0 ≤ n13) (f31 : n13 = hV H1 (n12).toNat (n0).toNat) (f32 : n14 = w32 (n11 * n13)) (f33 : n15 = 347) (f34 : n15 = hV H1 (n2).toNat 86) (f35 : n16 ≤ 16) (f36 : 0 ≤ n16) (f37 : n16 = hV H1 (n15).toNat (n0).toNat) (f38 : n17 = w32 (n14 + n16)) (f39 : n18 = 347) (f40 : n18 = hV H1 (n2).toNat 86) (f41 : n19 ≤ 16) (f42 : 0 ≤ n19) (f43 : n19 = hV H1 (n18).toNat (n0).toNat) (f44 : n20 = 1) (f45 : n21 = w32 (n19 + n20)) (f46 : hUpd H2 H1 n18 n0 n21) (f47 : n22 = 298) (f48 : n22 = hV H2 (n2).toNat 24) (f49 : n23 ≤ 5) (f50 : 0 ≤ n23) (f51 : n23 = hV H2 (n22).toNat (n17).toNat) (f52 : n24 = 5) (f53 : n23 = n24) (f54 : n25 = 348) (f55 : n25 = hV H2 (n2).toNat 87) (f56 : n26 = 1) (f57 : n27 = w32 (n0 + n26)) (f58 : n28 = 301) (f59 : n28 = hV H2 (n2).toNat 27) (f60 : n29 ≤ 9999) (f61 : (-1) ≤ n29) (f62 : n29 = hV H2 (n28).toNat (n17).toNat) (f63 : n30 = 302) (f64 : n30 = hV H2 (n2).toNat 28) (f65 : n31 ≤ 9999) (f66 : (-9999) ≤ n31) (f67 : n31 = hV H2 (n30).toNat (n17).toNat) (f68 : n32 = 348) (f69 : n32 = hV H2 (n2).toNat 87) (f70 : n33 ≤ 1000) (f71 : (-1000) ≤ n33) (f72 : n33 = hV H2 (n32).toNat (n0).toNat) (f73 : n34 ≤ 10999) (f74 : (-10999) ≤ n34) (f75 : (hLe T0 H2 H3 ∧ hFr s_269.2.2.2.2 H2 H3 ∧ ((0 : Int) = 0 → H3.length = H2.length) ∧ hWt T0 H3) ∧ postb_269 n34 n2 n29 n31 n33 H2 H3) : n34 ≤ 1000 := by
  have g4 := f8.2.1.1
  unfold Ab_270_34 at g4
  have g3 := f8.2.1.2
  unfold preb_270 at g3
  unfold postb_269 at f75
  have e0 : n6 = hV H1 347 (n0).toNat := (by rw [f10] at f14; exact f14 : n6 = hV H1 347 (n0).toNat)
  have e1 : n9 = hV H1 346 (n0).toNat := (by rw [f17] at f21; exact f21 : n9 = hV H1 346 (n0).toNat)
  have e2 : hV H1 296 = hV H0 296 := fRow f8.1.2.1 296 (by decide +kernel)
  have e3 : n10 = hV H0 296 (n9).toNat := (by rw [f15] at f24; exact f24 : n10 = hV H1 296 (n9).toNat).trans ((congrFun e2 _))
  have e4 : n13 = hV H1 346 (n0).toNat := (by rw [f27] at f31; exact f31 : n13 = hV H1 346 (n0).toNat)
  have e5 : n16 = hV H1 347 (n0).toNat := (by rw [f33] at f37; exact f37 : n16 = hV H1 347 (n0).toNat)
  have e6 : n19 = hV H1 347 (n0).toNat := (by rw [f39] at f43; exact f43 : n19 = hV H1 347 (n0).toNat)
  have e7 : hV H2 298 = hV H1 298 := uRowNe f46 _ (iS (show n18 = ((347 : Nat) : Int) from f39) rfl)
  have e8 : hV H1 298 = hV H0 298 := fRow f8.1.2.1 298 (by decide +kernel)
  have e9 : n23 = hV H0 298 (n17).toNat := (by rw [f47] at f51; exact f51 : n23 = hV H2 298 (n17).toNat).trans (((congrFun e7 _)).trans ((congrFun e8 _)))
  have e10 : hV H2 301 = hV H1 301 := uRowNe f46 _ (iS (show n18 = ((347 : Nat) : Int) from f39) rfl)
  have e11 : hV H1 301 = hV H0 301 := fRow f8.1.2.1 301 (by decide +kernel)
  have e12 : n29 = hV H0 301 (n17).toNat := (by rw [f58] at f62; exact f62 : n29 = hV H2 301 (n17).toNat).trans (((congrFun e10 _)).trans ((congrFun e11 _)))
  have e13 : hV H2 302 = hV H1 302 := uRowNe f46 _ (iS (show n18 = ((347 : Nat) : Int) from f39) rfl)
  have e14 : hV H1 302 = hV H0 302 := fRow f8.1.2.1 302 (by decide +kernel)
  have e15 : n31 = hV H0 302 (n17).toNat := (by rw [f63] at f67; exact f67 : n31 = hV H2 302 (n17).toNat).trans (((congrFun e13 _)).trans ((congrFun e14 _)))
  have e16 : hV H2 348 = hV H1 348 := uRowNe f46 _ (iS (show n18 = ((347 : Nat) : Int) from f39) rfl)
  have e17 : n33 = hV H1 348 (n0).toNat := (by rw [f68] at f72; exact f72 : n33 = hV H2 348 (n0).toNat).trans ((congrFun e16 _))
  have e18 : hV H1 285 18 = hV H0 285 18 := f8.1.2.1.1 285 18 (by decide +kernel)
  have e19 : hV H1 285 18 = hV H0 285 18 := e18
  have e20 : hV H1 294 = hV H0 294 := fRow f8.1.2.1 294 (by decide +kernel)
  have e21 : hV H1 300 = hV H0 300 := fRow f8.1.2.1 300 (by decide +kernel)
  have e22 : (0 : Int) ≤ hV H1 285 18 ∧ hV H1 285 18 ≤ 8 := f8.1.2.2 285 18 _ _ (by decide +kernel)
  have e23 : (0 : Int) ≤ hV H1 285 82 ∧ hV H1 285 82 ≤ 40 := f8.1.2.2 285 82 _ _ (by decide +kernel)
  try simp only [e19, e20, e2, e8, e21] at f8
  try simp only [e19, e20, e2, e8, e21] at f75
  try simp only [e19, e20, e2, e8, e21] at e22
  try simp only [e19, e20, e2, e8, e21] at e23
  try simp only [e19, e20, e2, e8, e21] at g3
  try simp only [e19, e20, e2, e8, e21] at g4
  try simp only [e19, e20, e2, e8, e21]
  have k0 := g4.1
  have y0 := g4.2.1
  have y1 := g4.2.2.1
  have y2 := g4.2.2.2
  have p0 := g3.1
  have p1 := g3.2
  have r0_0 := f75.2
  try simp only [e19, e20, e2, e8, e21] at k0
  try simp only [e19, e20, e2, e8, e21] at y0
  try simp only [e19, e20, e2, e8, e21] at y1
  try simp only [e19, e20, e2, e8, e21] at y2
  try simp only [e19, e20, e2, e8, e21] at p0
  try simp only [e19, e20, e2, e8, e21] at p1
  try simp only [e19, e20, e2, e8, e21] at r0_0
  clear g3
  clear g4
  clear f11 f14 f16 f18 f21 f24 f28 f31 f34 f37 f40 f43 f48 f51 f55 f59 f62 f64 f67 f69 f72 e2 e7 e8 e10 e11 e13 e14 e16 e18 e19 e20 e21
  subst e0
  subst e1
  subst e3
  subst e4
  subst e5
  subst e6
  subst e9
  subst e12
  subst e15
  subst e17
  rw [f26] at f32
  unfold w32 at *
  try have ca := cue_at (p1 (n3).toNat (by omega)) y0 (by omega) (by omega) (c := (16 * hV H1 346 (n0).toNat + hV H1 347 (n0).toNat)) (by omega)
  try have sh := y1 (n0).toNat (by omega)
  try have lv := y0 (n0).toNat (by omega)
  try (have ix0 : n14 = 16 * (hV H1 346 (n0).toNat) := (by omega); subst ix0)
  try (have ix1 : n17 = (16 * (hV H1 346 (n0).toNat)) + hV H1 347 (n0).toNat := (by omega); subst ix1)
  try (have ix2 : n21 = hV H1 347 (n0).toNat + 1 := (by omega); subst ix2)

  first
  | omega
  | (have ca := cue_at (p1 (n3).toNat (by omega)) y0 (by omega) (by omega) (c := (16 * hV H1 346 (n0).toNat + hV H1 347 (n0).toNat)) (by omega)
     omega)
  | (have ua := use_at (p1 (n3).toNat (by omega)) y0 (by omega) (by omega) (c := (16 * hV H1 346 (n0).toNat + hV H1 347 (n0).toNat)) (by omega) (by omega)
     omega)
  | (have ul := ULp_lay y2 (p1 (n3).toNat (by omega)) y0 (by omega) (by omega) (by omega) (c := (16 * hV H1 346 (n0).toNat + hV H1 347 (n0).toNat)) (by omega) (by omega)
     omega)
theorem c_270_34_9 {q0 : Nat} : vOkm T0 (eP e_270 L_270 A_270 mu_270 (some q0)) 2 ([(1269, [34, 2, 29, 31, 33], [2, 3], 0), (90, [34], [], -10999), (91, [34], [], 10999), (22, [33, 32, 4], [2], 0), (90, [33], [], -1000), (91, [33], [], 1000), (20, [32, 2], [2], 87), (0, [32], [], 348), (22, [31, 30, 17], [2], 0), (90, [31], [], -9999), (91, [31], [], 9999), (20, [30, 2], [2], 28), (0, [30], [], 302), (22, [29, 28, 17], [2], 0), (90, [29], [], -1), (91, [29], [], 9999), (20, [28, 2], [2], 27), (0, [28], [], 301), (1, [27, 4, 26], [], 0), (0, [26], [], 1), (20, [25, 2], [2], 87), (0, [25], [], 348), (40, [23, 24], [], 0), (0, [24], [], 5), (22, [23, 22, 17], [2], 0), (90, [23], [], 0), (91, [23], [], 5), (20, [22, 2], [2], 24), (0, [22], [], 298), (80, [18, 4, 21], [2, 1], 0), (1, [21, 19, 20], [], 0), (0, [20], [], 1), (22, [19, 18, 4], [1], 0), (90, [19], [], 0), (91, [19], [], 16), (20, [18, 2], [1], 86), (0, [18], [], 347), (1, [17, 14, 16], [], 0), (22, [16, 15, 4], [1], 0), (90, [16], [], 0), (91, [16], [], 16), (20, [15, 2], [1], 86), (0, [15], [], 347), (3, [14, 11, 13], [], 0), (22, [13, 12, 4], [1], 0), (90, [13], [], 0), (91, [13], [], 62), (20, [12, 2], [1], 85), (0, [12], [], 346), (0, [11], [], 16), (41, [6, 10], [], 0), (22, [10, 7, 9], [1], 0), (90, [10], [], 0), (91, [10], [], 16), (22, [9, 8, 4], [1], 0), (90, [9], [], 0), (91, [9], [], 62), (20, [8, 2], [1], 85), (0, [8], [], 346), (20, [7, 2], [1], 22), (0, [7], [], 296), (22, [6, 5, 4], [1], 0), (90, [6], [], 0), (91, [6], [], 16), (20, [5, 2], [1], 86), (0, [5], [], 347), (33, [4], [], 0), (5000, [0, 1, 2, 3, 4], [0, 1], 34), (0, [0], [], 285), (90, [1], [], 0), (91, [1], [], 7), (0, [2], [], 285), (90, [3], [], 0), (91, [3], [], 7), (90, [4], [], -1), (91, [4], [], 6)], (91, [34], [], 1000)) := vOk_in fun ρ η h => by
  obtain ⟨f0, f1, f2, f3, f4, f5, f6, f7, f8, f9, f10, f11, f12, f13, f14, f15, f16, f17, f18, f19, f20, f21, f22, f23, f24, f25, f26, f27, f28, f29, f30, f31, f32, f33, f34, f35, f36, f37, f38, f39, f40, f41, f42, f43, f44, f45, f46, f47, f48, f49, f50, f51, f52, f53, f54, f55, f56, f57, f58, f59, f60, f61, f62, f63, f64, f65, f66, f67, f68, f69, f70, f71, f72, f73, f74, f75, _⟩ := h
  exact q_270_12 (q0 := q0) (n0 := ρ 4) (n1 := ρ 3) (n2 := ρ 2) (n3 := ρ 1) (n4 := ρ 0) (n5 := ρ 5) (n6 := ρ 6) (n7 := ρ 7) (n8 := ρ 8) (n9 := ρ 9) (n10 := ρ 10) (n11 := ρ 11) (n12 := ρ 12) (n13 := ρ 13) (n14 := ρ 14) (n15 := ρ 15) (n16 := ρ 16) (n17 := ρ 17) (n18 := ρ 18) (n19 := ρ 19) (n20 := ρ 20) (n21 := ρ 21) (n22 := ρ 22) (n23 := ρ 23) (n24 := ρ 24) (n25 := ρ 25) (n26 := ρ 26) (n27 := ρ 27) (n28 := ρ 28) (n29 := ρ 29) (n30 := ρ 30) (n31 := ρ 31) (n32 := ρ 32) (n33 := ρ 33) (n34 := ρ 34) (H0 := η 0) (H1 := η 1) (H2 := η 2) (H3 := η 3) f75 f74 f73 f72 f71 f70 f69 f68 f67 f66 f65 f64 f63 f62 f61 f60 f59 f58 f57 f56 f55 f54 f53 f52 f51 f50 f49 f48 f47 f46 f45 f44 f43 f42 f41 f40 f39 f38 f37 f36 f35 f34 f33 f32 f31 f30 f29 f28 f27 f26 f25 f24 f23 f22 f21 f20 f19 f18 f17 f16 f15 f14 f13 f12 f11 f10 f9 f8 f7 f6 f5 f4 f3 f2 f1 f0
theorem q_270_13 {q0 : Nat} {n0 n1 n2 n3 n4 n5 n6 n7 n8 n9 n10 n11 n12 n13 n14 n15 n16 n17 n18 n19 n20 n21 n22 n23 n24 n25 n26 n27 n28 n29 n30 n31 n32 n33 n34 n35 n36 n37 n38 n39 : Int} {H0 H1 H2 H3 H4 : gH} (f0 : n0 ≤ 6) (f1 : (-1) ≤ n0) (f2 : n1 ≤ 7) (f3 : 0 ≤ n1) (f4 : n2 = 285) (f5 : n3 ≤ 7) (f6 : 0 ≤ n3) (f7 : n4 = 285) (f8 : (hLe T0 H0 H1 ∧ hFr s_270.2.2.2.2 H0 H1 ∧ hWt T0 H1) ∧ (Ab_270_34 n4 n3 n2 n1 n0 H0 H1 ∧ preb_270 n4 n3 H0) ∧ some q0 = some (mub_270_34 n4 n3 n2 n1 n0 H0 H1)) (f9 : 0 ≤ n0) (f10 : n5 = 347) (f11 : n5 = hV H1 (n2).toNat 86) (f12 : n6 ≤ 16) (f13 : 0 ≤ n6) (f14 : n6 = hV H1 (n5).toNat (n0).toNat) (f15 : n7 = 296) (f16 : n7 = hV H1 (n2).toNat 22) (f17 : n8 = 346) (f18 : n8 = hV H1 (n2).toNat 85) (f19 : n9 ≤ 62) (f20 : 0 ≤ n9) (f21 : n9 = hV H1 (n8).toNat (n0).toNat) (f22 : n10 ≤ 16) (f23 : 0 ≤ n10) (f24 : n10 = hV H1 (n7).toNat (n9).toNat) (f25 : n6 ≠ n10) (f26 : n11 = 16) (f27 : n12 = 346) (f28 : n12 = hV H1 (n2).toNat 85) (f29 : n13 ≤ 62) (f30 : 0 ≤ n13) (f31 : n13 = hV H1 (n12).toNat (n0).toNat) (f32 : n14 = w32 (n11 * n13)) (f33 : n15 = 347) (f34 : n15 = hV H1 (n2).toNat 86) (f35 : n16 ≤ 16) (f36 : 0 ≤ n16) (f37 : n16 = hV H1 (n15).toNat (n0).toNat) (f38 : n17 = w32 (n14 + n16)) (f39 : n18 = 347) (f40 : n18 = hV H1 (n2).toNat 86) (f41 : n19 ≤ 16) (f42 : 0 ≤ n19) (f43 : n19 = hV H1 (n18).toNat (n0).toNat) (f44 : n20 = 1) (f45 : n21 = w32 (n19 + n20)) (f46 : hUpd H2 H1 n18 n0 n21) (f47 : n22 = 298) (f48 : n22 = hV H2 (n2).toNat 24) (f49 : n23 ≤ 5) (f50 : 0 ≤ n23) (f51 : n23 = hV H2 (n22).toNat (n17).toNat) (f52 : n24 = 5) (f53 : n23 = n24) (f54 : n25 = 348) (f55 : n25 = hV H2 (n2).toNat 87) (f56 : n26 = 1) (f57 : n27 = w32 (n0 + n26)) (f58 : n28 = 301) (f59 : n28 = hV H2 (n2).toNat 27) (f60 : n29 ≤ 9999) (f61 : (-1) ≤ n29) (f62 : n29 = hV H2 (n28).toNat (n17).toNat) (f63 : n30 = 302) (f64 : n30 = hV H2 (n2).toNat 28) (f65 : n31 ≤ 9999) (f66 : (-9999) ≤ n31) (f67 : n31 = hV H2 (n30).toNat (n17).toNat) (f68 : n32 = 348) (f69 : n32 = hV H2 (n2).toNat 87) (f70 : n33 ≤ 1000) (f71 : (-1000) ≤ n33) (f72 : n33 = hV H2 (n32).toNat (n0).toNat) (f73 : n34 ≤ 10999) (f74 : (-10999) ≤ n34) (f75 : (hLe T0 H2 H3 ∧ hFr s_269.2.2.2.2 H2 H3 ∧ ((0 : Int) = 0 → H3.length = H2.length) ∧ hWt T0 H3) ∧ postb_269 n34 n2 n29 n31 n33 H2 H3) (f76 : hUpd H4 H3 n25 n27 n34) (f77 : n35 = 346) (f78 : n35 = hV H4 (n2).toNat 85) (f79 : n36 = 1) (f80 : n37 = w32 (n0 + n36)) (f81 : n38 = 7) (f82 : n39 = w32 (n38 * n1)) : 0 ≤ n17 ∧ n17 < 1008 := by
  have g4 := f8.2.1.1
  unfold Ab_270_34 at g4
  have g3 := f8.2.1.2
  unfold preb_270 at g3
  unfold postb_269 at f75
  have e0 : n6 = hV H1 347 (n0).toNat := (by rw [f10] at f14; exact f14 : n6 = hV H1 347 (n0).toNat)
  have e1 : n9 = hV H1 346 (n0).toNat := (by rw [f17] at f21; exact f21 : n9 = hV H1 346 (n0).toNat)
  have e2 : hV H1 296 = hV H0 296 := fRow f8.1.2.1 296 (by decide +kernel)
  have e3 : n10 = hV H0 296 (n9).toNat := (by rw [f15] at f24; exact f24 : n10 = hV H1 296 (n9).toNat).trans ((congrFun e2 _))
  have e4 : n13 = hV H1 346 (n0).toNat := (by rw [f27] at f31; exact f31 : n13 = hV H1 346 (n0).toNat)
  have e5 : n16 = hV H1 347 (n0).toNat := (by rw [f33] at f37; exact f37 : n16 = hV H1 347 (n0).toNat)
  have e6 : n19 = hV H1 347 (n0).toNat := (by rw [f39] at f43; exact f43 : n19 = hV H1 347 (n0).toNat)
  have e7 : hV H2 298 = hV H1 298 := uRowNe f46 _ (iS (show n18 = ((347 : Nat) : Int) from f39) rfl)
  have e8 : hV H1 298 = hV H0 298 := fRow f8.1.2.1 298 (by decide +kernel)
  have e9 : n23 = hV H0 298 (n17).toNat := (by rw [f47] at f51; exact f51 : n23 = hV H2 298 (n17).toNat).trans (((congrFun e7 _)).trans ((congrFun e8 _)))
  have e10 : hV H2 301 = hV H1 301 := uRowNe f46 _ (iS (show n18 = ((347 : Nat) : Int) from f39) rfl)
  have e11 : hV H1 301 = hV H0 301 := fRow f8.1.2.1 301 (by decide +kernel)
  have e12 : n29 = hV H0 301 (n17).toNat := (by rw [f58] at f62; exact f62 : n29 = hV H2 301 (n17).toNat).trans (((congrFun e10 _)).trans ((congrFun e11 _)))
  have e13 : hV H2 302 = hV H1 302 := uRowNe f46 _ (iS (show n18 = ((347 : Nat) : Int) from f39) rfl)
  have e14 : hV H1 302 = hV H0 302 := fRow f8.1.2.1 302 (by decide +kernel)
  have e15 : n31 = hV H0 302 (n17).toNat := (by rw [f63] at f67; exact f67 : n31 = hV H2 302 (n17).toNat).trans (((congrFun e13 _)).trans ((congrFun e14 _)))
  have e16 : hV H2 348 = hV H1 348 := uRowNe f46 _ (iS (show n18 = ((347 : Nat) : Int) from f39) rfl)
  have e17 : n33 = hV H1 348 (n0).toNat := (by rw [f68] at f72; exact f72 : n33 = hV H2 348 (n0).toNat).trans ((congrFun e16 _))
  have e18 : hV H1 285 18 = hV H0 285 18 := f8.1.2.1.1 285 18 (by decide +kernel)
  have e19 : hV H1 285 18 = hV H0 285 18 := e18
  have e20 : hV H1 294 = hV H0 294 := fRow f8.1.2.1 294 (by decide +kernel)
  have e21 : hV H1 300 = hV H0 300 := fRow f8.1.2.1 300 (by decide +kernel)
  have e22 : (0 : Int) ≤ hV H1 285 18 ∧ hV H1 285 18 ≤ 8 := f8.1.2.2 285 18 _ _ (by decide +kernel)
  have e23 : (0 : Int) ≤ hV H1 285 82 ∧ hV H1 285 82 ≤ 40 := f8.1.2.2 285 82 _ _ (by decide +kernel)
  try simp only [e19, e20, e2, e8, e21] at f8
  try simp only [e19, e20, e2, e8, e21] at f75
  try simp only [e19, e20, e2, e8, e21] at e22
  try simp only [e19, e20, e2, e8, e21] at e23
  try simp only [e19, e20, e2, e8, e21] at g3
  try simp only [e19, e20, e2, e8, e21] at g4
  try simp only [e19, e20, e2, e8, e21]
  have k0 := g4.1
  have y0 := g4.2.1
  have y1 := g4.2.2.1
  have y2 := g4.2.2.2
  have p0 := g3.1
  have p1 := g3.2
  have r0_0 := f75.2
  try simp only [e19, e20, e2, e8, e21] at k0
  try simp only [e19, e20, e2, e8, e21] at y0
  try simp only [e19, e20, e2, e8, e21] at y1
  try simp only [e19, e20, e2, e8, e21] at y2
  try simp only [e19, e20, e2, e8, e21] at p0
  try simp only [e19, e20, e2, e8, e21] at p1
  try simp only [e19, e20, e2, e8, e21] at r0_0
  clear g3
  clear g4
  clear f11 f14 f16 f18 f21 f24 f28 f31 f34 f37 f40 f43 f48 f51 f55 f59 f62 f64 f67 f69 f72 f78 e2 e7 e8 e10 e11 e13 e14 e16 e18 e19 e20 e21
  subst e0
  subst e1
  subst e3
  subst e4
  subst e5
  subst e6
  subst e9
  subst e12
  subst e15
  subst e17
  rw [f26] at f32
  rw [f81] at f82
  unfold w32 at *
  try have ca := cue_at (p1 (n3).toNat (by omega)) y0 (by omega) (by omega) (c := (16 * hV H1 346 (n0).toNat + hV H1 347 (n0).toNat)) (by omega)
  try have sh := y1 (n0).toNat (by omega)
  try have lv := y0 (n0).toNat (by omega)
  try (have ix0 : n14 = 16 * (hV H1 346 (n0).toNat) := (by omega); subst ix0)
  try (have ix1 : n17 = (16 * (hV H1 346 (n0).toNat)) + hV H1 347 (n0).toNat := (by omega); subst ix1)
  try (have ix2 : n21 = hV H1 347 (n0).toNat + 1 := (by omega); subst ix2)
  try (have ix3 : n27 = n0 + 1 := (by omega); subst ix3)

  first
  | omega
  | (have ca := cue_at (p1 (n3).toNat (by omega)) y0 (by omega) (by omega) (c := (16 * hV H1 346 (n0).toNat + hV H1 347 (n0).toNat)) (by omega)
     omega)
  | (have ua := use_at (p1 (n3).toNat (by omega)) y0 (by omega) (by omega) (c := (16 * hV H1 346 (n0).toNat + hV H1 347 (n0).toNat)) (by omega) (by omega)
     omega)
  | (have ul := ULp_lay y2 (p1 (n3).toNat (by omega)) y0 (by omega) (by omega) (by omega) (c := (16 * hV H1 346 (n0).toNat + hV H1 347 (n0).toNat)) (by omega) (by omega)
     omega)
theorem c_270_34_10 {q0 : Nat} : vOkm T0 (eP e_270 L_270 A_270 mu_270 (some q0)) 2 ([(3, [39, 38, 3], [], 0), (0, [38], [], 7), (1, [37, 4, 36], [], 0), (0, [36], [], 1), (20, [35, 2], [4], 85), (0, [35], [], 346), (80, [25, 27, 34], [4, 3], 0), (1269, [34, 2, 29, 31, 33], [2, 3], 0), (90, [34], [], -10999), (91, [34], [], 10999), (22, [33, 32, 4], [2], 0), (90, [33], [], -1000), (91, [33], [], 1000), (20, [32, 2], [2], 87), (0, [32], [], 348), (22, [31, 30, 17], [2], 0), (90, [31], [], -9999), (91, [31], [], 9999), (20, [30, 2], [2], 28), (0, [30], [], 302), (22, [29, 28, 17], [2], 0), (90, [29], [], -1), (91, [29], [], 9999), (20, [28, 2], [2], 27), (0, [28], [], 301), (1, [27, 4, 26], [], 0), (0, [26], [], 1), (20, [25, 2], [2], 87), (0, [25], [], 348), (40, [23, 24], [], 0), (0, [24], [], 5), (22, [23, 22, 17], [2], 0), (90, [23], [], 0), (91, [23], [], 5), (20, [22, 2], [2], 24), (0, [22], [], 298), (80, [18, 4, 21], [2, 1], 0), (1, [21, 19, 20], [], 0), (0, [20], [], 1), (22, [19, 18, 4], [1], 0), (90, [19], [], 0), (91, [19], [], 16), (20, [18, 2], [1], 86), (0, [18], [], 347), (1, [17, 14, 16], [], 0), (22, [16, 15, 4], [1], 0), (90, [16], [], 0), (91, [16], [], 16), (20, [15, 2], [1], 86), (0, [15], [], 347), (3, [14, 11, 13], [], 0), (22, [13, 12, 4], [1], 0), (90, [13], [], 0), (91, [13], [], 62), (20, [12, 2], [1], 85), (0, [12], [], 346), (0, [11], [], 16), (41, [6, 10], [], 0), (22, [10, 7, 9], [1], 0), (90, [10], [], 0), (91, [10], [], 16), (22, [9, 8, 4], [1], 0), (90, [9], [], 0), (91, [9], [], 62), (20, [8, 2], [1], 85), (0, [8], [], 346), (20, [7, 2], [1], 22), (0, [7], [], 296), (22, [6, 5, 4], [1], 0), (90, [6], [], 0), (91, [6], [], 16), (20, [5, 2], [1], 86), (0, [5], [], 347), (33, [4], [], 0), (5000, [0, 1, 2, 3, 4], [0, 1], 34), (0, [0], [], 285), (90, [1], [], 0), (91, [1], [], 7), (0, [2], [], 285), (90, [3], [], 0), (91, [3], [], 7), (90, [4], [], -1), (91, [4], [], 6)], (70, [17], [], 1008)) := vOk_in fun ρ η h => by
  obtain ⟨f0, f1, f2, f3, f4, f5, f6, f7, f8, f9, f10, f11, f12, f13, f14, f15, f16, f17, f18, f19, f20, f21, f22, f23, f24, f25, f26, f27, f28, f29, f30, f31, f32, f33, f34, f35, f36, f37, f38, f39, f40, f41, f42, f43, f44, f45, f46, f47, f48, f49, f50, f51, f52, f53, f54, f55, f56, f57, f58, f59, f60, f61, f62, f63, f64, f65, f66, f67, f68, f69, f70, f71, f72, f73, f74, f75, f76, f77, f78, f79, f80, f81, f82, _⟩ := h
  exact q_270_13 (q0 := q0) (n0 := ρ 4) (n1 := ρ 3) (n2 := ρ 2) (n3 := ρ 1) (n4 := ρ 0) (n5 := ρ 5) (n6 := ρ 6) (n7 := ρ 7) (n8 := ρ 8) (n9 := ρ 9) (n10 := ρ 10) (n11 := ρ 11) (n12 := ρ 12) (n13 := ρ 13) (n14 := ρ 14) (n15 := ρ 15) (n16 := ρ 16) (n17 := ρ 17) (n18 := ρ 18) (n19 := ρ 19) (n20 := ρ 20) (n21 := ρ 21) (n22 := ρ 22) (n23 := ρ 23) (n24 := ρ 24) (n25 := ρ 25) (n26 := ρ 26) (n27 := ρ 27) (n28 := ρ 28) (n29 := ρ 29) (n30 := ρ 30) (n31 := ρ 31) (n32 := ρ 32) (n33 := ρ 33) (n34 := ρ 34) (n35 := ρ 35) (n36 := ρ 36) (n37 := ρ 37) (n38 := ρ 38) (n39 := ρ 39) (H0 := η 0) (H1 := η 1) (H2 := η 2) (H3 := η 3) (H4 := η 4) f82 f81 f80 f79 f78 f77 f76 f75 f74 f73 f72 f71 f70 f69 f68 f67 f66 f65 f64 f63 f62 f61 f60 f59 f58 f57 f56 f55 f54 f53 f52 f51 f50 f49 f48 f47 f46 f45 f44 f43 f42 f41 f40 f39 f38 f37 f36 f35 f34 f33 f32 f31 f30 f29 f28 f27 f26 f25 f24 f23 f22 f21 f20 f19 f18 f17 f16 f15 f14 f13 f12 f11 f10 f9 f8 f7 f6 f5 f4 f3 f2 f1 f0
theorem q_270_14 {q0 : Nat} {n0 n1 n2 n3 n4 n5 n6 n7 n8 n9 n10 n11 n12 n13 n14 n15 n16 n17 n18 n19 n20 n21 n22 n23 n24 n25 n26 n27 n28 n29 n30 n31 n32 n33 n34 n35 n36 n37 n38 n39 n40 n41 n42 : Int} {H0 H1 H2 H3 H4 : gH} (f0 : n0 ≤ 6) (f1 : (-1) ≤ n0) (f2 : n1 ≤ 7) (f3 : 0 ≤ n1) (f4 : n2 = 285) (f5 : n3 ≤ 7) (f6 : 0 ≤ n3) (f7 : n4 = 285) (f8 : (hLe T0 H0 H1 ∧ hFr s_270.2.2.2.2 H0 H1 ∧ hWt T0 H1) ∧ (Ab_270_34 n4 n3 n2 n1 n0 H0 H1 ∧ preb_270 n4 n3 H0) ∧ some q0 = some (mub_270_34 n4 n3 n2 n1 n0 H0 H1)) (f9 : 0 ≤ n0) (f10 : n5 = 347) (f11 : n5 = hV H1 (n2).toNat 86) (f12 : n6 ≤ 16) (f13 : 0 ≤ n6) (f14 : n6 = hV H1 (n5).toNat (n0).toNat) (f15 : n7 = 296) (f16 : n7 = hV H1 (n2).toNat 22) (f17 : n8 = 346) (f18 : n8 = hV H1 (n2).toNat 85) (f19 : n9 ≤ 62) (f20 : 0 ≤ n9) (f21 : n9 = hV H1 (n8).toNat (n0).toNat) (f22 : n10 ≤ 16) (f23 : 0 ≤ n10) (f24 : n10 = hV H1 (n7).toNat (n9).toNat) (f25 : n6 ≠ n10) (f26 : n11 = 16) (f27 : n12 = 346) (f28 : n12 = hV H1 (n2).toNat 85) (f29 : n13 ≤ 62) (f30 : 0 ≤ n13) (f31 : n13 = hV H1 (n12).toNat (n0).toNat) (f32 : n14 = w32 (n11 * n13)) (f33 : n15 = 347) (f34 : n15 = hV H1 (n2).toNat 86) (f35 : n16 ≤ 16) (f36 : 0 ≤ n16) (f37 : n16 = hV H1 (n15).toNat (n0).toNat) (f38 : n17 = w32 (n14 + n16)) (f39 : n18 = 347) (f40 : n18 = hV H1 (n2).toNat 86) (f41 : n19 ≤ 16) (f42 : 0 ≤ n19) (f43 : n19 = hV H1 (n18).toNat (n0).toNat) (f44 : n20 = 1) (f45 : n21 = w32 (n19 + n20)) (f46 : hUpd H2 H1 n18 n0 n21) (f47 : n22 = 298) (f48 : n22 = hV H2 (n2).toNat 24) (f49 : n23 ≤ 5) (f50 : 0 ≤ n23) (f51 : n23 = hV H2 (n22).toNat (n17).toNat) (f52 : n24 = 5) (f53 : n23 = n24) (f54 : n25 = 348) (f55 : n25 = hV H2 (n2).toNat 87) (f56 : n26 = 1) (f57 : n27 = w32 (n0 + n26)) (f58 : n28 = 301) (f59 : n28 = hV H2 (n2).toNat 27) (f60 : n29 ≤ 9999) (f61 : (-1) ≤ n29) (f62 : n29 = hV H2 (n28).toNat (n17).toNat) (f63 : n30 = 302) (f64 : n30 = hV H2 (n2).toNat 28) (f65 : n31 ≤ 9999) (f66 : (-9999) ≤ n31) (f67 : n31 = hV H2 (n30).toNat (n17).toNat) (f68 : n32 = 348) (f69 : n32 = hV H2 (n2).toNat 87) (f70 : n33 ≤ 1000) (f71 : (-1000) ≤ n33) (f72 : n33 = hV H2 (n32).toNat (n0).toNat) (f73 : n34 ≤ 10999) (f74 : (-10999) ≤ n34) (f75 : (hLe T0 H2 H3 ∧ hFr s_269.2.2.2.2 H2 H3 ∧ ((0 : Int) = 0 → H3.length = H2.length) ∧ hWt T0 H3) ∧ postb_269 n34 n2 n29 n31 n33 H2 H3) (f76 : hUpd H4 H3 n25 n27 n34) (f77 : n35 = 346) (f78 : n35 = hV H4 (n2).toNat 85) (f79 : n36 = 1) (f80 : n37 = w32 (n0 + n36)) (f81 : n38 = 7) (f82 : n39 = w32 (n38 * n1)) (f83 : n40 = 300) (f84 : n40 = hV H4 (n2).toNat 26) (f85 : n41 ≤ 9999) (f86 : (-1) ≤ n41) (f87 : n41 = hV H4 (n40).toNat (n17).toNat) (f88 : n42 = w32 (n39 + n41)) : 0 ≤ n37 ∧ n37 < 8 := by
  have g4 := f8.2.1.1
  unfold Ab_270_34 at g4
  have g3 := f8.2.1.2
  unfold preb_270 at g3
  unfold postb_269 at f75
  have e0 : n6 = hV H1 347 (n0).toNat := (by rw [f10] at f14; exact f14 : n6 = hV H1 347 (n0).toNat)
  have e1 : n9 = hV H1 346 (n0).toNat := (by rw [f17] at f21; exact f21 : n9 = hV H1 346 (n0).toNat)
  have e2 : hV H1 296 = hV H0 296 := fRow f8.1.2.1 296 (by decide +kernel)
  have e3 : n10 = hV H0 296 (n9).toNat := (by rw [f15] at f24; exact f24 : n10 = hV H1 296 (n9).toNat).trans ((congrFun e2 _))
  have e4 : n13 = hV H1 346 (n0).toNat := (by rw [f27] at f31; exact f31 : n13 = hV H1 346 (n0).toNat)
  have e5 : n16 = hV H1 347 (n0).toNat := (by rw [f33] at f37; exact f37 : n16 = hV H1 347 (n0).toNat)
  have e6 : n19 = hV H1 347 (n0).toNat := (by rw [f39] at f43; exact f43 : n19 = hV H1 347 (n0).toNat)
  have e7 : hV H2 298 = hV H1 298 := uRowNe f46 _ (iS (show n18 = ((347 : Nat) : Int) from f39) rfl)
  have e8 : hV H1 298 = hV H0 298 := fRow f8.1.2.1 298 (by decide +kernel)
  have e9 : n23 = hV H0 298 (n17).toNat := (by rw [f47] at f51; exact f51 : n23 = hV H2 298 (n17).toNat).trans (((congrFun e7 _)).trans ((congrFun e8 _)))
  have e10 : hV H2 301 = hV H1 301 := uRowNe f46 _ (iS (show n18 = ((347 : Nat) : Int) from f39) rfl)
  have e11 : hV H1 301 = hV H0 301 := fRow f8.1.2.1 301 (by decide +kernel)
  have e12 : n29 = hV H0 301 (n17).toNat := (by rw [f58] at f62; exact f62 : n29 = hV H2 301 (n17).toNat).trans (((congrFun e10 _)).trans ((congrFun e11 _)))
  have e13 : hV H2 302 = hV H1 302 := uRowNe f46 _ (iS (show n18 = ((347 : Nat) : Int) from f39) rfl)
  have e14 : hV H1 302 = hV H0 302 := fRow f8.1.2.1 302 (by decide +kernel)
  have e15 : n31 = hV H0 302 (n17).toNat := (by rw [f63] at f67; exact f67 : n31 = hV H2 302 (n17).toNat).trans (((congrFun e13 _)).trans ((congrFun e14 _)))
  have e16 : hV H2 348 = hV H1 348 := uRowNe f46 _ (iS (show n18 = ((347 : Nat) : Int) from f39) rfl)
  have e17 : n33 = hV H1 348 (n0).toNat := (by rw [f68] at f72; exact f72 : n33 = hV H2 348 (n0).toNat).trans ((congrFun e16 _))
  have e18 : hV H4 300 = hV H3 300 := uRowNe f76 _ (iS (show n25 = ((348 : Nat) : Int) from f54) rfl)
  have e19 : hV H3 300 = hV H2 300 := fRow f75.1.2.1 300 (by decide +kernel)
  have e20 : hV H2 300 = hV H1 300 := uRowNe f46 _ (iS (show n18 = ((347 : Nat) : Int) from f39) rfl)
  have e21 : hV H1 300 = hV H0 300 := fRow f8.1.2.1 300 (by decide +kernel)
  have e22 : n41 = hV H0 300 (n17).toNat := (by rw [f83] at f87; exact f87 : n41 = hV H4 300 (n17).toNat).trans (((congrFun e18 _)).trans (((congrFun e19 _)).trans (((congrFun e20 _)).trans ((congrFun e21 _)))))
  have e23 : hV H1 285 18 = hV H0 285 18 := f8.1.2.1.1 285 18 (by decide +kernel)
  have e24 : hV H1 285 18 = hV H0 285 18 := e23
  have e25 : hV H1 294 = hV H0 294 := fRow f8.1.2.1 294 (by decide +kernel)
  have e26 : (0 : Int) ≤ hV H1 285 18 ∧ hV H1 285 18 ≤ 8 := f8.1.2.2 285 18 _ _ (by decide +kernel)
  have e27 : (0 : Int) ≤ hV H1 285 82 ∧ hV H1 285 82 ≤ 40 := f8.1.2.2 285 82 _ _ (by decide +kernel)
  try simp only [e24, e25, e2, e8, e21] at f8
  try simp only [e24, e25, e2, e8, e21] at f75
  try simp only [e24, e25, e2, e8, e21] at e26
  try simp only [e24, e25, e2, e8, e21] at e27
  try simp only [e24, e25, e2, e8, e21] at g3
  try simp only [e24, e25, e2, e8, e21] at g4
  try simp only [e24, e25, e2, e8, e21]
  have k0 := g4.1
  have y0 := g4.2.1
  have y1 := g4.2.2.1
  have y2 := g4.2.2.2
  have p0 := g3.1
  have p1 := g3.2
  have r0_0 := f75.2
  try simp only [e24, e25, e2, e8, e21] at k0
  try simp only [e24, e25, e2, e8, e21] at y0
  try simp only [e24, e25, e2, e8, e21] at y1
  try simp only [e24, e25, e2, e8, e21] at y2
  try simp only [e24, e25, e2, e8, e21] at p0
  try simp only [e24, e25, e2, e8, e21] at p1
  try simp only [e24, e25, e2, e8, e21] at r0_0
  clear g3
  clear g4
  clear f11 f14 f16 f18 f21 f24 f28 f31 f34 f37 f40 f43 f48 f51 f55 f59 f62 f64 f67 f69 f72 f78 f84 f87 e2 e7 e8 e10 e11 e13 e14 e16 e18 e19 e20 e21 e23 e24 e25
  subst e0
  subst e1
  subst e3
  subst e4
  subst e5
  subst e6
  subst e9
  subst e12
  subst e15
  subst e17
  subst e22
  rw [f26] at f32
  rw [f81] at f82
  unfold w32 at *
  try have ca := cue_at (p1 (n3).toNat (by omega)) y0 (by omega) (by omega) (c := (16 * hV H1 346 (n0).toNat + hV H1 347 (n0).toNat)) (by omega)
  try have sh := y1 (n0).toNat (by omega)
  try have lv := y0 (n0).toNat (by omega)
  try (have ix0 : n14 = 16 * (hV H1 346 (n0).toNat) := (by omega); subst ix0)
  try (have ix1 : n17 = (16 * (hV H1 346 (n0).toNat)) + hV H1 347 (n0).toNat := (by omega); subst ix1)
  try (have ix2 : n21 = hV H1 347 (n0).toNat + 1 := (by omega); subst ix2)
  try (have ix3 : n27 = n0 + 1 := (by omega); subst ix3)
  try (have ix4 : n37 = n0 + 1 := (by omega); subst ix4)

  first
  | omega
  | (have ca := cue_at (p1 (n3).toNat (by omega)) y0 (by omega) (by omega) (c := (16 * hV H1 346 (n0).toNat + hV H1 347 (n0).toNat)) (by omega)
     omega)
  | (have ua := use_at (p1 (n3).toNat (by omega)) y0 (by omega) (by omega) (c := (16 * hV H1 346 (n0).toNat + hV H1 347 (n0).toNat)) (by omega) (by omega)
     omega)
  | (have ul := ULp_lay y2 (p1 (n3).toNat (by omega)) y0 (by omega) (by omega) (by omega) (c := (16 * hV H1 346 (n0).toNat + hV H1 347 (n0).toNat)) (by omega) (by omega)
     omega)
theorem c_270_34_11 {q0 : Nat} : vOkm T0 (eP e_270 L_270 A_270 mu_270 (some q0)) 2 ([(1, [42, 39, 41], [], 0), (22, [41, 40, 17], [4], 0), (90, [41], [], -1), (91, [41], [], 9999), (20, [40, 2], [4], 26), (0, [40], [], 300), (3, [39, 38, 3], [], 0), (0, [38], [], 7), (1, [37, 4, 36], [], 0), (0, [36], [], 1), (20, [35, 2], [4], 85), (0, [35], [], 346), (80, [25, 27, 34], [4, 3], 0), (1269, [34, 2, 29, 31, 33], [2, 3], 0), (90, [34], [], -10999), (91, [34], [], 10999), (22, [33, 32, 4], [2], 0), (90, [33], [], -1000), (91, [33], [], 1000), (20, [32, 2], [2], 87), (0, [32], [], 348), (22, [31, 30, 17], [2], 0), (90, [31], [], -9999), (91, [31], [], 9999), (20, [30, 2], [2], 28), (0, [30], [], 302), (22, [29, 28, 17], [2], 0), (90, [29], [], -1), (91, [29], [], 9999), (20, [28, 2], [2], 27), (0, [28], [], 301), (1, [27, 4, 26], [], 0), (0, [26], [], 1), (20, [25, 2], [2], 87), (0, [25], [], 348), (40, [23, 24], [], 0), (0, [24], [], 5), (22, [23, 22, 17], [2], 0), (90, [23], [], 0), (91, [23], [], 5), (20, [22, 2], [2], 24), (0, [22], [], 298), (80, [18, 4, 21], [2, 1], 0), (1, [21, 19, 20], [], 0), (0, [20], [], 1), (22, [19, 18, 4], [1], 0), (90, [19], [], 0), (91, [19], [], 16), (20, [18, 2], [1], 86), (0, [18], [], 347), (1, [17, 14, 16], [], 0), (22, [16, 15, 4], [1], 0), (90, [16], [], 0), (91, [16], [], 16), (20, [15, 2], [1], 86), (0, [15], [], 347), (3, [14, 11, 13], [], 0), (22, [13, 12, 4], [1], 0), (90, [13], [], 0), (91, [13], [], 62), (20, [12, 2], [1], 85), (0, [12], [], 346), (0, [11], [], 16), (41, [6, 10], [], 0), (22, [10, 7, 9], [1], 0), (90, [10], [], 0), (91, [10], [], 16), (22, [9, 8, 4], [1], 0), (90, [9], [], 0), (91, [9], [], 62), (20, [8, 2], [1], 85), (0, [8], [], 346), (20, [7, 2], [1], 22), (0, [7], [], 296), (22, [6, 5, 4], [1], 0), (90, [6], [], 0), (91, [6], [], 16), (20, [5, 2], [1], 86), (0, [5], [], 347), (33, [4], [], 0), (5000, [0, 1, 2, 3, 4], [0, 1], 34), (0, [0], [], 285), (90, [1], [], 0), (91, [1], [], 7), (0, [2], [], 285), (90, [3], [], 0), (91, [3], [], 7), (90, [4], [], -1), (91, [4], [], 6)], (70, [37], [], 8)) := vOk_in fun ρ η h => by
  obtain ⟨f0, f1, f2, f3, f4, f5, f6, f7, f8, f9, f10, f11, f12, f13, f14, f15, f16, f17, f18, f19, f20, f21, f22, f23, f24, f25, f26, f27, f28, f29, f30, f31, f32, f33, f34, f35, f36, f37, f38, f39, f40, f41, f42, f43, f44, f45, f46, f47, f48, f49, f50, f51, f52, f53, f54, f55, f56, f57, f58, f59, f60, f61, f62, f63, f64, f65, f66, f67, f68, f69, f70, f71, f72, f73, f74, f75, f76, f77, f78, f79, f80, f81, f82, f83, f84, f85, f86, f87, f88, _⟩ := h
  exact q_270_14 (q0 := q0) (n0 := ρ 4) (n1 := ρ 3) (n2 := ρ 2) (n3 := ρ 1) (n4 := ρ 0) (n5 := ρ 5) (n6 := ρ 6) (n7 := ρ 7) (n8 := ρ 8) (n9 := ρ 9) (n10 := ρ 10) (n11 := ρ 11) (n12 := ρ 12) (n13 := ρ 13) (n14 := ρ 14) (n15 := ρ 15) (n16 := ρ 16) (n17 := ρ 17) (n18 := ρ 18) (n19 := ρ 19) (n20 := ρ 20) (n21 := ρ 21) (n22 := ρ 22) (n23 := ρ 23) (n24 := ρ 24) (n25 := ρ 25) (n26 := ρ 26) (n27 := ρ 27) (n28 := ρ 28) (n29 := ρ 29) (n30 := ρ 30) (n31 := ρ 31) (n32 := ρ 32) (n33 := ρ 33) (n34 := ρ 34) (n35 := ρ 35) (n36 := ρ 36) (n37 := ρ 37) (n38 := ρ 38) (n39 := ρ 39) (n40 := ρ 40) (n41 := ρ 41) (n42 := ρ 42) (H0 := η 0) (H1 := η 1) (H2 := η 2) (H3 := η 3) (H4 := η 4) f88 f87 f86 f85 f84 f83 f82 f81 f80 f79 f78 f77 f76 f75 f74 f73 f72 f71 f70 f69 f68 f67 f66 f65 f64 f63 f62 f61 f60 f59 f58 f57 f56 f55 f54 f53 f52 f51 f50 f49 f48 f47 f46 f45 f44 f43 f42 f41 f40 f39 f38 f37 f36 f35 f34 f33 f32 f31 f30 f29 f28 f27 f26 f25 f24 f23 f22 f21 f20 f19 f18 f17 f16 f15 f14 f13 f12 f11 f10 f9 f8 f7 f6 f5 f4 f3 f2 f1 f0
theorem q_270_15 {q0 : Nat} {n0 n1 n2 n3 n4 n5 n6 n7 n8 n9 n10 n11 n12 n13 n14 n15 n16 n17 n18 n19 n20 n21 n22 n23 n24 n25 n26 n27 n28 n29 n30 n31 n32 n33 n34 n35 n36 n37 n38 n39 n40 n41 n42 : Int} {H0 H1 H2 H3 H4 : gH} (f0 : n0 ≤ 6) (f1 : (-1) ≤ n0) (f2 : n1 ≤ 7) (f3 : 0 ≤ n1) (f4 : n2 = 285) (f5 : n3 ≤ 7) (f6 : 0 ≤ n3) (f7 : n4 = 285) (f8 : (hLe T0 H0 H1 ∧ hFr s_270.2.2.2.2 H0 H1 ∧ hWt T0 H1) ∧ (Ab_270_34 n4 n3 n2 n1 n0 H0 H1 ∧ preb_270 n4 n3 H0) ∧ some q0 = some (mub_270_34 n4 n3 n2 n1 n0 H0 H1)) (f9 : 0 ≤ n0) (f10 : n5 = 347) (f11 : n5 = hV H1 (n2).toNat 86) (f12 : n6 ≤ 16) (f13 : 0 ≤ n6) (f14 : n6 = hV H1 (n5).toNat (n0).toNat) (f15 : n7 = 296) (f16 : n7 = hV H1 (n2).toNat 22) (f17 : n8 = 346) (f18 : n8 = hV H1 (n2).toNat 85) (f19 : n9 ≤ 62) (f20 : 0 ≤ n9) (f21 : n9 = hV H1 (n8).toNat (n0).toNat) (f22 : n10 ≤ 16) (f23 : 0 ≤ n10) (f24 : n10 = hV H1 (n7).toNat (n9).toNat) (f25 : n6 ≠ n10) (f26 : n11 = 16) (f27 : n12 = 346) (f28 : n12 = hV H1 (n2).toNat 85) (f29 : n13 ≤ 62) (f30 : 0 ≤ n13) (f31 : n13 = hV H1 (n12).toNat (n0).toNat) (f32 : n14 = w32 (n11 * n13)) (f33 : n15 = 347) (f34 : n15 = hV H1 (n2).toNat 86) (f35 : n16 ≤ 16) (f36 : 0 ≤ n16) (f37 : n16 = hV H1 (n15).toNat (n0).toNat) (f38 : n17 = w32 (n14 + n16)) (f39 : n18 = 347) (f40 : n18 = hV H1 (n2).toNat 86) (f41 : n19 ≤ 16) (f42 : 0 ≤ n19) (f43 : n19 = hV H1 (n18).toNat (n0).toNat) (f44 : n20 = 1) (f45 : n21 = w32 (n19 + n20)) (f46 : hUpd H2 H1 n18 n0 n21) (f47 : n22 = 298) (f48 : n22 = hV H2 (n2).toNat 24) (f49 : n23 ≤ 5) (f50 : 0 ≤ n23) (f51 : n23 = hV H2 (n22).toNat (n17).toNat) (f52 : n24 = 5) (f53 : n23 = n24) (f54 : n25 = 348) (f55 : n25 = hV H2 (n2).toNat 87) (f56 : n26 = 1) (f57 : n27 = w32 (n0 + n26)) (f58 : n28 = 301) (f59 : n28 = hV H2 (n2).toNat 27) (f60 : n29 ≤ 9999) (f61 : (-1) ≤ n29) (f62 : n29 = hV H2 (n28).toNat (n17).toNat) (f63 : n30 = 302) (f64 : n30 = hV H2 (n2).toNat 28) (f65 : n31 ≤ 9999) (f66 : (-9999) ≤ n31) (f67 : n31 = hV H2 (n30).toNat (n17).toNat) (f68 : n32 = 348) (f69 : n32 = hV H2 (n2).toNat 87) (f70 : n33 ≤ 1000) (f71 : (-1000) ≤ n33) (f72 : n33 = hV H2 (n32).toNat (n0).toNat) (f73 : n34 ≤ 10999) (f74 : (-10999) ≤ n34) (f75 : (hLe T0 H2 H3 ∧ hFr s_269.2.2.2.2 H2 H3 ∧ ((0 : Int) = 0 → H3.length = H2.length) ∧ hWt T0 H3) ∧ postb_269 n34 n2 n29 n31 n33 H2 H3) (f76 : hUpd H4 H3 n25 n27 n34) (f77 : n35 = 346) (f78 : n35 = hV H4 (n2).toNat 85) (f79 : n36 = 1) (f80 : n37 = w32 (n0 + n36)) (f81 : n38 = 7) (f82 : n39 = w32 (n38 * n1)) (f83 : n40 = 300) (f84 : n40 = hV H4 (n2).toNat 26) (f85 : n41 ≤ 9999) (f86 : (-1) ≤ n41) (f87 : n41 = hV H4 (n40).toNat (n17).toNat) (f88 : n42 = w32 (n39 + n41)) : 0 ≤ n42 := by
  have g4 := f8.2.1.1
  unfold Ab_270_34 at g4
  have g3 := f8.2.1.2
  unfold preb_270 at g3
  unfold postb_269 at f75
  have e0 : n6 = hV H1 347 (n0).toNat := (by rw [f10] at f14; exact f14 : n6 = hV H1 347 (n0).toNat)
  have e1 : n9 = hV H1 346 (n0).toNat := (by rw [f17] at f21; exact f21 : n9 = hV H1 346 (n0).toNat)
  have e2 : hV H1 296 = hV H0 296 := fRow f8.1.2.1 296 (by decide +kernel)
  have e3 : n10 = hV H0 296 (n9).toNat := (by rw [f15] at f24; exact f24 : n10 = hV H1 296 (n9).toNat).trans ((congrFun e2 _))
  have e4 : n13 = hV H1 346 (n0).toNat := (by rw [f27] at f31; exact f31 : n13 = hV H1 346 (n0).toNat)
  have e5 : n16 = hV H1 347 (n0).toNat := (by rw [f33] at f37; exact f37 : n16 = hV H1 347 (n0).toNat)
  have e6 : n19 = hV H1 347 (n0).toNat := (by rw [f39] at f43; exact f43 : n19 = hV H1 347 (n0).toNat)
  have e7 : hV H2 298 = hV H1 298 := uRowNe f46 _ (iS (show n18 = ((347 : Nat) : Int) from f39) rfl)
  have e8 : hV H1 298 = hV H0 298 := fRow f8.1.2.1 298 (by decide +kernel)
  have e9 : n23 = hV H0 298 (n17).toNat := (by rw [f47] at f51; exact f51 : n23 = hV H2 298 (n17).toNat).trans (((congrFun e7 _)).trans ((congrFun e8 _)))
  have e10 : hV H2 301 = hV H1 301 := uRowNe f46 _ (iS (show n18 = ((347 : Nat) : Int) from f39) rfl)
  have e11 : hV H1 301 = hV H0 301 := fRow f8.1.2.1 301 (by decide +kernel)
  have e12 : n29 = hV H0 301 (n17).toNat := (by rw [f58] at f62; exact f62 : n29 = hV H2 301 (n17).toNat).trans (((congrFun e10 _)).trans ((congrFun e11 _)))
  have e13 : hV H2 302 = hV H1 302 := uRowNe f46 _ (iS (show n18 = ((347 : Nat) : Int) from f39) rfl)
  have e14 : hV H1 302 = hV H0 302 := fRow f8.1.2.1 302 (by decide +kernel)
  have e15 : n31 = hV H0 302 (n17).toNat := (by rw [f63] at f67; exact f67 : n31 = hV H2 302 (n17).toNat).trans (((congrFun e13 _)).trans ((congrFun e14 _)))
  have e16 : hV H2 348 = hV H1 348 := uRowNe f46 _ (iS (show n18 = ((347 : Nat) : Int) from f39) rfl)
  have e17 : n33 = hV H1 348 (n0).toNat := (by rw [f68] at f72; exact f72 : n33 = hV H2 348 (n0).toNat).trans ((congrFun e16 _))
  have e18 : hV H4 300 = hV H3 300 := uRowNe f76 _ (iS (show n25 = ((348 : Nat) : Int) from f54) rfl)
  have e19 : hV H3 300 = hV H2 300 := fRow f75.1.2.1 300 (by decide +kernel)
  have e20 : hV H2 300 = hV H1 300 := uRowNe f46 _ (iS (show n18 = ((347 : Nat) : Int) from f39) rfl)
  have e21 : hV H1 300 = hV H0 300 := fRow f8.1.2.1 300 (by decide +kernel)
  have e22 : n41 = hV H0 300 (n17).toNat := (by rw [f83] at f87; exact f87 : n41 = hV H4 300 (n17).toNat).trans (((congrFun e18 _)).trans (((congrFun e19 _)).trans (((congrFun e20 _)).trans ((congrFun e21 _)))))
  have e23 : hV H1 285 18 = hV H0 285 18 := f8.1.2.1.1 285 18 (by decide +kernel)
  have e24 : hV H1 285 18 = hV H0 285 18 := e23
  have e25 : hV H1 294 = hV H0 294 := fRow f8.1.2.1 294 (by decide +kernel)
  have e26 : (0 : Int) ≤ hV H1 285 18 ∧ hV H1 285 18 ≤ 8 := f8.1.2.2 285 18 _ _ (by decide +kernel)
  have e27 : (0 : Int) ≤ hV H1 285 82 ∧ hV H1 285 82 ≤ 40 := f8.1.2.2 285 82 _ _ (by decide +kernel)
  try simp only [e24, e25, e2, e8, e21] at f8
  try simp only [e24, e25, e2, e8, e21] at f75
  try simp only [e24, e25, e2, e8, e21] at e26
  try simp only [e24, e25, e2, e8, e21] at e27
  try simp only [e24, e25, e2, e8, e21] at g3
  try simp only [e24, e25, e2, e8, e21] at g4
  try simp only [e24, e25, e2, e8, e21]
  have k0 := g4.1
  have y0 := g4.2.1
  have y1 := g4.2.2.1
  have y2 := g4.2.2.2
  have p0 := g3.1
  have p1 := g3.2
  have r0_0 := f75.2
  try simp only [e24, e25, e2, e8, e21] at k0
  try simp only [e24, e25, e2, e8, e21] at y0
  try simp only [e24, e25, e2, e8, e21] at y1
  try simp only [e24, e25, e2, e8, e21] at y2
  try simp only [e24, e25, e2, e8, e21] at p0
  try simp only [e24, e25, e2, e8, e21] at p1
  try simp only [e24, e25, e2, e8, e21] at r0_0
  clear g3
  clear g4
  clear f11 f14 f16 f18 f21 f24 f28 f31 f34 f37 f40 f43 f48 f51 f55 f59 f62 f64 f67 f69 f72 f78 f84 f87 e2 e7 e8 e10 e11 e13 e14 e16 e18 e19 e20 e21 e23 e24 e25
  subst e0
  subst e1
  subst e3
  subst e4
  subst e5
  subst e6
  subst e9
  subst e12
  subst e15
  subst e17
  subst e22
  rw [f26] at f32
  rw [f81] at f82
  unfold w32 at *
  try have ca := cue_at (p1 (n3).toNat (by omega)) y0 (by omega) (by omega) (c := (16 * hV H1 346 (n0).toNat + hV H1 347 (n0).toNat)) (by omega)
  try have sh := y1 (n0).toNat (by omega)
  try have lv := y0 (n0).toNat (by omega)
  try (have ix0 : n14 = 16 * (hV H1 346 (n0).toNat) := (by omega); subst ix0)
  try (have ix1 : n17 = (16 * (hV H1 346 (n0).toNat)) + hV H1 347 (n0).toNat := (by omega); subst ix1)
  try (have ix2 : n21 = hV H1 347 (n0).toNat + 1 := (by omega); subst ix2)
  try (have ix3 : n27 = n0 + 1 := (by omega); subst ix3)
  try (have ix4 : n39 = 7 * n1 := (by omega); subst ix4)
  try (have ix5 : n42 = (7 * n1) + hV H0 300 (((16 * (hV H1 346 (n0).toNat)) + hV H1 347 (n0).toNat)).toNat := (by omega); subst ix5)

  first
  | omega
  | (have ca := cue_at (p1 (n3).toNat (by omega)) y0 (by omega) (by omega) (c := (16 * hV H1 346 (n0).toNat + hV H1 347 (n0).toNat)) (by omega)
     omega)
  | (have ua := use_at (p1 (n3).toNat (by omega)) y0 (by omega) (by omega) (c := (16 * hV H1 346 (n0).toNat + hV H1 347 (n0).toNat)) (by omega) (by omega)
     omega)
  | (have ul := ULp_lay y2 (p1 (n3).toNat (by omega)) y0 (by omega) (by omega) (by omega) (c := (16 * hV H1 346 (n0).toNat + hV H1 347 (n0).toNat)) (by omega) (by omega)
     omega)
theorem c_270_34_12 {q0 : Nat} : vOkm T0 (eP e_270 L_270 A_270 mu_270 (some q0)) 2 ([(1, [42, 39, 41], [], 0), (22, [41, 40, 17], [4], 0), (90, [41], [], -1), (91, [41], [], 9999), (20, [40, 2], [4], 26), (0, [40], [], 300), (3, [39, 38, 3], [], 0), (0, [38], [], 7), (1, [37, 4, 36], [], 0), (0, [36], [], 1), (20, [35, 2], [4], 85), (0, [35], [], 346), (80, [25, 27, 34], [4, 3], 0), (1269, [34, 2, 29, 31, 33], [2, 3], 0), (90, [34], [], -10999), (91, [34], [], 10999), (22, [33, 32, 4], [2], 0), (90, [33], [], -1000), (91, [33], [], 1000), (20, [32, 2], [2], 87), (0, [32], [], 348), (22, [31, 30, 17], [2], 0), (90, [31], [], -9999), (91, [31], [], 9999), (20, [30, 2], [2], 28), (0, [30], [], 302), (22, [29, 28, 17], [2], 0), (90, [29], [], -1), (91, [29], [], 9999), (20, [28, 2], [2], 27), (0, [28], [], 301), (1, [27, 4, 26], [], 0), (0, [26], [], 1), (20, [25, 2], [2], 87), (0, [25], [], 348), (40, [23, 24], [], 0), (0, [24], [], 5), (22, [23, 22, 17], [2], 0), (90, [23], [], 0), (91, [23], [], 5), (20, [22, 2], [2], 24), (0, [22], [], 298), (80, [18, 4, 21], [2, 1], 0), (1, [21, 19, 20], [], 0), (0, [20], [], 1), (22, [19, 18, 4], [1], 0), (90, [19], [], 0), (91, [19], [], 16), (20, [18, 2], [1], 86), (0, [18], [], 347), (1, [17, 14, 16], [], 0), (22, [16, 15, 4], [1], 0), (90, [16], [], 0), (91, [16], [], 16), (20, [15, 2], [1], 86), (0, [15], [], 347), (3, [14, 11, 13], [], 0), (22, [13, 12, 4], [1], 0), (90, [13], [], 0), (91, [13], [], 62), (20, [12, 2], [1], 85), (0, [12], [], 346), (0, [11], [], 16), (41, [6, 10], [], 0), (22, [10, 7, 9], [1], 0), (90, [10], [], 0), (91, [10], [], 16), (22, [9, 8, 4], [1], 0), (90, [9], [], 0), (91, [9], [], 62), (20, [8, 2], [1], 85), (0, [8], [], 346), (20, [7, 2], [1], 22), (0, [7], [], 296), (22, [6, 5, 4], [1], 0), (90, [6], [], 0), (91, [6], [], 16), (20, [5, 2], [1], 86), (0, [5], [], 347), (33, [4], [], 0), (5000, [0, 1, 2, 3, 4], [0, 1], 34), (0, [0], [], 285), (90, [1], [], 0), (91, [1], [], 7), (0, [2], [], 285), (90, [3], [], 0), (91, [3], [], 7), (90, [4], [], -1), (91, [4], [], 6)], (90, [42], [], 0)) := vOk_in fun ρ η h => by
  obtain ⟨f0, f1, f2, f3, f4, f5, f6, f7, f8, f9, f10, f11, f12, f13, f14, f15, f16, f17, f18, f19, f20, f21, f22, f23, f24, f25, f26, f27, f28, f29, f30, f31, f32, f33, f34, f35, f36, f37, f38, f39, f40, f41, f42, f43, f44, f45, f46, f47, f48, f49, f50, f51, f52, f53, f54, f55, f56, f57, f58, f59, f60, f61, f62, f63, f64, f65, f66, f67, f68, f69, f70, f71, f72, f73, f74, f75, f76, f77, f78, f79, f80, f81, f82, f83, f84, f85, f86, f87, f88, _⟩ := h
  exact q_270_15 (q0 := q0) (n0 := ρ 4) (n1 := ρ 3) (n2 := ρ 2) (n3 := ρ 1) (n4 := ρ 0) (n5 := ρ 5) (n6 := ρ 6) (n7 := ρ 7) (n8 := ρ 8) (n9 := ρ 9) (n10 := ρ 10) (n11 := ρ 11) (n12 := ρ 12) (n13 := ρ 13) (n14 := ρ 14) (n15 := ρ 15) (n16 := ρ 16) (n17 := ρ 17) (n18 := ρ 18) (n19 := ρ 19) (n20 := ρ 20) (n21 := ρ 21) (n22 := ρ 22) (n23 := ρ 23) (n24 := ρ 24) (n25 := ρ 25) (n26 := ρ 26) (n27 := ρ 27) (n28 := ρ 28) (n29 := ρ 29) (n30 := ρ 30) (n31 := ρ 31) (n32 := ρ 32) (n33 := ρ 33) (n34 := ρ 34) (n35 := ρ 35) (n36 := ρ 36) (n37 := ρ 37) (n38 := ρ 38) (n39 := ρ 39) (n40 := ρ 40) (n41 := ρ 41) (n42 := ρ 42) (H0 := η 0) (H1 := η 1) (H2 := η 2) (H3 := η 3) (H4 := η 4) f88 f87 f86 f85 f84 f83 f82 f81 f80 f79 f78 f77 f76 f75 f74 f73 f72 f71 f70 f69 f68 f67 f66 f65 f64 f63 f62 f61 f60 f59 f58 f57 f56 f55 f54 f53 f52 f51 f50 f49 f48 f47 f46 f45 f44 f43 f42 f41 f40 f39 f38 f37 f36 f35 f34 f33 f32 f31 f30 f29 f28 f27 f26 f25 f24 f23 f22 f21 f20 f19 f18 f17 f16 f15 f14 f13 f12 f11 f10 f9 f8 f7 f6 f5 f4 f3 f2 f1 f0
theorem q_270_16 {q0 : Nat} {n0 n1 n2 n3 n4 n5 n6 n7 n8 n9 n10 n11 n12 n13 n14 n15 n16 n17 n18 n19 n20 n21 n22 n23 n24 n25 n26 n27 n28 n29 n30 n31 n32 n33 n34 n35 n36 n37 n38 n39 n40 n41 n42 : Int} {H0 H1 H2 H3 H4 : gH} (f0 : n0 ≤ 6) (f1 : (-1) ≤ n0) (f2 : n1 ≤ 7) (f3 : 0 ≤ n1) (f4 : n2 = 285) (f5 : n3 ≤ 7) (f6 : 0 ≤ n3) (f7 : n4 = 285) (f8 : (hLe T0 H0 H1 ∧ hFr s_270.2.2.2.2 H0 H1 ∧ hWt T0 H1) ∧ (Ab_270_34 n4 n3 n2 n1 n0 H0 H1 ∧ preb_270 n4 n3 H0) ∧ some q0 = some (mub_270_34 n4 n3 n2 n1 n0 H0 H1)) (f9 : 0 ≤ n0) (f10 : n5 = 347) (f11 : n5 = hV H1 (n2).toNat 86) (f12 : n6 ≤ 16) (f13 : 0 ≤ n6) (f14 : n6 = hV H1 (n5).toNat (n0).toNat) (f15 : n7 = 296) (f16 : n7 = hV H1 (n2).toNat 22) (f17 : n8 = 346) (f18 : n8 = hV H1 (n2).toNat 85) (f19 : n9 ≤ 62) (f20 : 0 ≤ n9) (f21 : n9 = hV H1 (n8).toNat (n0).toNat) (f22 : n10 ≤ 16) (f23 : 0 ≤ n10) (f24 : n10 = hV H1 (n7).toNat (n9).toNat) (f25 : n6 ≠ n10) (f26 : n11 = 16) (f27 : n12 = 346) (f28 : n12 = hV H1 (n2).toNat 85) (f29 : n13 ≤ 62) (f30 : 0 ≤ n13) (f31 : n13 = hV H1 (n12).toNat (n0).toNat) (f32 : n14 = w32 (n11 * n13)) (f33 : n15 = 347) (f34 : n15 = hV H1 (n2).toNat 86) (f35 : n16 ≤ 16) (f36 : 0 ≤ n16) (f37 : n16 = hV H1 (n15).toNat (n0).toNat) (f38 : n17 = w32 (n14 + n16)) (f39 : n18 = 347) (f40 : n18 = hV H1 (n2).toNat 86) (f41 : n19 ≤ 16) (f42 : 0 ≤ n19) (f43 : n19 = hV H1 (n18).toNat (n0).toNat) (f44 : n20 = 1) (f45 : n21 = w32 (n19 + n20)) (f46 : hUpd H2 H1 n18 n0 n21) (f47 : n22 = 298) (f48 : n22 = hV H2 (n2).toNat 24) (f49 : n23 ≤ 5) (f50 : 0 ≤ n23) (f51 : n23 = hV H2 (n22).toNat (n17).toNat) (f52 : n24 = 5) (f53 : n23 = n24) (f54 : n25 = 348) (f55 : n25 = hV H2 (n2).toNat 87) (f56 : n26 = 1) (f57 : n27 = w32 (n0 + n26)) (f58 : n28 = 301) (f59 : n28 = hV H2 (n2).toNat 27) (f60 : n29 ≤ 9999) (f61 : (-1) ≤ n29) (f62 : n29 = hV H2 (n28).toNat (n17).toNat) (f63 : n30 = 302) (f64 : n30 = hV H2 (n2).toNat 28) (f65 : n31 ≤ 9999) (f66 : (-9999) ≤ n31) (f67 : n31 = hV H2 (n30).toNat (n17).toNat) (f68 : n32 = 348) (f69 : n32 = hV H2 (n2).toNat 87) (f70 : n33 ≤ 1000) (f71 : (-1000) ≤ n33) (f72 : n33 = hV H2 (n32).toNat (n0).toNat) (f73 : n34 ≤ 10999) (f74 : (-10999) ≤ n34) (f75 : (hLe T0 H2 H3 ∧ hFr s_269.2.2.2.2 H2 H3 ∧ ((0 : Int) = 0 → H3.length = H2.length) ∧ hWt T0 H3) ∧ postb_269 n34 n2 n29 n31 n33 H2 H3) (f76 : hUpd H4 H3 n25 n27 n34) (f77 : n35 = 346) (f78 : n35 = hV H4 (n2).toNat 85) (f79 : n36 = 1) (f80 : n37 = w32 (n0 + n36)) (f81 : n38 = 7) (f82 : n39 = w32 (n38 * n1)) (f83 : n40 = 300) (f84 : n40 = hV H4 (n2).toNat 26) (f85 : n41 ≤ 9999) (f86 : (-1) ≤ n41) (f87 : n41 = hV H4 (n40).toNat (n17).toNat) (f88 : n42 = w32 (n39 + n41)) : n42 ≤ 62 := by
  have g4 := f8.2.1.1
  unfold Ab_270_34 at g4
  have g3 := f8.2.1.2
  unfold preb_270 at g3
  unfold postb_269 at f75
  have e0 : n6 = hV H1 347 (n0).toNat := (by rw [f10] at f14; exact f14 : n6 = hV H1 347 (n0).toNat)
  have e1 : n9 = hV H1 346 (n0).toNat := (by rw [f17] at f21; exact f21 : n9 = hV H1 346 (n0).toNat)
  have e2 : hV H1 296 = hV H0 296 := fRow f8.1.2.1 296 (by decide +kernel)
  have e3 : n10 = hV H0 296 (n9).toNat := (by rw [f15] at f24; exact f24 : n10 = hV H1 296 (n9).toNat).trans ((congrFun e2 _))
  have e4 : n13 = hV H1 346 (n0).toNat := (by rw [f27] at f31; exact f31 : n13 = hV H1 346 (n0).toNat)
  have e5 : n16 = hV H1 347 (n0).toNat := (by rw [f33] at f37; exact f37 : n16 = hV H1 347 (n0).toNat)
  have e6 : n19 = hV H1 347 (n0).toNat := (by rw [f39] at f43; exact f43 : n19 = hV H1 347 (n0).toNat)
  have e7 : hV H2 298 = hV H1 298 := uRowNe f46 _ (iS (show n18 = ((347 : Nat) : Int) from f39) rfl)
  have e8 : hV H1 298 = hV H0 298 := fRow f8.1.2.1 298 (by decide +kernel)
  have e9 : n23 = hV H0 298 (n17).toNat := (by rw [f47] at f51; exact f51 : n23 = hV H2 298 (n17).toNat).trans (((congrFun e7 _)).trans ((congrFun e8 _)))
  have e10 : hV H2 301 = hV H1 301 := uRowNe f46 _ (iS (show n18 = ((347 : Nat) : Int) from f39) rfl)
  have e11 : hV H1 301 = hV H0 301 := fRow f8.1.2.1 301 (by decide +kernel)
  have e12 : n29 = hV H0 301 (n17).toNat := (by rw [f58] at f62; exact f62 : n29 = hV H2 301 (n17).toNat).trans (((congrFun e10 _)).trans ((congrFun e11 _)))
  have e13 : hV H2 302 = hV H1 302 := uRowNe f46 _ (iS (show n18 = ((347 : Nat) : Int) from f39) rfl)
  have e14 : hV H1 302 = hV H0 302 := fRow f8.1.2.1 302 (by decide +kernel)
  have e15 : n31 = hV H0 302 (n17).toNat := (by rw [f63] at f67; exact f67 : n31 = hV H2 302 (n17).toNat).trans (((congrFun e13 _)).trans ((congrFun e14 _)))
  have e16 : hV H2 348 = hV H1 348 := uRowNe f46 _ (iS (show n18 = ((347 : Nat) : Int) from f39) rfl)
  have e17 : n33 = hV H1 348 (n0).toNat := (by rw [f68] at f72; exact f72 : n33 = hV H2 348 (n0).toNat).trans ((congrFun e16 _))
  have e18 : hV H4 300 = hV H3 300 := uRowNe f76 _ (iS (show n25 = ((348 : Nat) : Int) from f54) rfl)
  have e19 : hV H3 300 = hV H2 300 := fRow f75.1.2.1 300 (by decide +kernel)
  have e20 : hV H2 300 = hV H1 300 := uRowNe f46 _ (iS (show n18 = ((347 : Nat) : Int) from f39) rfl)
  have e21 : hV H1 300 = hV H0 300 := fRow f8.1.2.1 300 (by decide +kernel)
  have e22 : n41 = hV H0 300 (n17).toNat := (by rw [f83] at f87; exact f87 : n41 = hV H4 300 (n17).toNat).trans (((congrFun e18 _)).trans (((congrFun e19 _)).trans (((congrFun e20 _)).trans ((congrFun e21 _)))))
  have e23 : hV H1 285 18 = hV H0 285 18 := f8.1.2.1.1 285 18 (by decide +kernel)
  have e24 : hV H1 285 18 = hV H0 285 18 := e23
  have e25 : hV H1 294 = hV H0 294 := fRow f8.1.2.1 294 (by decide +kernel)
  have e26 : (0 : Int) ≤ hV H1 285 18 ∧ hV H1 285 18 ≤ 8 := f8.1.2.2 285 18 _ _ (by decide +kernel)
  have e27 : (0 : Int) ≤ hV H1 285 82 ∧ hV H1 285 82 ≤ 40 := f8.1.2.2 285 82 _ _ (by decide +kernel)
  try simp only [e24, e25, e2, e8, e21] at f8
  try simp only [e24, e25, e2, e8, e21] at f75
  try simp only [e24, e25, e2, e8, e21] at e26
  try simp only [e24, e25, e2, e8, e21] at e27
  try simp only [e24, e25, e2, e8, e21] at g3
  try simp only [e24, e25, e2, e8, e21] at g4
  try simp only [e24, e25, e2, e8, e21]
  have k0 := g4.1
  have y0 := g4.2.1
  have y1 := g4.2.2.1
  have y2 := g4.2.2.2
  have p0 := g3.1
  have p1 := g3.2
  have r0_0 := f75.2
  try simp only [e24, e25, e2, e8, e21] at k0
  try simp only [e24, e25, e2, e8, e21] at y0
  try simp only [e24, e25, e2, e8, e21] at y1
  try simp only [e24, e25, e2, e8, e21] at y2
  try simp only [e24, e25, e2, e8, e21] at p0
  try simp only [e24, e25, e2, e8, e21] at p1
  try simp only [e24, e25, e2, e8, e21] at r0_0
  clear g3
  clear g4
  clear f11 f14 f16 f18 f21 f24 f28 f31 f34 f37 f40 f43 f48 f51 f55 f59 f62 f64 f67 f69 f72 f78 f84 f87 e2 e7 e8 e10 e11 e13 e14 e16 e18 e19 e20 e21 e23 e24 e25
  subst e0
  subst e1
  subst e3
  subst e4
  subst e5
  subst e6
  subst e9
  subst e12
  subst e15
  subst e17
  subst e22
  rw [f26] at f32
  rw [f81] at f82
  unfold w32 at *
  try have ca := cue_at (p1 (n3).toNat (by omega)) y0 (by omega) (by omega) (c := (16 * hV H1 346 (n0).toNat + hV H1 347 (n0).toNat)) (by omega)
  try have sh := y1 (n0).toNat (by omega)
  try have lv := y0 (n0).toNat (by omega)
  try (have ix0 : n14 = 16 * (hV H1 346 (n0).toNat) := (by omega); subst ix0)
  try (have ix1 : n17 = (16 * (hV H1 346 (n0).toNat)) + hV H1 347 (n0).toNat := (by omega); subst ix1)
  try (have ix2 : n21 = hV H1 347 (n0).toNat + 1 := (by omega); subst ix2)
  try (have ix3 : n27 = n0 + 1 := (by omega); subst ix3)
  try (have ix4 : n39 = 7 * n1 := (by omega); subst ix4)
  try (have ix5 : n42 = (7 * n1) + hV H0 300 (((16 * (hV H1 346 (n0).toNat)) + hV H1 347 (n0).toNat)).toNat := (by omega); subst ix5)

  first
  | omega
  | (have ca := cue_at (p1 (n3).toNat (by omega)) y0 (by omega) (by omega) (c := (16 * hV H1 346 (n0).toNat + hV H1 347 (n0).toNat)) (by omega)
     omega)
  | (have ua := use_at (p1 (n3).toNat (by omega)) y0 (by omega) (by omega) (c := (16 * hV H1 346 (n0).toNat + hV H1 347 (n0).toNat)) (by omega) (by omega)
     omega)
  | (have ul := ULp_lay y2 (p1 (n3).toNat (by omega)) y0 (by omega) (by omega) (by omega) (c := (16 * hV H1 346 (n0).toNat + hV H1 347 (n0).toNat)) (by omega) (by omega)
     omega)
theorem c_270_34_13 {q0 : Nat} : vOkm T0 (eP e_270 L_270 A_270 mu_270 (some q0)) 2 ([(1, [42, 39, 41], [], 0), (22, [41, 40, 17], [4], 0), (90, [41], [], -1), (91, [41], [], 9999), (20, [40, 2], [4], 26), (0, [40], [], 300), (3, [39, 38, 3], [], 0), (0, [38], [], 7), (1, [37, 4, 36], [], 0), (0, [36], [], 1), (20, [35, 2], [4], 85), (0, [35], [], 346), (80, [25, 27, 34], [4, 3], 0), (1269, [34, 2, 29, 31, 33], [2, 3], 0), (90, [34], [], -10999), (91, [34], [], 10999), (22, [33, 32, 4], [2], 0), (90, [33], [], -1000), (91, [33], [], 1000), (20, [32, 2], [2], 87), (0, [32], [], 348), (22, [31, 30, 17], [2], 0), (90, [31], [], -9999), (91, [31], [], 9999), (20, [30, 2], [2], 28), (0, [30], [], 302), (22, [29, 28, 17], [2], 0), (90, [29], [], -1), (91, [29], [], 9999), (20, [28, 2], [2], 27), (0, [28], [], 301), (1, [27, 4, 26], [], 0), (0, [26], [], 1), (20, [25, 2], [2], 87), (0, [25], [], 348), (40, [23, 24], [], 0), (0, [24], [], 5), (22, [23, 22, 17], [2], 0), (90, [23], [], 0), (91, [23], [], 5), (20, [22, 2], [2], 24), (0, [22], [], 298), (80, [18, 4, 21], [2, 1], 0), (1, [21, 19, 20], [], 0), (0, [20], [], 1), (22, [19, 18, 4], [1], 0), (90, [19], [], 0), (91, [19], [], 16), (20, [18, 2], [1], 86), (0, [18], [], 347), (1, [17, 14, 16], [], 0), (22, [16, 15, 4], [1], 0), (90, [16], [], 0), (91, [16], [], 16), (20, [15, 2], [1], 86), (0, [15], [], 347), (3, [14, 11, 13], [], 0), (22, [13, 12, 4], [1], 0), (90, [13], [], 0), (91, [13], [], 62), (20, [12, 2], [1], 85), (0, [12], [], 346), (0, [11], [], 16), (41, [6, 10], [], 0), (22, [10, 7, 9], [1], 0), (90, [10], [], 0), (91, [10], [], 16), (22, [9, 8, 4], [1], 0), (90, [9], [], 0), (91, [9], [], 62), (20, [8, 2], [1], 85), (0, [8], [], 346), (20, [7, 2], [1], 22), (0, [7], [], 296), (22, [6, 5, 4], [1], 0), (90, [6], [], 0), (91, [6], [], 16), (20, [5, 2], [1], 86), (0, [5], [], 347), (33, [4], [], 0), (5000, [0, 1, 2, 3, 4], [0, 1], 34), (0, [0], [], 285), (90, [1], [], 0), (91, [1], [], 7), (0, [2], [], 285), (90, [3], [], 0), (91, [3], [], 7), (90, [4], [], -1), (91, [4], [], 6)], (91, [42], [], 62)) := vOk_in fun ρ η h => by
  obtain ⟨f0, f1, f2, f3, f4, f5, f6, f7, f8, f9, f10, f11, f12, f13, f14, f15, f16, f17, f18, f19, f20, f21, f22, f23, f24, f25, f26, f27, f28, f29, f30, f31, f32, f33, f34, f35, f36, f37, f38, f39, f40, f41, f42, f43, f44, f45, f46, f47, f48, f49, f50, f51, f52, f53, f54, f55, f56, f57, f58, f59, f60, f61, f62, f63, f64, f65, f66, f67, f68, f69, f70, f71, f72, f73, f74, f75, f76, f77, f78, f79, f80, f81, f82, f83, f84, f85, f86, f87, f88, _⟩ := h
  exact q_270_16 (q0 := q0) (n0 := ρ 4) (n1 := ρ 3) (n2 := ρ 2) (n3 := ρ 1) (n4 := ρ 0) (n5 := ρ 5) (n6 := ρ 6) (n7 := ρ 7) (n8 := ρ 8) (n9 := ρ 9) (n10 := ρ 10) (n11 := ρ 11) (n12 := ρ 12) (n13 := ρ 13) (n14 := ρ 14) (n15 := ρ 15) (n16 := ρ 16) (n17 := ρ 17) (n18 := ρ 18) (n19 := ρ 19) (n20 := ρ 20) (n21 := ρ 21) (n22 := ρ 22) (n23 := ρ 23) (n24 := ρ 24) (n25 := ρ 25) (n26 := ρ 26) (n27 := ρ 27) (n28 := ρ 28) (n29 := ρ 29) (n30 := ρ 30) (n31 := ρ 31) (n32 := ρ 32) (n33 := ρ 33) (n34 := ρ 34) (n35 := ρ 35) (n36 := ρ 36) (n37 := ρ 37) (n38 := ρ 38) (n39 := ρ 39) (n40 := ρ 40) (n41 := ρ 41) (n42 := ρ 42) (H0 := η 0) (H1 := η 1) (H2 := η 2) (H3 := η 3) (H4 := η 4) f88 f87 f86 f85 f84 f83 f82 f81 f80 f79 f78 f77 f76 f75 f74 f73 f72 f71 f70 f69 f68 f67 f66 f65 f64 f63 f62 f61 f60 f59 f58 f57 f56 f55 f54 f53 f52 f51 f50 f49 f48 f47 f46 f45 f44 f43 f42 f41 f40 f39 f38 f37 f36 f35 f34 f33 f32 f31 f30 f29 f28 f27 f26 f25 f24 f23 f22 f21 f20 f19 f18 f17 f16 f15 f14 f13 f12 f11 f10 f9 f8 f7 f6 f5 f4 f3 f2 f1 f0
theorem q_270_17 {q0 : Nat} {n0 n1 n2 n3 n4 n5 n6 n7 n8 n9 n10 n11 n12 n13 n14 n15 n16 n17 n18 n19 n20 n21 n22 n23 n24 n25 n26 n27 n28 n29 n30 n31 n32 n33 n34 n35 n36 n37 n38 n39 n40 n41 n42 n43 n44 n45 : Int} {H0 H1 H2 H3 H4 H5 : gH} (f0 : n0 ≤ 6) (f1 : (-1) ≤ n0) (f2 : n1 ≤ 7) (f3 : 0 ≤ n1) (f4 : n2 = 285) (f5 : n3 ≤ 7) (f6 : 0 ≤ n3) (f7 : n4 = 285) (f8 : (hLe T0 H0 H1 ∧ hFr s_270.2.2.2.2 H0 H1 ∧ hWt T0 H1) ∧ (Ab_270_34 n4 n3 n2 n1 n0 H0 H1 ∧ preb_270 n4 n3 H0) ∧ some q0 = some (mub_270_34 n4 n3 n2 n1 n0 H0 H1)) (f9 : 0 ≤ n0) (f10 : n5 = 347) (f11 : n5 = hV H1 (n2).toNat 86) (f12 : n6 ≤ 16) (f13 : 0 ≤ n6) (f14 : n6 = hV H1 (n5).toNat (n0).toNat) (f15 : n7 = 296) (f16 : n7 = hV H1 (n2).toNat 22) (f17 : n8 = 346) (f18 : n8 = hV H1 (n2).toNat 85) (f19 : n9 ≤ 62) (f20 : 0 ≤ n9) (f21 : n9 = hV H1 (n8).toNat (n0).toNat) (f22 : n10 ≤ 16) (f23 : 0 ≤ n10) (f24 : n10 = hV H1 (n7).toNat (n9).toNat) (f25 : n6 ≠ n10) (f26 : n11 = 16) (f27 : n12 = 346) (f28 : n12 = hV H1 (n2).toNat 85) (f29 : n13 ≤ 62) (f30 : 0 ≤ n13) (f31 : n13 = hV H1 (n12).toNat (n0).toNat) (f32 : n14 = w32 (n11 * n13)) (f33 : n15 = 347) (f34 : n15 = hV H1 (n2).toNat 86) (f35 : n16 ≤ 16) (f36 : 0 ≤ n16) (f37 : n16 = hV H1 (n15).toNat (n0).toNat) (f38 : n17 = w32 (n14 + n16)) (f39 : n18 = 347) (f40 : n18 = hV H1 (n2).toNat 86) (f41 : n19 ≤ 16) (f42 : 0 ≤ n19) (f43 : n19 = hV H1 (n18).toNat (n0).toNat) (f44 : n20 = 1) (f45 : n21 = w32 (n19 + n20)) (f46 : hUpd H2 H1 n18 n0 n21) (f47 : n22 = 298) (f48 : n22 = hV H2 (n2).toNat 24) (f49 : n23 ≤ 5) (f50 : 0 ≤ n23) (f51 : n23 = hV H2 (n22).toNat (n17).toNat) (f52 : n24 = 5) (f53 : n23 = n24) (f54 : n25 = 348) (f55 : n25 = hV H2 (n2).toNat 87) (f56 : n26 = 1) (f57 : n27 = w32 (n0 + n26)) (f58 : n28 = 301) (f59 : n28 = hV H2 (n2).toNat 27) (f60 : n29 ≤ 9999) (f61 : (-1) ≤ n29) (f62 : n29 = hV H2 (n28).toNat (n17).toNat) (f63 : n30 = 302) (f64 : n30 = hV H2 (n2).toNat 28) (f65 : n31 ≤ 9999) (f66 : (-9999) ≤ n31) (f67 : n31 = hV H2 (n30).toNat (n17).toNat) (f68 : n32 = 348) (f69 : n32 = hV H2 (n2).toNat 87) (f70 : n33 ≤ 1000) (f71 : (-1000) ≤ n33) (f72 : n33 = hV H2 (n32).toNat (n0).toNat) (f73 : n34 ≤ 10999) (f74 : (-10999) ≤ n34) (f75 : (hLe T0 H2 H3 ∧ hFr s_269.2.2.2.2 H2 H3 ∧ ((0 : Int) = 0 → H3.length = H2.length) ∧ hWt T0 H3) ∧ postb_269 n34 n2 n29 n31 n33 H2 H3) (f76 : hUpd H4 H3 n25 n27 n34) (f77 : n35 = 346) (f78 : n35 = hV H4 (n2).toNat 85) (f79 : n36 = 1) (f80 : n37 = w32 (n0 + n36)) (f81 : n38 = 7) (f82 : n39 = w32 (n38 * n1)) (f83 : n40 = 300) (f84 : n40 = hV H4 (n2).toNat 26) (f85 : n41 ≤ 9999) (f86 : (-1) ≤ n41) (f87 : n41 = hV H4 (n40).toNat (n17).toNat) (f88 : n42 = w32 (n39 + n41)) (f89 : hUpd H5 H4 n35 n37 n42) (f90 : n43 = 347) (f91 : n43 = hV H5 (n2).toNat 86) (f92 : n44 = 1) (f93 : n45 = w32 (n0 + n44)) : 0 ≤ n45 ∧ n45 < 8 := by
  have g4 := f8.2.1.1
  unfold Ab_270_34 at g4
  have g3 := f8.2.1.2
  unfold preb_270 at g3
  unfold postb_269 at f75
  have e0 : n6 = hV H1 347 (n0).toNat := (by rw [f10] at f14; exact f14 : n6 = hV H1 347 (n0).toNat)
  have e1 : n9 = hV H1 346 (n0).toNat := (by rw [f17] at f21; exact f21 : n9 = hV H1 346 (n0).toNat)
  have e2 : hV H1 296 = hV H0 296 := fRow f8.1.2.1 296 (by decide +kernel)
  have e3 : n10 = hV H0 296 (n9).toNat := (by rw [f15] at f24; exact f24 : n10 = hV H1 296 (n9).toNat).trans ((congrFun e2 _))
  have e4 : n13 = hV H1 346 (n0).toNat := (by rw [f27] at f31; exact f31 : n13 = hV H1 346 (n0).toNat)
  have e5 : n16 = hV H1 347 (n0).toNat := (by rw [f33] at f37; exact f37 : n16 = hV H1 347 (n0).toNat)
  have e6 : n19 = hV H1 347 (n0).toNat := (by rw [f39] at f43; exact f43 : n19 = hV H1 347 (n0).toNat)
  have e7 : hV H2 298 = hV H1 298 := uRowNe f46 _ (iS (show n18 = ((347 : Nat) : Int) from f39) rfl)
  have e8 : hV H1 298 = hV H0 298 := fRow f8.1.2.1 298 (by decide +kernel)
  have e9 : n23 = hV H0 298 (n17).toNat := (by rw [f47] at f51; exact f51 : n23 = hV H2 298 (n17).toNat).trans (((congrFun e7 _)).trans ((congrFun e8 _)))
  have e10 : hV H2 301 = hV H1 301 := uRowNe f46 _ (iS (show n18 = ((347 : Nat) : Int) from f39) rfl)
  have e11 : hV H1 301 = hV H0 301 := fRow f8.1.2.1 301 (by decide +kernel)
  have e12 : n29 = hV H0 301 (n17).toNat := (by rw [f58] at f62; exact f62 : n29 = hV H2 301 (n17).toNat).trans (((congrFun e10 _)).trans ((congrFun e11 _)))
  have e13 : hV H2 302 = hV H1 302 := uRowNe f46 _ (iS (show n18 = ((347 : Nat) : Int) from f39) rfl)
  have e14 : hV H1 302 = hV H0 302 := fRow f8.1.2.1 302 (by decide +kernel)
  have e15 : n31 = hV H0 302 (n17).toNat := (by rw [f63] at f67; exact f67 : n31 = hV H2 302 (n17).toNat).trans (((congrFun e13 _)).trans ((congrFun e14 _)))
  have e16 : hV H2 348 = hV H1 348 := uRowNe f46 _ (iS (show n18 = ((347 : Nat) : Int) from f39) rfl)
  have e17 : n33 = hV H1 348 (n0).toNat := (by rw [f68] at f72; exact f72 : n33 = hV H2 348 (n0).toNat).trans ((congrFun e16 _))
  have e18 : hV H4 300 = hV H3 300 := uRowNe f76 _ (iS (show n25 = ((348 : Nat) : Int) from f54) rfl)
  have e19 : hV H3 300 = hV H2 300 := fRow f75.1.2.1 300 (by decide +kernel)
  have e20 : hV H2 300 = hV H1 300 := uRowNe f46 _ (iS (show n18 = ((347 : Nat) : Int) from f39) rfl)
  have e21 : hV H1 300 = hV H0 300 := fRow f8.1.2.1 300 (by decide +kernel)
  have e22 : n41 = hV H0 300 (n17).toNat := (by rw [f83] at f87; exact f87 : n41 = hV H4 300 (n17).toNat).trans (((congrFun e18 _)).trans (((congrFun e19 _)).trans (((congrFun e20 _)).trans ((congrFun e21 _)))))
  have e23 : hV H1 285 18 = hV H0 285 18 := f8.1.2.1.1 285 18 (by decide +kernel)
  have e24 : hV H1 285 18 = hV H0 285 18 := e23
  have e25 : hV H1 294 = hV H0 294 := fRow f8.1.2.1 294 (by decide +kernel)
  have e26 : (0 : Int) ≤ hV H1 285 18 ∧ hV H1 285 18 ≤ 8 := f8.1.2.2 285 18 _ _ (by decide +kernel)
  have e27 : (0 : Int) ≤ hV H1 285 82 ∧ hV H1 285 82 ≤ 40 := f8.1.2.2 285 82 _ _ (by decide +kernel)
  try simp only [e24, e25, e2, e8, e21] at f8
  try simp only [e24, e25, e2, e8, e21] at f75
  try simp only [e24, e25, e2, e8, e21] at e26
  try simp only [e24, e25, e2, e8, e21] at e27
  try simp only [e24, e25, e2, e8, e21] at g3
  try simp only [e24, e25, e2, e8, e21] at g4
  try simp only [e24, e25, e2, e8, e21]
  have k0 := g4.1
  have y0 := g4.2.1
  have y1 := g4.2.2.1
  have y2 := g4.2.2.2
  have p0 := g3.1
  have p1 := g3.2
  have r0_0 := f75.2
  try simp only [e24, e25, e2, e8, e21] at k0
  try simp only [e24, e25, e2, e8, e21] at y0
  try simp only [e24, e25, e2, e8, e21] at y1
  try simp only [e24, e25, e2, e8, e21] at y2
  try simp only [e24, e25, e2, e8, e21] at p0
  try simp only [e24, e25, e2, e8, e21] at p1
  try simp only [e24, e25, e2, e8, e21] at r0_0
  clear g3
  clear g4
  clear f11 f14 f16 f18 f21 f24 f28 f31 f34 f37 f40 f43 f48 f51 f55 f59 f62 f64 f67 f69 f72 f78 f84 f87 f91 e2 e7 e8 e10 e11 e13 e14 e16 e18 e19 e20 e21 e23 e24 e25
  subst e0
  subst e1
  subst e3
  subst e4
  subst e5
  subst e6
  subst e9
  subst e12
  subst e15
  subst e17
  subst e22
  rw [f26] at f32
  rw [f81] at f82
  unfold w32 at *
  try have ca := cue_at (p1 (n3).toNat (by omega)) y0 (by omega) (by omega) (c := (16 * hV H1 346 (n0).toNat + hV H1 347 (n0).toNat)) (by omega)
  try have sh := y1 (n0).toNat (by omega)
  try have lv := y0 (n0).toNat (by omega)
  try (have ix0 : n14 = 16 * (hV H1 346 (n0).toNat) := (by omega); subst ix0)
  try (have ix1 : n17 = (16 * (hV H1 346 (n0).toNat)) + hV H1 347 (n0).toNat := (by omega); subst ix1)
  try (have ix2 : n21 = hV H1 347 (n0).toNat + 1 := (by omega); subst ix2)
  try (have ix3 : n27 = n0 + 1 := (by omega); subst ix3)
  try (have ix4 : n37 = n0 + 1 := (by omega); subst ix4)
  try (have ix5 : n39 = 7 * n1 := (by omega); subst ix5)
  try (have ix6 : n42 = (7 * n1) + hV H0 300 (((16 * (hV H1 346 (n0).toNat)) + hV H1 347 (n0).toNat)).toNat := (by omega); subst ix6)
  try (have ix7 : n45 = n0 + 1 := (by omega); subst ix7)

  first
  | omega
  | (have ca := cue_at (p1 (n3).toNat (by omega)) y0 (by omega) (by omega) (c := (16 * hV H1 346 (n0).toNat + hV H1 347 (n0).toNat)) (by omega)
     omega)
  | (have ua := use_at (p1 (n3).toNat (by omega)) y0 (by omega) (by omega) (c := (16 * hV H1 346 (n0).toNat + hV H1 347 (n0).toNat)) (by omega) (by omega)
     omega)
  | (have ul := ULp_lay y2 (p1 (n3).toNat (by omega)) y0 (by omega) (by omega) (by omega) (c := (16 * hV H1 346 (n0).toNat + hV H1 347 (n0).toNat)) (by omega) (by omega)
     omega)
theorem c_270_34_14 {q0 : Nat} : vOkm T0 (eP e_270 L_270 A_270 mu_270 (some q0)) 2 ([(1, [45, 4, 44], [], 0), (0, [44], [], 1), (20, [43, 2], [5], 86), (0, [43], [], 347), (80, [35, 37, 42], [5, 4], 0), (1, [42, 39, 41], [], 0), (22, [41, 40, 17], [4], 0), (90, [41], [], -1), (91, [41], [], 9999), (20, [40, 2], [4], 26), (0, [40], [], 300), (3, [39, 38, 3], [], 0), (0, [38], [], 7), (1, [37, 4, 36], [], 0), (0, [36], [], 1), (20, [35, 2], [4], 85), (0, [35], [], 346), (80, [25, 27, 34], [4, 3], 0), (1269, [34, 2, 29, 31, 33], [2, 3], 0), (90, [34], [], -10999), (91, [34], [], 10999), (22, [33, 32, 4], [2], 0), (90, [33], [], -1000), (91, [33], [], 1000), (20, [32, 2], [2], 87), (0, [32], [], 348), (22, [31, 30, 17], [2], 0), (90, [31], [], -9999), (91, [31], [], 9999), (20, [30, 2], [2], 28), (0, [30], [], 302), (22, [29, 28, 17], [2], 0), (90, [29], [], -1), (91, [29], [], 9999), (20, [28, 2], [2], 27), (0, [28], [], 301), (1, [27, 4, 26], [], 0), (0, [26], [], 1), (20, [25, 2], [2], 87), (0, [25], [], 348), (40, [23, 24], [], 0), (0, [24], [], 5), (22, [23, 22, 17], [2], 0), (90, [23], [], 0), (91, [23], [], 5), (20, [22, 2], [2], 24), (0, [22], [], 298), (80, [18, 4, 21], [2, 1], 0), (1, [21, 19, 20], [], 0), (0, [20], [], 1), (22, [19, 18, 4], [1], 0), (90, [19], [], 0), (91, [19], [], 16), (20, [18, 2], [1], 86), (0, [18], [], 347), (1, [17, 14, 16], [], 0), (22, [16, 15, 4], [1], 0), (90, [16], [], 0), (91, [16], [], 16), (20, [15, 2], [1], 86), (0, [15], [], 347), (3, [14, 11, 13], [], 0), (22, [13, 12, 4], [1], 0), (90, [13], [], 0), (91, [13], [], 62), (20, [12, 2], [1], 85), (0, [12], [], 346), (0, [11], [], 16), (41, [6, 10], [], 0), (22, [10, 7, 9], [1], 0), (90, [10], [], 0), (91, [10], [], 16), (22, [9, 8, 4], [1], 0), (90, [9], [], 0), (91, [9], [], 62), (20, [8, 2], [1], 85), (0, [8], [], 346), (20, [7, 2], [1], 22), (0, [7], [], 296), (22, [6, 5, 4], [1], 0), (90, [6], [], 0), (91, [6], [], 16), (20, [5, 2], [1], 86), (0, [5], [], 347), (33, [4], [], 0), (5000, [0, 1, 2, 3, 4], [0, 1], 34), (0, [0], [], 285), (90, [1], [], 0), (91, [1], [], 7), (0, [2], [], 285), (90, [3], [], 0), (91, [3], [], 7), (90, [4], [], -1), (91, [4], [], 6)], (70, [45], [], 8)) := vOk_in fun ρ η h => by
  obtain ⟨f0, f1, f2, f3, f4, f5, f6, f7, f8, f9, f10, f11, f12, f13, f14, f15, f16, f17, f18, f19, f20, f21, f22, f23, f24, f25, f26, f27, f28, f29, f30, f31, f32, f33, f34, f35, f36, f37, f38, f39, f40, f41, f42, f43, f44, f45, f46, f47, f48, f49, f50, f51, f52, f53, f54, f55, f56, f57, f58, f59, f60, f61, f62, f63, f64, f65, f66, f67, f68, f69, f70, f71, f72, f73, f74, f75, f76, f77, f78, f79, f80, f81, f82, f83, f84, f85, f86, f87, f88, f89, f90, f91, f92, f93, _⟩ := h
  exact q_270_17 (q0 := q0) (n0 := ρ 4) (n1 := ρ 3) (n2 := ρ 2) (n3 := ρ 1) (n4 := ρ 0) (n5 := ρ 5) (n6 := ρ 6) (n7 := ρ 7) (n8 := ρ 8) (n9 := ρ 9) (n10 := ρ 10) (n11 := ρ 11) (n12 := ρ 12) (n13 := ρ 13) (n14 := ρ 14) (n15 := ρ 15) (n16 := ρ 16) (n17 := ρ 17) (n18 := ρ 18) (n19 := ρ 19) (n20 := ρ 20) (n21 := ρ 21) (n22 := ρ 22) (n23 := ρ 23) (n24 := ρ 24) (n25 := ρ 25) (n26 := ρ 26) (n27 := ρ 27) (n28 := ρ 28) (n29 := ρ 29) (n30 := ρ 30) (n31 := ρ 31) (n32 := ρ 32) (n33 := ρ 33) (n34 := ρ 34) (n35 := ρ 35) (n36 := ρ 36) (n37 := ρ 37) (n38 := ρ 38) (n39 := ρ 39) (n40 := ρ 40) (n41 := ρ 41) (n42 := ρ 42) (n43 := ρ 43) (n44 := ρ 44) (n45 := ρ 45) (H0 := η 0) (H1 := η 1) (H2 := η 2) (H3 := η 3) (H4 := η 4) (H5 := η 5) f93 f92 f91 f90 f89 f88 f87 f86 f85 f84 f83 f82 f81 f80 f79 f78 f77 f76 f75 f74 f73 f72 f71 f70 f69 f68 f67 f66 f65 f64 f63 f62 f61 f60 f59 f58 f57 f56 f55 f54 f53 f52 f51 f50 f49 f48 f47 f46 f45 f44 f43 f42 f41 f40 f39 f38 f37 f36 f35 f34 f33 f32 f31 f30 f29 f28 f27 f26 f25 f24 f23 f22 f21 f20 f19 f18 f17 f16 f15 f14 f13 f12 f11 f10 f9 f8 f7 f6 f5 f4 f3 f2 f1 f0
theorem q_270_18 {q0 : Nat} {n0 n1 n2 n3 n4 n5 n6 n7 n8 n9 n10 n11 n12 n13 n14 n15 n16 n17 n18 n19 n20 n21 n22 n23 n24 n25 n26 n27 n28 n29 n30 n31 n32 n33 n34 n35 n36 n37 n38 n39 n40 n41 n42 n43 n44 n45 n46 : Int} {H0 H1 H2 H3 H4 H5 : gH} (f0 : n0 ≤ 6) (f1 : (-1) ≤ n0) (f2 : n1 ≤ 7) (f3 : 0 ≤ n1) (f4 : n2 = 285) (f5 : n3 ≤ 7) (f6 : 0 ≤ n3) (f7 : n4 = 285) (f8 : (hLe T0 H0 H1 ∧ hFr s_270.2.2.2.2 H0 H1 ∧ hWt T0 H1) ∧ (Ab_270_34 n4 n3 n2 n1 n0 H0 H1 ∧ preb_270 n4 n3 H0) ∧ some q0 = some (mub_270_34 n4 n3 n2 n1 n0 H0 H1)) (f9 : 0 ≤ n0) (f10 : n5 = 347) (f11 : n5 = hV H1 (n2).toNat 86) (f12 : n6 ≤ 16) (f13 : 0 ≤ n6) (f14 : n6 = hV H1 (n5).toNat (n0).toNat) (f15 : n7 = 296) (f16 : n7 = hV H1 (n2).toNat 22) (f17 : n8 = 346) (f18 : n8 = hV H1 (n2).toNat 85) (f19 : n9 ≤ 62) (f20 : 0 ≤ n9) (f21 : n9 = hV H1 (n8).toNat (n0).toNat) (f22 : n10 ≤ 16) (f23 : 0 ≤ n10) (f24 : n10 = hV H1 (n7).toNat (n9).toNat) (f25 : n6 ≠ n10) (f26 : n11 = 16) (f27 : n12 = 346) (f28 : n12 = hV H1 (n2).toNat 85) (f29 : n13 ≤ 62) (f30 : 0 ≤ n13) (f31 : n13 = hV H1 (n12).toNat (n0).toNat) (f32 : n14 = w32 (n11 * n13)) (f33 : n15 = 347) (f34 : n15 = hV H1 (n2).toNat 86) (f35 : n16 ≤ 16) (f36 : 0 ≤ n16) (f37 : n16 = hV H1 (n15).toNat (n0).toNat) (f38 : n17 = w32 (n14 + n16)) (f39 : n18 = 347) (f40 : n18 = hV H1 (n2).toNat 86) (f41 : n19 ≤ 16) (f42 : 0 ≤ n19) (f43 : n19 = hV H1 (n18).toNat (n0).toNat) (f44 : n20 = 1) (f45 : n21 = w32 (n19 + n20)) (f46 : hUpd H2 H1 n18 n0 n21) (f47 : n22 = 298) (f48 : n22 = hV H2 (n2).toNat 24) (f49 : n23 ≤ 5) (f50 : 0 ≤ n23) (f51 : n23 = hV H2 (n22).toNat (n17).toNat) (f52 : n24 = 5) (f53 : n23 = n24) (f54 : n25 = 348) (f55 : n25 = hV H2 (n2).toNat 87) (f56 : n26 = 1) (f57 : n27 = w32 (n0 + n26)) (f58 : n28 = 301) (f59 : n28 = hV H2 (n2).toNat 27) (f60 : n29 ≤ 9999) (f61 : (-1) ≤ n29) (f62 : n29 = hV H2 (n28).toNat (n17).toNat) (f63 : n30 = 302) (f64 : n30 = hV H2 (n2).toNat 28) (f65 : n31 ≤ 9999) (f66 : (-9999) ≤ n31) (f67 : n31 = hV H2 (n30).toNat (n17).toNat) (f68 : n32 = 348) (f69 : n32 = hV H2 (n2).toNat 87) (f70 : n33 ≤ 1000) (f71 : (-1000) ≤ n33) (f72 : n33 = hV H2 (n32).toNat (n0).toNat) (f73 : n34 ≤ 10999) (f74 : (-10999) ≤ n34) (f75 : (hLe T0 H2 H3 ∧ hFr s_269.2.2.2.2 H2 H3 ∧ ((0 : Int) = 0 → H3.length = H2.length) ∧ hWt T0 H3) ∧ postb_269 n34 n2 n29 n31 n33 H2 H3) (f76 : hUpd H4 H3 n25 n27 n34) (f77 : n35 = 346) (f78 : n35 = hV H4 (n2).toNat 85) (f79 : n36 = 1) (f80 : n37 = w32 (n0 + n36)) (f81 : n38 = 7) (f82 : n39 = w32 (n38 * n1)) (f83 : n40 = 300) (f84 : n40 = hV H4 (n2).toNat 26) (f85 : n41 ≤ 9999) (f86 : (-1) ≤ n41) (f87 : n41 = hV H4 (n40).toNat (n17).toNat) (f88 : n42 = w32 (n39 + n41)) (f89 : hUpd H5 H4 n35 n37 n42) (f90 : n43 = 347) (f91 : n43 = hV H5 (n2).toNat 86) (f92 : n44 = 1) (f93 : n45 = w32 (n0 + n44)) (f94 : n46 = w32 (n0 + 1)) : (-1) ≤ n46 := by
  have g4 := f8.2.1.1
  unfold Ab_270_34 at g4
  have g3 := f8.2.1.2
  unfold preb_270 at g3
  unfold postb_269 at f75
  have e0 : n6 = hV H1 347 (n0).toNat := (by rw [f10] at f14; exact f14 : n6 = hV H1 347 (n0).toNat)
  have e1 : n9 = hV H1 346 (n0).toNat := (by rw [f17] at f21; exact f21 : n9 = hV H1 346 (n0).toNat)
  have e2 : hV H1 296 = hV H0 296 := fRow f8.1.2.1 296 (by decide +kernel)
  have e3 : n10 = hV H0 296 (n9).toNat := (by rw [f15] at f24; exact f24 : n10 = hV H1 296 (n9).toNat).trans ((congrFun e2 _))
  have e4 : n13 = hV H1 346 (n0).toNat := (by rw [f27] at f31; exact f31 : n13 = hV H1 346 (n0).toNat)
  have e5 : n16 = hV H1 347 (n0).toNat := (by rw [f33] at f37; exact f37 : n16 = hV H1 347 (n0).toNat)
  have e6 : n19 = hV H1 347 (n0).toNat := (by rw [f39] at f43; exact f43 : n19 = hV H1 347 (n0).toNat)
  have e7 : hV H2 298 = hV H1 298 := uRowNe f46 _ (iS (show n18 = ((347 : Nat) : Int) from f39) rfl)
  have e8 : hV H1 298 = hV H0 298 := fRow f8.1.2.1 298 (by decide +kernel)
  have e9 : n23 = hV H0 298 (n17).toNat := (by rw [f47] at f51; exact f51 : n23 = hV H2 298 (n17).toNat).trans (((congrFun e7 _)).trans ((congrFun e8 _)))
  have e10 : hV H2 301 = hV H1 301 := uRowNe f46 _ (iS (show n18 = ((347 : Nat) : Int) from f39) rfl)
  have e11 : hV H1 301 = hV H0 301 := fRow f8.1.2.1 301 (by decide +kernel)
  have e12 : n29 = hV H0 301 (n17).toNat := (by rw [f58] at f62; exact f62 : n29 = hV H2 301 (n17).toNat).trans (((congrFun e10 _)).trans ((congrFun e11 _)))
  have e13 : hV H2 302 = hV H1 302 := uRowNe f46 _ (iS (show n18 = ((347 : Nat) : Int) from f39) rfl)
  have e14 : hV H1 302 = hV H0 302 := fRow f8.1.2.1 302 (by decide +kernel)
  have e15 : n31 = hV H0 302 (n17).toNat := (by rw [f63] at f67; exact f67 : n31 = hV H2 302 (n17).toNat).trans (((congrFun e13 _)).trans ((congrFun e14 _)))
  have e16 : hV H2 348 = hV H1 348 := uRowNe f46 _ (iS (show n18 = ((347 : Nat) : Int) from f39) rfl)
  have e17 : n33 = hV H1 348 (n0).toNat := (by rw [f68] at f72; exact f72 : n33 = hV H2 348 (n0).toNat).trans ((congrFun e16 _))
  have e18 : hV H4 300 = hV H3 300 := uRowNe f76 _ (iS (show n25 = ((348 : Nat) : Int) from f54) rfl)
  have e19 : hV H3 300 = hV H2 300 := fRow f75.1.2.1 300 (by decide +kernel)
  have e20 : hV H2 300 = hV H1 300 := uRowNe f46 _ (iS (show n18 = ((347 : Nat) : Int) from f39) rfl)
  have e21 : hV H1 300 = hV H0 300 := fRow f8.1.2.1 300 (by decide +kernel)
  have e22 : n41 = hV H0 300 (n17).toNat := (by rw [f83] at f87; exact f87 : n41 = hV H4 300 (n17).toNat).trans (((congrFun e18 _)).trans (((congrFun e19 _)).trans (((congrFun e20 _)).trans ((congrFun e21 _)))))
  have e23 : hV H1 285 18 = hV H0 285 18 := f8.1.2.1.1 285 18 (by decide +kernel)
  have e24 : hV H1 285 18 = hV H0 285 18 := e23
  have e25 : hV H1 294 = hV H0 294 := fRow f8.1.2.1 294 (by decide +kernel)
  have e26 : (0 : Int) ≤ hV H1 285 18 ∧ hV H1 285 18 ≤ 8 := f8.1.2.2 285 18 _ _ (by decide +kernel)
  have e27 : (0 : Int) ≤ hV H1 285 82 ∧ hV H1 285 82 ≤ 40 := f8.1.2.2 285 82 _ _ (by decide +kernel)
  try simp only [e24, e25, e2, e8, e21] at f8
  try simp only [e24, e25, e2, e8, e21] at f75
  try simp only [e24, e25, e2, e8, e21] at e26
  try simp only [e24, e25, e2, e8, e21] at e27
  try simp only [e24, e25, e2, e8, e21] at g3
  try simp only [e24, e25, e2, e8, e21] at g4
  try simp only [e24, e25, e2, e8, e21]
  have k0 := g4.1
  have y0 := g4.2.1
  have y1 := g4.2.2.1
  have y2 := g4.2.2.2
  have p0 := g3.1
  have p1 := g3.2
  have r0_0 := f75.2
  try simp only [e24, e25, e2, e8, e21] at k0
  try simp only [e24, e25, e2, e8, e21] at y0
  try simp only [e24, e25, e2, e8, e21] at y1
  try simp only [e24, e25, e2, e8, e21] at y2
  try simp only [e24, e25, e2, e8, e21] at p0
  try simp only [e24, e25, e2, e8, e21] at p1
  try simp only [e24, e25, e2, e8, e21] at r0_0
  clear g3
  clear g4
  clear f11 f14 f16 f18 f21 f24 f28 f31 f34 f37 f40 f43 f48 f51 f55 f59 f62 f64 f67 f69 f72 f78 f84 f87 f91 e2 e7 e8 e10 e11 e13 e14 e16 e18 e19 e20 e21 e23 e24 e25
  subst e0
  subst e1
  subst e3
  subst e4
  subst e5
  subst e6
  subst e9
  subst e12
  subst e15
  subst e17
  subst e22
  rw [f26] at f32
  rw [f81] at f82
  unfold w32 at *
  try have ca := cue_at (p1 (n3).toNat (by omega)) y0 (by omega) (by omega) (c := (16 * hV H1 346 (n0).toNat + hV H1 347 (n0).toNat)) (by omega)
  try have sh := y1 (n0).toNat (by omega)
  try have lv := y0 (n0).toNat (by omega)
  try (have ix0 : n14 = 16 * (hV H1 346 (n0).toNat) := (by omega); subst ix0)
  try (have ix1 : n17 = (16 * (hV H1 346 (n0).toNat)) + hV H1 347 (n0).toNat := (by omega); subst ix1)
  try (have ix2 : n21 = hV H1 347 (n0).toNat + 1 := (by omega); subst ix2)
  try (have ix3 : n27 = n0 + 1 := (by omega); subst ix3)
  try (have ix4 : n37 = n0 + 1 := (by omega); subst ix4)
  try (have ix5 : n39 = 7 * n1 := (by omega); subst ix5)
  try (have ix6 : n42 = (7 * n1) + hV H0 300 (((16 * (hV H1 346 (n0).toNat)) + hV H1 347 (n0).toNat)).toNat := (by omega); subst ix6)
  try (have ix7 : n46 = n0 + 1 := (by omega); subst ix7)

  first
  | omega
  | (have ca := cue_at (p1 (n3).toNat (by omega)) y0 (by omega) (by omega) (c := (16 * hV H1 346 (n0).toNat + hV H1 347 (n0).toNat)) (by omega)
     omega)
  | (have ua := use_at (p1 (n3).toNat (by omega)) y0 (by omega) (by omega) (c := (16 * hV H1 346 (n0).toNat + hV H1 347 (n0).toNat)) (by omega) (by omega)
     omega)
  | (have ul := ULp_lay y2 (p1 (n3).toNat (by omega)) y0 (by omega) (by omega) (by omega) (c := (16 * hV H1 346 (n0).toNat + hV H1 347 (n0).toNat)) (by omega) (by omega)
     omega)
theorem c_270_34_15 {q0 : Nat} : vOkm T0 (eP e_270 L_270 A_270 mu_270 (some q0)) 2 ([(10, [47, 4], [], 1), (1, [45, 4, 44], [], 0), (0, [44], [], 1), (20, [43, 2], [5], 86), (0, [43], [], 347), (80, [35, 37, 42], [5, 4], 0), (1, [42, 39, 41], [], 0), (22, [41, 40, 17], [4], 0), (90, [41], [], -1), (91, [41], [], 9999), (20, [40, 2], [4], 26), (0, [40], [], 300), (3, [39, 38, 3], [], 0), (0, [38], [], 7), (1, [37, 4, 36], [], 0), (0, [36], [], 1), (20, [35, 2], [4], 85), (0, [35], [], 346), (80, [25, 27, 34], [4, 3], 0), (1269, [34, 2, 29, 31, 33], [2, 3], 0), (90, [34], [], -10999), (91, [34], [], 10999), (22, [33, 32, 4], [2], 0), (90, [33], [], -1000), (91, [33], [], 1000), (20, [32, 2], [2], 87), (0, [32], [], 348), (22, [31, 30, 17], [2], 0), (90, [31], [], -9999), (91, [31], [], 9999), (20, [30, 2], [2], 28), (0, [30], [], 302), (22, [29, 28, 17], [2], 0), (90, [29], [], -1), (91, [29], [], 9999), (20, [28, 2], [2], 27), (0, [28], [], 301), (1, [27, 4, 26], [], 0), (0, [26], [], 1), (20, [25, 2], [2], 87), (0, [25], [], 348), (40, [23, 24], [], 0), (0, [24], [], 5), (22, [23, 22, 17], [2], 0), (90, [23], [], 0), (91, [23], [], 5), (20, [22, 2], [2], 24), (0, [22], [], 298), (80, [18, 4, 21], [2, 1], 0), (1, [21, 19, 20], [], 0), (0, [20], [], 1), (22, [19, 18, 4], [1], 0), (90, [19], [], 0), (91, [19], [], 16), (20, [18, 2], [1], 86), (0, [18], [], 347), (1, [17, 14, 16], [], 0), (22, [16, 15, 4], [1], 0), (90, [16], [], 0), (91, [16], [], 16), (20, [15, 2], [1], 86), (0, [15], [], 347), (3, [14, 11, 13], [], 0), (22, [13, 12, 4], [1], 0), (90, [13], [], 0), (91, [13], [], 62), (20, [12, 2], [1], 85), (0, [12], [], 346), (0, [11], [], 16), (41, [6, 10], [], 0), (22, [10, 7, 9], [1], 0), (90, [10], [], 0), (91, [10], [], 16), (22, [9, 8, 4], [1], 0), (90, [9], [], 0), (91, [9], [], 62), (20, [8, 2], [1], 85), (0, [8], [], 346), (20, [7, 2], [1], 22), (0, [7], [], 296), (22, [6, 5, 4], [1], 0), (90, [6], [], 0), (91, [6], [], 16), (20, [5, 2], [1], 86), (0, [5], [], 347), (33, [4], [], 0), (5000, [0, 1, 2, 3, 4], [0, 1], 34), (0, [0], [], 285), (90, [1], [], 0), (91, [1], [], 7), (0, [2], [], 285), (90, [3], [], 0), (91, [3], [], 7), (90, [4], [], -1), (91, [4], [], 6)], (90, [47], [], -1)) := vOk_in fun ρ η h => by
  obtain ⟨f0, f1, f2, f3, f4, f5, f6, f7, f8, f9, f10, f11, f12, f13, f14, f15, f16, f17, f18, f19, f20, f21, f22, f23, f24, f25, f26, f27, f28, f29, f30, f31, f32, f33, f34, f35, f36, f37, f38, f39, f40, f41, f42, f43, f44, f45, f46, f47, f48, f49, f50, f51, f52, f53, f54, f55, f56, f57, f58, f59, f60, f61, f62, f63, f64, f65, f66, f67, f68, f69, f70, f71, f72, f73, f74, f75, f76, f77, f78, f79, f80, f81, f82, f83, f84, f85, f86, f87, f88, f89, f90, f91, f92, f93, f94, _⟩ := h
  exact q_270_18 (q0 := q0) (n0 := ρ 4) (n1 := ρ 3) (n2 := ρ 2) (n3 := ρ 1) (n4 := ρ 0) (n5 := ρ 5) (n6 := ρ 6) (n7 := ρ 7) (n8 := ρ 8) (n9 := ρ 9) (n10 := ρ 10) (n11 := ρ 11) (n12 := ρ 12) (n13 := ρ 13) (n14 := ρ 14) (n15 := ρ 15) (n16 := ρ 16) (n17 := ρ 17) (n18 := ρ 18) (n19 := ρ 19) (n20 := ρ 20) (n21 := ρ 21) (n22 := ρ 22) (n23 := ρ 23) (n24 := ρ 24) (n25 := ρ 25) (n26 := ρ 26) (n27 := ρ 27) (n28 := ρ 28) (n29 := ρ 29) (n30 := ρ 30) (n31 := ρ 31) (n32 := ρ 32) (n33 := ρ 33) (n34 := ρ 34) (n35 := ρ 35) (n36 := ρ 36) (n37 := ρ 37) (n38 := ρ 38) (n39 := ρ 39) (n40 := ρ 40) (n41 := ρ 41) (n42 := ρ 42) (n43 := ρ 43) (n44 := ρ 44) (n45 := ρ 45) (n46 := ρ 47) (H0 := η 0) (H1 := η 1) (H2 := η 2) (H3 := η 3) (H4 := η 4) (H5 := η 5) f94 f93 f92 f91 f90 f89 f88 f87 f86 f85 f84 f83 f82 f81 f80 f79 f78 f77 f76 f75 f74 f73 f72 f71 f70 f69 f68 f67 f66 f65 f64 f63 f62 f61 f60 f59 f58 f57 f56 f55 f54 f53 f52 f51 f50 f49 f48 f47 f46 f45 f44 f43 f42 f41 f40 f39 f38 f37 f36 f35 f34 f33 f32 f31 f30 f29 f28 f27 f26 f25 f24 f23 f22 f21 f20 f19 f18 f17 f16 f15 f14 f13 f12 f11 f10 f9 f8 f7 f6 f5 f4 f3 f2 f1 f0
theorem q_270_19 {q0 : Nat} {n0 n1 n2 n3 n4 n5 n6 n7 n8 n9 n10 n11 n12 n13 n14 n15 n16 n17 n18 n19 n20 n21 n22 n23 n24 n25 n26 n27 n28 n29 n30 n31 n32 n33 n34 n35 n36 n37 n38 n39 n40 n41 n42 n43 n44 n45 n46 : Int} {H0 H1 H2 H3 H4 H5 : gH} (f0 : n0 ≤ 6) (f1 : (-1) ≤ n0) (f2 : n1 ≤ 7) (f3 : 0 ≤ n1) (f4 : n2 = 285) (f5 : n3 ≤ 7) (f6 : 0 ≤ n3) (f7 : n4 = 285) (f8 : (hLe T0 H0 H1 ∧ hFr s_270.2.2.2.2 H0 H1 ∧ hWt T0 H1) ∧ (Ab_270_34 n4 n3 n2 n1 n0 H0 H1 ∧ preb_270 n4 n3 H0) ∧ some q0 = some (mub_270_34 n4 n3 n2 n1 n0 H0 H1)) (f9 : 0 ≤ n0) (f10 : n5 = 347) (f11 : n5 = hV H1 (n2).toNat 86) (f12 : n6 ≤ 16) (f13 : 0 ≤ n6) (f14 : n6 = hV H1 (n5).toNat (n0).toNat) (f15 : n7 = 296) (f16 : n7 = hV H1 (n2).toNat 22) (f17 : n8 = 346) (f18 : n8 = hV H1 (n2).toNat 85) (f19 : n9 ≤ 62) (f20 : 0 ≤ n9) (f21 : n9 = hV H1 (n8).toNat (n0).toNat) (f22 : n10 ≤ 16) (f23 : 0 ≤ n10) (f24 : n10 = hV H1 (n7).toNat (n9).toNat) (f25 : n6 ≠ n10) (f26 : n11 = 16) (f27 : n12 = 346) (f28 : n12 = hV H1 (n2).toNat 85) (f29 : n13 ≤ 62) (f30 : 0 ≤ n13) (f31 : n13 = hV H1 (n12).toNat (n0).toNat) (f32 : n14 = w32 (n11 * n13)) (f33 : n15 = 347) (f34 : n15 = hV H1 (n2).toNat 86) (f35 : n16 ≤ 16) (f36 : 0 ≤ n16) (f37 : n16 = hV H1 (n15).toNat (n0).toNat) (f38 : n17 = w32 (n14 + n16)) (f39 : n18 = 347) (f40 : n18 = hV H1 (n2).toNat 86) (f41 : n19 ≤ 16) (f42 : 0 ≤ n19) (f43 : n19 = hV H1 (n18).toNat (n0).toNat) (f44 : n20 = 1) (f45 : n21 = w32 (n19 + n20)) (f46 : hUpd H2 H1 n18 n0 n21) (f47 : n22 = 298) (f48 : n22 = hV H2 (n2).toNat 24) (f49 : n23 ≤ 5) (f50 : 0 ≤ n23) (f51 : n23 = hV H2 (n22).toNat (n17).toNat) (f52 : n24 = 5) (f53 : n23 = n24) (f54 : n25 = 348) (f55 : n25 = hV H2 (n2).toNat 87) (f56 : n26 = 1) (f57 : n27 = w32 (n0 + n26)) (f58 : n28 = 301) (f59 : n28 = hV H2 (n2).toNat 27) (f60 : n29 ≤ 9999) (f61 : (-1) ≤ n29) (f62 : n29 = hV H2 (n28).toNat (n17).toNat) (f63 : n30 = 302) (f64 : n30 = hV H2 (n2).toNat 28) (f65 : n31 ≤ 9999) (f66 : (-9999) ≤ n31) (f67 : n31 = hV H2 (n30).toNat (n17).toNat) (f68 : n32 = 348) (f69 : n32 = hV H2 (n2).toNat 87) (f70 : n33 ≤ 1000) (f71 : (-1000) ≤ n33) (f72 : n33 = hV H2 (n32).toNat (n0).toNat) (f73 : n34 ≤ 10999) (f74 : (-10999) ≤ n34) (f75 : (hLe T0 H2 H3 ∧ hFr s_269.2.2.2.2 H2 H3 ∧ ((0 : Int) = 0 → H3.length = H2.length) ∧ hWt T0 H3) ∧ postb_269 n34 n2 n29 n31 n33 H2 H3) (f76 : hUpd H4 H3 n25 n27 n34) (f77 : n35 = 346) (f78 : n35 = hV H4 (n2).toNat 85) (f79 : n36 = 1) (f80 : n37 = w32 (n0 + n36)) (f81 : n38 = 7) (f82 : n39 = w32 (n38 * n1)) (f83 : n40 = 300) (f84 : n40 = hV H4 (n2).toNat 26) (f85 : n41 ≤ 9999) (f86 : (-1) ≤ n41) (f87 : n41 = hV H4 (n40).toNat (n17).toNat) (f88 : n42 = w32 (n39 + n41)) (f89 : hUpd H5 H4 n35 n37 n42) (f90 : n43 = 347) (f91 : n43 = hV H5 (n2).toNat 86) (f92 : n44 = 1) (f93 : n45 = w32 (n0 + n44)) (f94 : n46 = w32 (n0 + 1)) : n46 ≤ 6 := by
  have g4 := f8.2.1.1
  unfold Ab_270_34 at g4
  have g3 := f8.2.1.2
  unfold preb_270 at g3
  unfold postb_269 at f75
  have e0 : n6 = hV H1 347 (n0).toNat := (by rw [f10] at f14; exact f14 : n6 = hV H1 347 (n0).toNat)
  have e1 : n9 = hV H1 346 (n0).toNat := (by rw [f17] at f21; exact f21 : n9 = hV H1 346 (n0).toNat)
  have e2 : hV H1 296 = hV H0 296 := fRow f8.1.2.1 296 (by decide +kernel)
  have e3 : n10 = hV H0 296 (n9).toNat := (by rw [f15] at f24; exact f24 : n10 = hV H1 296 (n9).toNat).trans ((congrFun e2 _))
  have e4 : n13 = hV H1 346 (n0).toNat := (by rw [f27] at f31; exact f31 : n13 = hV H1 346 (n0).toNat)
  have e5 : n16 = hV H1 347 (n0).toNat := (by rw [f33] at f37; exact f37 : n16 = hV H1 347 (n0).toNat)
  have e6 : n19 = hV H1 347 (n0).toNat := (by rw [f39] at f43; exact f43 : n19 = hV H1 347 (n0).toNat)
  have e7 : hV H2 298 = hV H1 298 := uRowNe f46 _ (iS (show n18 = ((347 : Nat) : Int) from f39) rfl)
  have e8 : hV H1 298 = hV H0 298 := fRow f8.1.2.1 298 (by decide +kernel)
  have e9 : n23 = hV H0 298 (n17).toNat := (by rw [f47] at f51; exact f51 : n23 = hV H2 298 (n17).toNat).trans (((congrFun e7 _)).trans ((congrFun e8 _)))
  have e10 : hV H2 301 = hV H1 301 := uRowNe f46 _ (iS (show n18 = ((347 : Nat) : Int) from f39) rfl)
  have e11 : hV H1 301 = hV H0 301 := fRow f8.1.2.1 301 (by decide +kernel)
  have e12 : n29 = hV H0 301 (n17).toNat := (by rw [f58] at f62; exact f62 : n29 = hV H2 301 (n17).toNat).trans (((congrFun e10 _)).trans ((congrFun e11 _)))
  have e13 : hV H2 302 = hV H1 302 := uRowNe f46 _ (iS (show n18 = ((347 : Nat) : Int) from f39) rfl)
  have e14 : hV H1 302 = hV H0 302 := fRow f8.1.2.1 302 (by decide +kernel)
  have e15 : n31 = hV H0 302 (n17).toNat := (by rw [f63] at f67; exact f67 : n31 = hV H2 302 (n17).toNat).trans (((congrFun e13 _)).trans ((congrFun e14 _)))
  have e16 : hV H2 348 = hV H1 348 := uRowNe f46 _ (iS (show n18 = ((347 : Nat) : Int) from f39) rfl)
  have e17 : n33 = hV H1 348 (n0).toNat := (by rw [f68] at f72; exact f72 : n33 = hV H2 348 (n0).toNat).trans ((congrFun e16 _))
  have e18 : hV H4 300 = hV H3 300 := uRowNe f76 _ (iS (show n25 = ((348 : Nat) : Int) from f54) rfl)
  have e19 : hV H3 300 = hV H2 300 := fRow f75.1.2.1 300 (by decide +kernel)
  have e20 : hV H2 300 = hV H1 300 := uRowNe f46 _ (iS (show n18 = ((347 : Nat) : Int) from f39) rfl)
  have e21 : hV H1 300 = hV H0 300 := fRow f8.1.2.1 300 (by decide +kernel)
  have e22 : n41 = hV H0 300 (n17).toNat := (by rw [f83] at f87; exact f87 : n41 = hV H4 300 (n17).toNat).trans (((congrFun e18 _)).trans (((congrFun e19 _)).trans (((congrFun e20 _)).trans ((congrFun e21 _)))))
  have e23 : hV H1 285 18 = hV H0 285 18 := f8.1.2.1.1 285 18 (by decide +kernel)
  have e24 : hV H1 285 18 = hV H0 285 18 := e23
  have e25 : hV H1 294 = hV H0 294 := fRow f8.1.2.1 294 (by decide +kernel)
  have e26 : (0 : Int) ≤ hV H1 285 18 ∧ hV H1 285 18 ≤ 8 := f8.1.2.2 285 18 _ _ (by decide +kernel)
  have e27 : (0 : Int) ≤ hV H1 285 82 ∧ hV H1 285 82 ≤ 40 := f8.1.2.2 285 82 _ _ (by decide +kernel)
  try simp only [e24, e25, e2, e8, e21] at f8
  try simp only [e24, e25, e2, e8, e21] at f75
  try simp only [e24, e25, e2, e8, e21] at e26
  try simp only [e24, e25, e2, e8, e21] at e27
  try simp only [e24, e25, e2, e8, e21] at g3
  try simp only [e24, e25, e2, e8, e21] at g4
  try simp only [e24, e25, e2, e8, e21]
  have k0 := g4.1
  have y0 := g4.2.1
  have y1 := g4.2.2.1
  have y2 := g4.2.2.2
  have p0 := g3.1
  have p1 := g3.2
  have r0_0 := f75.2
  try simp only [e24, e25, e2, e8, e21] at k0
  try simp only [e24, e25, e2, e8, e21] at y0
  try simp only [e24, e25, e2, e8, e21] at y1
  try simp only [e24, e25, e2, e8, e21] at y2
  try simp only [e24, e25, e2, e8, e21] at p0
  try simp only [e24, e25, e2, e8, e21] at p1
  try simp only [e24, e25, e2, e8, e21] at r0_0
  clear g3
  clear g4
  clear f11 f14 f16 f18 f21 f24 f28 f31 f34 f37 f40 f43 f48 f51 f55 f59 f62 f64 f67 f69 f72 f78 f84 f87 f91 e2 e7 e8 e10 e11 e13 e14 e16 e18 e19 e20 e21 e23 e24 e25
  subst e0
  subst e1
  subst e3
  subst e4
  subst e5
  subst e6
  subst e9
  subst e12
  subst e15
  subst e17
  subst e22
  rw [f26] at f32
  rw [f81] at f82
  unfold w32 at *
  try have ca := cue_at (p1 (n3).toNat (by omega)) y0 (by omega) (by omega) (c := (16 * hV H1 346 (n0).toNat + hV H1 347 (n0).toNat)) (by omega)
  try have sh := y1 (n0).toNat (by omega)
  try have lv := y0 (n0).toNat (by omega)
  try (have ix0 : n14 = 16 * (hV H1 346 (n0).toNat) := (by omega); subst ix0)
  try (have ix1 : n17 = (16 * (hV H1 346 (n0).toNat)) + hV H1 347 (n0).toNat := (by omega); subst ix1)
  try (have ix2 : n21 = hV H1 347 (n0).toNat + 1 := (by omega); subst ix2)
  try (have ix3 : n27 = n0 + 1 := (by omega); subst ix3)
  try (have ix4 : n37 = n0 + 1 := (by omega); subst ix4)
  try (have ix5 : n39 = 7 * n1 := (by omega); subst ix5)
  try (have ix6 : n42 = (7 * n1) + hV H0 300 (((16 * (hV H1 346 (n0).toNat)) + hV H1 347 (n0).toNat)).toNat := (by omega); subst ix6)
  try (have ix7 : n46 = n0 + 1 := (by omega); subst ix7)

  first
  | omega
  | (have ca := cue_at (p1 (n3).toNat (by omega)) y0 (by omega) (by omega) (c := (16 * hV H1 346 (n0).toNat + hV H1 347 (n0).toNat)) (by omega)
     omega)
  | (have ua := use_at (p1 (n3).toNat (by omega)) y0 (by omega) (by omega) (c := (16 * hV H1 346 (n0).toNat + hV H1 347 (n0).toNat)) (by omega) (by omega)
     omega)
  | (have ul := ULp_lay y2 (p1 (n3).toNat (by omega)) y0 (by omega) (by omega) (by omega) (c := (16 * hV H1 346 (n0).toNat + hV H1 347 (n0).toNat)) (by omega) (by omega)
     omega)
theorem c_270_34_16 {q0 : Nat} : vOkm T0 (eP e_270 L_270 A_270 mu_270 (some q0)) 2 ([(10, [47, 4], [], 1), (1, [45, 4, 44], [], 0), (0, [44], [], 1), (20, [43, 2], [5], 86), (0, [43], [], 347), (80, [35, 37, 42], [5, 4], 0), (1, [42, 39, 41], [], 0), (22, [41, 40, 17], [4], 0), (90, [41], [], -1), (91, [41], [], 9999), (20, [40, 2], [4], 26), (0, [40], [], 300), (3, [39, 38, 3], [], 0), (0, [38], [], 7), (1, [37, 4, 36], [], 0), (0, [36], [], 1), (20, [35, 2], [4], 85), (0, [35], [], 346), (80, [25, 27, 34], [4, 3], 0), (1269, [34, 2, 29, 31, 33], [2, 3], 0), (90, [34], [], -10999), (91, [34], [], 10999), (22, [33, 32, 4], [2], 0), (90, [33], [], -1000), (91, [33], [], 1000), (20, [32, 2], [2], 87), (0, [32], [], 348), (22, [31, 30, 17], [2], 0), (90, [31], [], -9999), (91, [31], [], 9999), (20, [30, 2], [2], 28), (0, [30], [], 302), (22, [29, 28, 17], [2], 0), (90, [29], [], -1), (91, [29], [], 9999), (20, [28, 2], [2], 27), (0, [28], [], 301), (1, [27, 4, 26], [], 0), (0, [26], [], 1), (20, [25, 2], [2], 87), (0, [25], [], 348), (40, [23, 24], [], 0), (0, [24], [], 5), (22, [23, 22, 17], [2], 0), (90, [23], [], 0), (91, [23], [], 5), (20, [22, 2], [2], 24), (0, [22], [], 298), (80, [18, 4, 21], [2, 1], 0), (1, [21, 19, 20], [], 0), (0, [20], [], 1), (22, [19, 18, 4], [1], 0), (90, [19], [], 0), (91, [19], [], 16), (20, [18, 2], [1], 86), (0, [18], [], 347), (1, [17, 14, 16], [], 0), (22, [16, 15, 4], [1], 0), (90, [16], [], 0), (91, [16], [], 16), (20, [15, 2], [1], 86), (0, [15], [], 347), (3, [14, 11, 13], [], 0), (22, [13, 12, 4], [1], 0), (90, [13], [], 0), (91, [13], [], 62), (20, [12, 2], [1], 85), (0, [12], [], 346), (0, [11], [], 16), (41, [6, 10], [], 0), (22, [10, 7, 9], [1], 0), (90, [10], [], 0), (91, [10], [], 16), (22, [9, 8, 4], [1], 0), (90, [9], [], 0), (91, [9], [], 62), (20, [8, 2], [1], 85), (0, [8], [], 346), (20, [7, 2], [1], 22), (0, [7], [], 296), (22, [6, 5, 4], [1], 0), (90, [6], [], 0), (91, [6], [], 16), (20, [5, 2], [1], 86), (0, [5], [], 347), (33, [4], [], 0), (5000, [0, 1, 2, 3, 4], [0, 1], 34), (0, [0], [], 285), (90, [1], [], 0), (91, [1], [], 7), (0, [2], [], 285), (90, [3], [], 0), (91, [3], [], 7), (90, [4], [], -1), (91, [4], [], 6)], (91, [47], [], 6)) := vOk_in fun ρ η h => by
  obtain ⟨f0, f1, f2, f3, f4, f5, f6, f7, f8, f9, f10, f11, f12, f13, f14, f15, f16, f17, f18, f19, f20, f21, f22, f23, f24, f25, f26, f27, f28, f29, f30, f31, f32, f33, f34, f35, f36, f37, f38, f39, f40, f41, f42, f43, f44, f45, f46, f47, f48, f49, f50, f51, f52, f53, f54, f55, f56, f57, f58, f59, f60, f61, f62, f63, f64, f65, f66, f67, f68, f69, f70, f71, f72, f73, f74, f75, f76, f77, f78, f79, f80, f81, f82, f83, f84, f85, f86, f87, f88, f89, f90, f91, f92, f93, f94, _⟩ := h
  exact q_270_19 (q0 := q0) (n0 := ρ 4) (n1 := ρ 3) (n2 := ρ 2) (n3 := ρ 1) (n4 := ρ 0) (n5 := ρ 5) (n6 := ρ 6) (n7 := ρ 7) (n8 := ρ 8) (n9 := ρ 9) (n10 := ρ 10) (n11 := ρ 11) (n12 := ρ 12) (n13 := ρ 13) (n14 := ρ 14) (n15 := ρ 15) (n16 := ρ 16) (n17 := ρ 17) (n18 := ρ 18) (n19 := ρ 19) (n20 := ρ 20) (n21 := ρ 21) (n22 := ρ 22) (n23 := ρ 23) (n24 := ρ 24) (n25 := ρ 25) (n26 := ρ 26) (n27 := ρ 27) (n28 := ρ 28) (n29 := ρ 29) (n30 := ρ 30) (n31 := ρ 31) (n32 := ρ 32) (n33 := ρ 33) (n34 := ρ 34) (n35 := ρ 35) (n36 := ρ 36) (n37 := ρ 37) (n38 := ρ 38) (n39 := ρ 39) (n40 := ρ 40) (n41 := ρ 41) (n42 := ρ 42) (n43 := ρ 43) (n44 := ρ 44) (n45 := ρ 45) (n46 := ρ 47) (H0 := η 0) (H1 := η 1) (H2 := η 2) (H3 := η 3) (H4 := η 4) (H5 := η 5) f94 f93 f92 f91 f90 f89 f88 f87 f86 f85 f84 f83 f82 f81 f80 f79 f78 f77 f76 f75 f74 f73 f72 f71 f70 f69 f68 f67 f66 f65 f64 f63 f62 f61 f60 f59 f58 f57 f56 f55 f54 f53 f52 f51 f50 f49 f48 f47 f46 f45 f44 f43 f42 f41 f40 f39 f38 f37 f36 f35 f34 f33 f32 f31 f30 f29 f28 f27 f26 f25 f24 f23 f22 f21 f20 f19 f18 f17 f16 f15 f14 f13 f12 f11 f10 f9 f8 f7 f6 f5 f4 f3 f2 f1 f0
theorem q_270_20 {q0 : Nat} {n0 n1 n2 n3 n4 n5 n6 n7 n8 n9 n10 n11 n12 n13 n14 n15 n16 n17 n18 n19 n20 n21 n22 n23 n24 n25 n26 n27 n28 n29 n30 n31 n32 n33 n34 n35 n36 n37 n38 n39 n40 n41 n42 n43 n44 n45 n46 n47 : Int} {H0 H1 H2 H3 H4 H5 H6 : gH} (f0 : n0 ≤ 6) (f1 : (-1) ≤ n0) (f2 : n1 ≤ 7) (f3 : 0 ≤ n1) (f4 : n2 = 285) (f5 : n3 ≤ 7) (f6 : 0 ≤ n3) (f7 : n4 = 285) (f8 : (hLe T0 H0 H1 ∧ hFr s_270.2.2.2.2 H0 H1 ∧ hWt T0 H1) ∧ (Ab_270_34 n4 n3 n2 n1 n0 H0 H1 ∧ preb_270 n4 n3 H0) ∧ some q0 = some (mub_270_34 n4 n3 n2 n1 n0 H0 H1)) (f9 : 0 ≤ n0) (f10 : n5 = 347) (f11 : n5 = hV H1 (n2).toNat 86) (f12 : n6 ≤ 16) (f13 : 0 ≤ n6) (f14 : n6 = hV H1 (n5).toNat (n0).toNat) (f15 : n7 = 296) (f16 : n7 = hV H1 (n2).toNat 22) (f17 : n8 = 346) (f18 : n8 = hV H1 (n2).toNat 85) (f19 : n9 ≤ 62) (f20 : 0 ≤ n9) (f21 : n9 = hV H1 (n8).toNat (n0).toNat) (f22 : n10 ≤ 16) (f23 : 0 ≤ n10) (f24 : n10 = hV H1 (n7).toNat (n9).toNat) (f25 : n6 ≠ n10) (f26 : n11 = 16) (f27 : n12 = 346) (f28 : n12 = hV H1 (n2).toNat 85) (f29 : n13 ≤ 62) (f30 : 0 ≤ n13) (f31 : n13 = hV H1 (n12).toNat (n0).toNat) (f32 : n14 = w32 (n11 * n13)) (f33 : n15 = 347) (f34 : n15 = hV H1 (n2).toNat 86) (f35 : n16 ≤ 16) (f36 : 0 ≤ n16) (f37 : n16 = hV H1 (n15).toNat (n0).toNat) (f38 : n17 = w32 (n14 + n16)) (f39 : n18 = 347) (f40 : n18 = hV H1 (n2).toNat 86) (f41 : n19 ≤ 16) (f42 : 0 ≤ n19) (f43 : n19 = hV H1 (n18).toNat (n0).toNat) (f44 : n20 = 1) (f45 : n21 = w32 (n19 + n20)) (f46 : hUpd H2 H1 n18 n0 n21) (f47 : n22 = 298) (f48 : n22 = hV H2 (n2).toNat 24) (f49 : n23 ≤ 5) (f50 : 0 ≤ n23) (f51 : n23 = hV H2 (n22).toNat (n17).toNat) (f52 : n24 = 5) (f53 : n23 = n24) (f54 : n25 = 348) (f55 : n25 = hV H2 (n2).toNat 87) (f56 : n26 = 1) (f57 : n27 = w32 (n0 + n26)) (f58 : n28 = 301) (f59 : n28 = hV H2 (n2).toNat 27) (f60 : n29 ≤ 9999) (f61 : (-1) ≤ n29) (f62 : n29 = hV H2 (n28).toNat (n17).toNat) (f63 : n30 = 302) (f64 : n30 = hV H2 (n2).toNat 28) (f65 : n31 ≤ 9999) (f66 : (-9999) ≤ n31) (f67 : n31 = hV H2 (n30).toNat (n17).toNat) (f68 : n32 = 348) (f69 : n32 = hV H2 (n2).toNat 87) (f70 : n33 ≤ 1000) (f71 : (-1000) ≤ n33) (f72 : n33 = hV H2 (n32).toNat (n0).toNat) (f73 : n34 ≤ 10999) (f74 : (-10999) ≤ n34) (f75 : (hLe T0 H2 H3 ∧ hFr s_269.2.2.2.2 H2 H3 ∧ ((0 : Int) = 0 → H3.length = H2.length) ∧ hWt T0 H3) ∧ postb_269 n34 n2 n29 n31 n33 H2 H3) (f76 : hUpd H4 H3 n25 n27 n34) (f77 : n35 = 346) (f78 : n35 = hV H4 (n2).toNat 85) (f79 : n36 = 1) (f80 : n37 = w32 (n0 + n36)) (f81 : n38 = 7) (f82 : n39 = w32 (n38 * n1)) (f83 : n40 = 300) (f84 : n40 = hV H4 (n2).toNat 26) (f85 : n41 ≤ 9999) (f86 : (-1) ≤ n41) (f87 : n41 = hV H4 (n40).toNat (n17).toNat) (f88 : n42 = w32 (n39 + n41)) (f89 : hUpd H5 H4 n35 n37 n42) (f90 : n43 = 347) (f91 : n43 = hV H5 (n2).toNat 86) (f92 : n44 = 1) (f93 : n45 = w32 (n0 + n44)) (f94 : n46 = 0) (f95 : hUpd H6 H5 n43 n45 n46) (f96 : n47 = w32 (n0 + 1)) : Ab_270_34 n4 n3 n2 n1 n47 H0 H6 ∧ ∀ q, some q0 = some q → mub_270_34 n4 n3 n2 n1 n47 H0 H6 < q := by
  have g4 := f8.2.1.1
  unfold Ab_270_34 at g4
  have g3 := f8.2.1.2
  unfold preb_270 at g3
  have g5 := Option.some.inj f8.2.2
  unfold mub_270_34 at g5
  unfold postb_269 at f75
  unfold Ab_270_34
  unfold mub_270_34
  have e0 : n6 = hV H1 347 (n0).toNat := (by rw [f10] at f14; exact f14 : n6 = hV H1 347 (n0).toNat)
  have e1 : n9 = hV H1 346 (n0).toNat := (by rw [f17] at f21; exact f21 : n9 = hV H1 346 (n0).toNat)
  have e2 : hV H1 296 = hV H0 296 := fRow f8.1.2.1 296 (by decide +kernel)
  have e3 : n10 = hV H0 296 (n9).toNat := (by rw [f15] at f24; exact f24 : n10 = hV H1 296 (n9).toNat).trans ((congrFun e2 _))
  have e4 : n13 = hV H1 346 (n0).toNat := (by rw [f27] at f31; exact f31 : n13 = hV H1 346 (n0).toNat)
  have e5 : n16 = hV H1 347 (n0).toNat := (by rw [f33] at f37; exact f37 : n16 = hV H1 347 (n0).toNat)
  have e6 : n19 = hV H1 347 (n0).toNat := (by rw [f39] at f43; exact f43 : n19 = hV H1 347 (n0).toNat)
  have e7 : hV H2 298 = hV H1 298 := uRowNe f46 _ (iS (show n18 = ((347 : Nat) : Int) from f39) rfl)
  have e8 : hV H1 298 = hV H0 298 := fRow f8.1.2.1 298 (by decide +kernel)
  have e9 : n23 = hV H0 298 (n17).toNat := (by rw [f47] at f51; exact f51 : n23 = hV H2 298 (n17).toNat).trans (((congrFun e7 _)).trans ((congrFun e8 _)))
  have e10 : hV H2 301 = hV H1 301 := uRowNe f46 _ (iS (show n18 = ((347 : Nat) : Int) from f39) rfl)
  have e11 : hV H1 301 = hV H0 301 := fRow f8.1.2.1 301 (by decide +kernel)
  have e12 : n29 = hV H0 301 (n17).toNat := (by rw [f58] at f62; exact f62 : n29 = hV H2 301 (n17).toNat).trans (((congrFun e10 _)).trans ((congrFun e11 _)))
  have e13 : hV H2 302 = hV H1 302 := uRowNe f46 _ (iS (show n18 = ((347 : Nat) : Int) from f39) rfl)
  have e14 : hV H1 302 = hV H0 302 := fRow f8.1.2.1 302 (by decide +kernel)
  have e15 : n31 = hV H0 302 (n17).toNat := (by rw [f63] at f67; exact f67 : n31 = hV H2 302 (n17).toNat).trans (((congrFun e13 _)).trans ((congrFun e14 _)))
  have e16 : hV H2 348 = hV H1 348 := uRowNe f46 _ (iS (show n18 = ((347 : Nat) : Int) from f39) rfl)
  have e17 : n33 = hV H1 348 (n0).toNat := (by rw [f68] at f72; exact f72 : n33 = hV H2 348 (n0).toNat).trans ((congrFun e16 _))
  have e18 : hV H4 300 = hV H3 300 := uRowNe f76 _ (iS (show n25 = ((348 : Nat) : Int) from f54) rfl)
  have e19 : hV H3 300 = hV H2 300 := fRow f75.1.2.1 300 (by decide +kernel)
  have e20 : hV H2 300 = hV H1 300 := uRowNe f46 _ (iS (show n18 = ((347 : Nat) : Int) from f39) rfl)
  have e21 : hV H1 300 = hV H0 300 := fRow f8.1.2.1 300 (by decide +kernel)
  have e22 : n41 = hV H0 300 (n17).toNat := (by rw [f83] at f87; exact f87 : n41 = hV H4 300 (n17).toNat).trans (((congrFun e18 _)).trans (((congrFun e19 _)).trans (((congrFun e20 _)).trans ((congrFun e21 _)))))
  have e23 : hV H1 285 18 = hV H0 285 18 := f8.1.2.1.1 285 18 (by decide +kernel)
  have e24 : hV H1 285 18 = hV H0 285 18 := e23
  have e25 : hV H1 294 = hV H0 294 := fRow f8.1.2.1 294 (by decide +kernel)
  have e26 : hV H6 285 82 = hV H5 285 82 := uPlace f95 _ _ (iS (show n43 = ((347 : Nat) : Int) from f90) rfl)
  have e27 : hV H5 285 82 = hV H4 285 82 := uPlace f89 _ _ (iS (show n35 = ((346 : Nat) : Int) from f77) rfl)
  have e28 : hV H4 285 82 = hV H3 285 82 := uPlace f76 _ _ (iS (show n25 = ((348 : Nat) : Int) from f54) rfl)
  have e29 : hV H3 285 82 = hV H2 285 82 := f75.1.2.1.1 285 82 (by decide +kernel)
  have e30 : hV H2 285 82 = hV H1 285 82 := uPlace f46 _ _ (iS (show n18 = ((347 : Nat) : Int) from f39) rfl)
  have e31 : hV H6 285 82 = hV H1 285 82 := (e26).trans ((e27).trans ((e28).trans ((e29).trans e30)))
  have e32 : hV H6 294 = hV H5 294 := uRowNe f95 _ (iS (show n43 = ((347 : Nat) : Int) from f90) rfl)
  have e33 : hV H5 294 = hV H4 294 := uRowNe f89 _ (iS (show n35 = ((346 : Nat) : Int) from f77) rfl)
  have e34 : hV H4 294 = hV H3 294 := uRowNe f76 _ (iS (show n25 = ((348 : Nat) : Int) from f54) rfl)
  have e35 : hV H3 294 = hV H2 294 := fRow f75.1.2.1 294 (by decide +kernel)
  have e36 : hV H2 294 = hV H1 294 := uRowNe f46 _ (iS (show n18 = ((347 : Nat) : Int) from f39) rfl)
  have e37 : hV H2 294 = hV H0 294 := e36.trans e25
  have e38 : hV H3 294 = hV H0 294 := e35.trans e37
  have e39 : hV H4 294 = hV H0 294 := e34.trans e38
  have e40 : hV H5 294 = hV H0 294 := e33.trans e39
  have e41 : hV H6 294 = hV H0 294 := e32.trans e40
  have e42 : hV H6 296 = hV H5 296 := uRowNe f95 _ (iS (show n43 = ((347 : Nat) : Int) from f90) rfl)
  have e43 : hV H5 296 = hV H4 296 := uRowNe f89 _ (iS (show n35 = ((346 : Nat) : Int) from f77) rfl)
  have e44 : hV H4 296 = hV H3 296 := uRowNe f76 _ (iS (show n25 = ((348 : Nat) : Int) from f54) rfl)
  have e45 : hV H3 296 = hV H2 296 := fRow f75.1.2.1 296 (by decide +kernel)
  have e46 : hV H2 296 = hV H1 296 := uRowNe f46 _ (iS (show n18 = ((347 : Nat) : Int) from f39) rfl)
  have e47 : hV H2 296 = hV H0 296 := e46.trans e2
  have e48 : hV H3 296 = hV H0 296 := e45.trans e47
  have e49 : hV H4 296 = hV H0 296 := e44.trans e48
  have e50 : hV H5 296 = hV H0 296 := e43.trans e49
  have e51 : hV H6 296 = hV H0 296 := e42.trans e50
  have e52 : hV H6 298 = hV H5 298 := uRowNe f95 _ (iS (show n43 = ((347 : Nat) : Int) from f90) rfl)
  have e53 : hV H5 298 = hV H4 298 := uRowNe f89 _ (iS (show n35 = ((346 : Nat) : Int) from f77) rfl)
  have e54 : hV H4 298 = hV H3 298 := uRowNe f76 _ (iS (show n25 = ((348 : Nat) : Int) from f54) rfl)
  have e55 : hV H3 298 = hV H2 298 := fRow f75.1.2.1 298 (by decide +kernel)
  have e56 : hV H2 298 = hV H0 298 := e7.trans e8
  have e57 : hV H3 298 = hV H0 298 := e55.trans e56
  have e58 : hV H4 298 = hV H0 298 := e54.trans e57
  have e59 : hV H5 298 = hV H0 298 := e53.trans e58
  have e60 : hV H6 298 = hV H0 298 := e52.trans e59
  have e61 : hV H6 300 = hV H5 300 := uRowNe f95 _ (iS (show n43 = ((347 : Nat) : Int) from f90) rfl)
  have e62 : hV H5 300 = hV H4 300 := uRowNe f89 _ (iS (show n35 = ((346 : Nat) : Int) from f77) rfl)
  have e63 : hV H2 300 = hV H0 300 := e20.trans e21
  have e64 : hV H3 300 = hV H0 300 := e19.trans e63
  have e65 : hV H4 300 = hV H0 300 := e18.trans e64
  have e66 : hV H5 300 = hV H0 300 := e62.trans e65
  have e67 : hV H6 300 = hV H0 300 := e61.trans e66
  have e68 : hV H6 344 = hV H5 344 := uRowNe f95 _ (iS (show n43 = ((347 : Nat) : Int) from f90) rfl)
  have e69 : hV H5 344 = hV H4 344 := uRowNe f89 _ (iS (show n35 = ((346 : Nat) : Int) from f77) rfl)
  have e70 : hV H4 344 = hV H3 344 := uRowNe f76 _ (iS (show n25 = ((348 : Nat) : Int) from f54) rfl)
  have e71 : hV H3 344 = hV H2 344 := fRow f75.1.2.1 344 (by decide +kernel)
  have e72 : hV H2 344 = hV H1 344 := uRowNe f46 _ (iS (show n18 = ((347 : Nat) : Int) from f39) rfl)
  have e73 : hV H3 344 = hV H1 344 := e71.trans e72
  have e74 : hV H4 344 = hV H1 344 := e70.trans e73
  have e75 : hV H5 344 = hV H1 344 := e69.trans e74
  have e76 : hV H6 344 = hV H1 344 := e68.trans e75
  have e77 : hV H6 346 = hV H5 346 := uRowNe f95 _ (iS (show n43 = ((347 : Nat) : Int) from f90) rfl)
  have e78 : hV H5 346 = uF (hV H4 346) n37 n42 := uRow f89 _ f77.symm
  have e79 : hV H4 346 = hV H3 346 := uRowNe f76 _ (iS (show n25 = ((348 : Nat) : Int) from f54) rfl)
  have e80 : hV H3 346 = hV H2 346 := fRow f75.1.2.1 346 (by decide +kernel)
  have e81 : hV H2 346 = hV H1 346 := uRowNe f46 _ (iS (show n18 = ((347 : Nat) : Int) from f39) rfl)
  have e82 : hV H3 346 = hV H1 346 := e80.trans e81
  have e83 : hV H4 346 = hV H1 346 := e79.trans e82
  have e84 : hV H5 346 = (uF (hV H1 346) n37 n42) := e78.trans (congrArg (fun z => uF z n37 n42) e83)
  have e85 : hV H6 346 = (uF (hV H1 346) n37 n42) := e77.trans e84
  have e86 : hV H6 347 = uF (hV H5 347) n45 n46 := uRow f95 _ f90.symm
  have e87 : hV H5 347 = hV H4 347 := uRowNe f89 _ (iS (show n35 = ((346 : Nat) : Int) from f77) rfl)
  have e88 : hV H4 347 = hV H3 347 := uRowNe f76 _ (iS (show n25 = ((348 : Nat) : Int) from f54) rfl)
  have e89 : hV H3 347 = hV H2 347 := fRow f75.1.2.1 347 (by decide +kernel)
  have e90 : hV H2 347 = uF (hV H1 347) n0 n21 := uRow f46 _ f39.symm
  have e91 : hV H3 347 = (uF (hV H1 347) n0 n21) := e89.trans e90
  have e92 : hV H4 347 = (uF (hV H1 347) n0 n21) := e88.trans e91
  have e93 : hV H5 347 = (uF (hV H1 347) n0 n21) := e87.trans e92
  have e94 : hV H6 347 = (uF (uF (hV H1 347) n0 n21) n45 n46) := e86.trans (congrArg (fun z => uF z n45 n46) e93)
  have e95 : hV H6 348 = hV H5 348 := uRowNe f95 _ (iS (show n43 = ((347 : Nat) : Int) from f90) rfl)
  have e96 : hV H5 348 = hV H4 348 := uRowNe f89 _ (iS (show n35 = ((346 : Nat) : Int) from f77) rfl)
  have e97 : hV H4 348 = uF (hV H3 348) n27 n34 := uRow f76 _ f54.symm
  have e98 : hV H3 348 = hV H2 348 := fRow f75.1.2.1 348 (by decide +kernel)
  have e99 : hV H3 348 = hV H1 348 := e98.trans e16
  have e100 : hV H4 348 = (uF (hV H1 348) n27 n34) := e97.trans (congrArg (fun z => uF z n27 n34) e99)
  have e101 : hV H5 348 = (uF (hV H1 348) n27 n34) := e96.trans e100
  have e102 : hV H6 348 = (uF (hV H1 348) n27 n34) := e95.trans e101
  have e103 : (0 : Int) ≤ hV H1 285 18 ∧ hV H1 285 18 ≤ 8 := f8.1.2.2 285 18 _ _ (by decide +kernel)
  have e104 : (0 : Int) ≤ hV H1 285 82 ∧ hV H1 285 82 ≤ 40 := f8.1.2.2 285 82 _ _ (by decide +kernel)
  try simp only [e24, e25, e2, e8, e21, e31, e41, e51, e60, e67, e76, e85, e94, e102] at f8
  try simp only [e24, e25, e2, e8, e21, e31, e41, e51, e60, e67, e76, e85, e94, e102] at f75
  try simp only [e24, e25, e2, e8, e21, e31, e41, e51, e60, e67, e76, e85, e94, e102] at e103
  try simp only [e24, e25, e2, e8, e21, e31, e41, e51, e60, e67, e76, e85, e94, e102] at e104
  try simp only [e24, e25, e2, e8, e21, e31, e41, e51, e60, e67, e76, e85, e94, e102] at g3
  try simp only [e24, e25, e2, e8, e21, e31, e41, e51, e60, e67, e76, e85, e94, e102] at g4
  try simp only [e24, e25, e2, e8, e21, e31, e41, e51, e60, e67, e76, e85, e94, e102] at g5
  try simp only [e24, e25, e2, e8, e21, e31, e41, e51, e60, e67, e76, e85, e94, e102]
  have k0 := g4.1
  have y0 := g4.2.1
  have y1 := g4.2.2.1
  have y2 := g4.2.2.2
  have p0 := g3.1
  have p1 := g3.2
  have r0_0 := f75.2
  try simp only [e24, e25, e2, e8, e21, e31, e41, e51, e60, e67, e76, e85, e94, e102] at k0
  try simp only [e24, e25, e2, e8, e21, e31, e41, e51, e60, e67, e76, e85, e94, e102] at y0
  try simp only [e24, e25, e2, e8, e21, e31, e41, e51, e60, e67, e76, e85, e94, e102] at y1
  try simp only [e24, e25, e2, e8, e21, e31, e41, e51, e60, e67, e76, e85, e94, e102] at y2
  try simp only [e24, e25, e2, e8, e21, e31, e41, e51, e60, e67, e76, e85, e94, e102] at p0
  try simp only [e24, e25, e2, e8, e21, e31, e41, e51, e60, e67, e76, e85, e94, e102] at p1
  try simp only [e24, e25, e2, e8, e21, e31, e41, e51, e60, e67, e76, e85, e94, e102] at r0_0
  clear g3
  clear g4
  clear f11 f14 f16 f18 f21 f24 f28 f31 f34 f37 f40 f43 f48 f51 f55 f59 f62 f64 f67 f69 f72 f78 f84 f87 f91 e2 e7 e8 e10 e11 e13 e14 e16 e18 e19 e20 e21 e23 e24 e25 e26 e27 e28 e29 e30 e31 e32 e33 e34 e35 e36 e37 e38 e39 e40 e41 e42 e43 e44 e45 e46 e47 e48 e49 e50 e51 e52 e53 e54 e55 e56 e57 e58 e59 e60 e61 e62 e63 e64 e65 e66 e67 e68 e69 e70 e71 e72 e73 e74 e75 e76 e77 e79 e80 e81 e82 e83 e84 e85 e87 e88 e89 e91 e92 e93 e94 e95 e96 e98 e99 e100 e101 e102
  subst e0
  subst e1
  subst e3
  subst e4
  subst e5
  subst e6
  subst e9
  subst e12
  subst e15
  subst e17
  subst e22
  rw [f26] at f32
  rw [f81] at f82
  unfold w32 at *
  try have ca := cue_at (p1 (n3).toNat (by omega)) y0 (by omega) (by omega) (c := (16 * hV H1 346 (n0).toNat + hV H1 347 (n0).toNat)) (by omega)
  try have sh := y1 (n0).toNat (by omega)
  try have lv := y0 (n0).toNat (by omega)
  try (have ix0 : n14 = 16 * (hV H1 346 (n0).toNat) := (by omega); subst ix0)
  try (have ix1 : n17 = (16 * (hV H1 346 (n0).toNat)) + hV H1 347 (n0).toNat := (by omega); subst ix1)
  try (have ix2 : n21 = hV H1 347 (n0).toNat + 1 := (by omega); subst ix2)
  try (have ix3 : n27 = n0 + 1 := (by omega); subst ix3)
  try (have ix4 : n37 = n0 + 1 := (by omega); subst ix4)
  try (have ix5 : n39 = 7 * n1 := (by omega); subst ix5)
  try (have ix6 : n42 = (7 * n1) + hV H0 300 (((16 * (hV H1 346 (n0).toNat)) + hV H1 347 (n0).toNat)).toNat := (by omega); subst ix6)
  try (have ix7 : n45 = n0 + 1 := (by omega); subst ix7)
  try (have ix8 : n47 = n0 + 1 := (by omega); subst ix8)

  have ua := use_at (p1 (n3).toNat (by omega)) y0 (by omega) (by omega) (c := (16 * hV H1 346 (n0).toNat + hV H1 347 (n0).toNat)) (by omega) (by omega)
  have uu := ULp_use y2 (p1 (n3).toNat (by omega)) y0 (by omega) (by omega) (c := (16 * hV H1 346 (n0).toNat + hV H1 347 (n0).toNat)) (by omega) (by omega)
  refine ⟨?_, fun q hq => ?_⟩
  · exact ⟨by first | omega | trivial, LVp_use (LVp_next y0 (by omega) (by omega) (by omega) (by omega)) (by omega) (by omega) (by omega) (by omega) (by omega) (hV H0 300 (16 * hV H1 346 (n0).toNat + hV H1 347 (n0).toNat).toNat) (by omega) (by omega) (by omega) (by omega) (by omega), SHp_use y1 (by omega) (by omega) (by omega) (by omega) (by omega), uu _ _ _ _ _ _ _ (by omega) (by omega) (by omega) (by omega) (by omega) (by omega) (by omega)⟩
  · have g6 := Option.some.inj hq
    subst g6
    rw [g5]
    exact MS_lt_use (cw := fun _ => 0) y0 (by omega) (by omega) (k := _) ua.1 ua.2.2.1 ua.2.2.2.2.2.2.2.2 (by omega) (by omega) (by omega) (by omega) (by omega) (by omega) (by omega)
theorem c_270_34_17 {q0 : Nat} : vOkm T0 (eP e_270 L_270 A_270 mu_270 (some q0)) 2 ([(10, [47, 4], [], 1), (80, [43, 45, 46], [6, 5], 0), (0, [46], [], 0), (1, [45, 4, 44], [], 0), (0, [44], [], 1), (20, [43, 2], [5], 86), (0, [43], [], 347), (80, [35, 37, 42], [5, 4], 0), (1, [42, 39, 41], [], 0), (22, [41, 40, 17], [4], 0), (90, [41], [], -1), (91, [41], [], 9999), (20, [40, 2], [4], 26), (0, [40], [], 300), (3, [39, 38, 3], [], 0), (0, [38], [], 7), (1, [37, 4, 36], [], 0), (0, [36], [], 1), (20, [35, 2], [4], 85), (0, [35], [], 346), (80, [25, 27, 34], [4, 3], 0), (1269, [34, 2, 29, 31, 33], [2, 3], 0), (90, [34], [], -10999), (91, [34], [], 10999), (22, [33, 32, 4], [2], 0), (90, [33], [], -1000), (91, [33], [], 1000), (20, [32, 2], [2], 87), (0, [32], [], 348), (22, [31, 30, 17], [2], 0), (90, [31], [], -9999), (91, [31], [], 9999), (20, [30, 2], [2], 28), (0, [30], [], 302), (22, [29, 28, 17], [2], 0), (90, [29], [], -1), (91, [29], [], 9999), (20, [28, 2], [2], 27), (0, [28], [], 301), (1, [27, 4, 26], [], 0), (0, [26], [], 1), (20, [25, 2], [2], 87), (0, [25], [], 348), (40, [23, 24], [], 0), (0, [24], [], 5), (22, [23, 22, 17], [2], 0), (90, [23], [], 0), (91, [23], [], 5), (20, [22, 2], [2], 24), (0, [22], [], 298), (80, [18, 4, 21], [2, 1], 0), (1, [21, 19, 20], [], 0), (0, [20], [], 1), (22, [19, 18, 4], [1], 0), (90, [19], [], 0), (91, [19], [], 16), (20, [18, 2], [1], 86), (0, [18], [], 347), (1, [17, 14, 16], [], 0), (22, [16, 15, 4], [1], 0), (90, [16], [], 0), (91, [16], [], 16), (20, [15, 2], [1], 86), (0, [15], [], 347), (3, [14, 11, 13], [], 0), (22, [13, 12, 4], [1], 0), (90, [13], [], 0), (91, [13], [], 62), (20, [12, 2], [1], 85), (0, [12], [], 346), (0, [11], [], 16), (41, [6, 10], [], 0), (22, [10, 7, 9], [1], 0), (90, [10], [], 0), (91, [10], [], 16), (22, [9, 8, 4], [1], 0), (90, [9], [], 0), (91, [9], [], 62), (20, [8, 2], [1], 85), (0, [8], [], 346), (20, [7, 2], [1], 22), (0, [7], [], 296), (22, [6, 5, 4], [1], 0), (90, [6], [], 0), (91, [6], [], 16), (20, [5, 2], [1], 86), (0, [5], [], 347), (33, [4], [], 0), (5000, [0, 1, 2, 3, 4], [0, 1], 34), (0, [0], [], 285), (90, [1], [], 0), (91, [1], [], 7), (0, [2], [], 285), (90, [3], [], 0), (91, [3], [], 7), (90, [4], [], -1), (91, [4], [], 6)], (4000, [2, 3, 47], [6], 34)) := vOk_in fun ρ η h => by
  obtain ⟨f0, f1, f2, f3, f4, f5, f6, f7, f8, f9, f10, f11, f12, f13, f14, f15, f16, f17, f18, f19, f20, f21, f22, f23, f24, f25, f26, f27, f28, f29, f30, f31, f32, f33, f34, f35, f36, f37, f38, f39, f40, f41, f42, f43, f44, f45, f46, f47, f48, f49, f50, f51, f52, f53, f54, f55, f56, f57, f58, f59, f60, f61, f62, f63, f64, f65, f66, f67, f68, f69, f70, f71, f72, f73, f74, f75, f76, f77, f78, f79, f80, f81, f82, f83, f84, f85, f86, f87, f88, f89, f90, f91, f92, f93, f94, f95, f96, _⟩ := h
  exact q_270_20 (q0 := q0) (n0 := ρ 4) (n1 := ρ 3) (n2 := ρ 2) (n3 := ρ 1) (n4 := ρ 0) (n5 := ρ 5) (n6 := ρ 6) (n7 := ρ 7) (n8 := ρ 8) (n9 := ρ 9) (n10 := ρ 10) (n11 := ρ 11) (n12 := ρ 12) (n13 := ρ 13) (n14 := ρ 14) (n15 := ρ 15) (n16 := ρ 16) (n17 := ρ 17) (n18 := ρ 18) (n19 := ρ 19) (n20 := ρ 20) (n21 := ρ 21) (n22 := ρ 22) (n23 := ρ 23) (n24 := ρ 24) (n25 := ρ 25) (n26 := ρ 26) (n27 := ρ 27) (n28 := ρ 28) (n29 := ρ 29) (n30 := ρ 30) (n31 := ρ 31) (n32 := ρ 32) (n33 := ρ 33) (n34 := ρ 34) (n35 := ρ 35) (n36 := ρ 36) (n37 := ρ 37) (n38 := ρ 38) (n39 := ρ 39) (n40 := ρ 40) (n41 := ρ 41) (n42 := ρ 42) (n43 := ρ 43) (n44 := ρ 44) (n45 := ρ 45) (n46 := ρ 46) (n47 := ρ 47) (H0 := η 0) (H1 := η 1) (H2 := η 2) (H3 := η 3) (H4 := η 4) (H5 := η 5) (H6 := η 6) f96 f95 f94 f93 f92 f91 f90 f89 f88 f87 f86 f85 f84 f83 f82 f81 f80 f79 f78 f77 f76 f75 f74 f73 f72 f71 f70 f69 f68 f67 f66 f65 f64 f63 f62 f61 f60 f59 f58 f57 f56 f55 f54 f53 f52 f51 f50 f49 f48 f47 f46 f45 f44 f43 f42 f41 f40 f39 f38 f37 f36 f35 f34 f33 f32 f31 f30 f29 f28 f27 f26 f25 f24 f23 f22 f21 f20 f19 f18 f17 f16 f15 f14 f13 f12 f11 f10 f9 f8 f7 f6 f5 f4 f3 f2 f1 f0
theorem q_270_21 {q0 : Nat} {n0 n1 n2 n3 n4 n5 n6 n7 n8 n9 n10 n11 n12 n13 n14 n15 n16 n17 n18 n19 n20 n21 n22 n23 n24 n25 : Int} {H0 H1 H2 : gH} (f0 : n0 ≤ 6) (f1 : (-1) ≤ n0) (f2 : n1 ≤ 7) (f3 : 0 ≤ n1) (f4 : n2 = 285) (f5 : n3 ≤ 7) (f6 : 0 ≤ n3) (f7 : n4 = 285) (f8 : (hLe T0 H0 H1 ∧ hFr s_270.2.2.2.2 H0 H1 ∧ hWt T0 H1) ∧ (Ab_270_34 n4 n3 n2 n1 n0 H0 H1 ∧ preb_270 n4 n3 H0) ∧ some q0 = some (mub_270_34 n4 n3 n2 n1 n0 H0 H1)) (f9 : 0 ≤ n0) (f10 : n5 = 347) (f11 : n5 = hV H1 (n2).toNat 86) (f12 : n6 ≤ 16) (f13 : 0 ≤ n6) (f14 : n6 = hV H1 (n5).toNat (n0).toNat) (f15 : n7 = 296) (f16 : n7 = hV H1 (n2).toNat 22) (f17 : n8 = 346) (f18 : n8 = hV H1 (n2).toNat 85) (f19 : n9 ≤ 62) (f20 : 0 ≤ n9) (f21 : n9 = hV H1 (n8).toNat (n0).toNat) (f22 : n10 ≤ 16) (f23 : 0 ≤ n10) (f24 : n10 = hV H1 (n7).toNat (n9).toNat) (f25 : n6 ≠ n10) (f26 : n11 = 16) (f27 : n12 = 346) (f28 : n12 = hV H1 (n2).toNat 85) (f29 : n13 ≤ 62) (f30 : 0 ≤ n13) (f31 : n13 = hV H1 (n12).toNat (n0).toNat) (f32 : n14 = w32 (n11 * n13)) (f33 : n15 = 347) (f34 : n15 = hV H1 (n2).toNat 86) (f35 : n16 ≤ 16) (f36 : 0 ≤ n16) (f37 : n16 = hV H1 (n15).toNat (n0).toNat) (f38 : n17 = w32 (n14 + n16)) (f39 : n18 = 347) (f40 : n18 = hV H1 (n2).toNat 86) (f41 : n19 ≤ 16) (f42 : 0 ≤ n19) (f43 : n19 = hV H1 (n18).toNat (n0).toNat) (f44 : n20 = 1) (f45 : n21 = w32 (n19 + n20)) (f46 : hUpd H2 H1 n18 n0 n21) (f47 : n22 = 298) (f48 : n22 = hV H2 (n2).toNat 24) (f49 : n23 ≤ 5) (f50 : 0 ≤ n23) (f51 : n23 = hV H2 (n22).toNat (n17).toNat) (f52 : n24 = 5) (f53 : n23 ≠ n24) (f54 : n25 ≤ 40) (f55 : 0 ≤ n25) (f56 : n25 = hV H2 (n2).toNat 82) : 0 ≤ n25 ∧ n25 < 40 := by
  have g4 := f8.2.1.1
  unfold Ab_270_34 at g4
  have g3 := f8.2.1.2
  unfold preb_270 at g3
  have e0 : n6 = hV H1 347 (n0).toNat := (by rw [f10] at f14; exact f14 : n6 = hV H1 347 (n0).toNat)
  have e1 : n9 = hV H1 346 (n0).toNat := (by rw [f17] at f21; exact f21 : n9 = hV H1 346 (n0).toNat)
  have e2 : hV H1 296 = hV H0 296 := fRow f8.1.2.1 296 (by decide +kernel)
  have e3 : n10 = hV H0 296 (n9).toNat := (by rw [f15] at f24; exact f24 : n10 = hV H1 296 (n9).toNat).trans ((congrFun e2 _))
  have e4 : n13 = hV H1 346 (n0).toNat := (by rw [f27] at f31; exact f31 : n13 = hV H1 346 (n0).toNat)
  have e5 : n16 = hV H1 347 (n0).toNat := (by rw [f33] at f37; exact f37 : n16 = hV H1 347 (n0).toNat)
  have e6 : n19 = hV H1 347 (n0).toNat := (by rw [f39] at f43; exact f43 : n19 = hV H1 347 (n0).toNat)
  have e7 : hV H2 298 = hV H1 298 := uRowNe f46 _ (iS (show n18 = ((347 : Nat) : Int) from f39) rfl)
  have e8 : hV H1 298 = hV H0 298 := fRow f8.1.2.1 298 (by decide +kernel)
  have e9 : n23 = hV H0 298 (n17).toNat := (by rw [f47] at f51; exact f51 : n23 = hV H2 298 (n17).toNat).trans (((congrFun e7 _)).trans ((congrFun e8 _)))
  have e10 : hV H2 285 82 = hV H1 285 82 := uPlace f46 _ _ (iS (show n18 = ((347 : Nat) : Int) from f39) rfl)
  have e11 : n25 = hV H1 285 82 := (by rw [f4] at f56; exact f56 : n25 = hV H2 285 82).trans (e10)
  have e12 : hV H1 285 18 = hV H0 285 18 := f8.1.2.1.1 285 18 (by decide +kernel)
  have e13 : hV H1 285 18 = hV H0 285 18 := e12
  have e14 : hV H1 294 = hV H0 294 := fRow f8.1.2.1 294 (by decide +kernel)
  have e15 : hV H1 300 = hV H0 300 := fRow f8.1.2.1 300 (by decide +kernel)
  have e16 : (0 : Int) ≤ hV H1 285 18 ∧ hV H1 285 18 ≤ 8 := f8.1.2.2 285 18 _ _ (by decide +kernel)
  have e17 : (0 : Int) ≤ hV H1 285 82 ∧ hV H1 285 82 ≤ 40 := f8.1.2.2 285 82 _ _ (by decide +kernel)
  try simp only [e13, e14, e2, e8, e15] at f8
  try simp only [e13, e14, e2, e8, e15] at e16
  try simp only [e13, e14, e2, e8, e15] at e17
  try simp only [e13, e14, e2, e8, e15] at g3
  try simp only [e13, e14, e2, e8, e15] at g4
  try simp only [e13, e14, e2, e8, e15]
  have k0 := g4.1
  have y0 := g4.2.1
  have y1 := g4.2.2.1
  have y2 := g4.2.2.2
  have p0 := g3.1
  have p1 := g3.2
  try simp only [e13, e14, e2, e8, e15] at k0
  try simp only [e13, e14, e2, e8, e15] at y0
  try simp only [e13, e14, e2, e8, e15] at y1
  try simp only [e13, e14, e2, e8, e15] at y2
  try simp only [e13, e14, e2, e8, e15] at p0
  try simp only [e13, e14, e2, e8, e15] at p1
  clear g3
  clear g4
  clear f11 f14 f16 f18 f21 f24 f28 f31 f34 f37 f40 f43 f48 f51 f56 e2 e7 e8 e10 e12 e13 e14 e15
  subst e0
  subst e1
  subst e3
  subst e4
  subst e5
  subst e6
  subst e9
  subst e11
  rw [f26] at f32
  unfold w32 at *
  try have ca := cue_at (p1 (n3).toNat (by omega)) y0 (by omega) (by omega) (c := (16 * hV H1 346 (n0).toNat + hV H1 347 (n0).toNat)) (by omega)
  try have sh := y1 (n0).toNat (by omega)
  try have lv := y0 (n0).toNat (by omega)
  try (have ix0 : n14 = 16 * (hV H1 346 (n0).toNat) := (by omega); subst ix0)
  try (have ix1 : n17 = (16 * (hV H1 346 (n0).toNat)) + hV H1 347 (n0).toNat := (by omega); subst ix1)
  try (have ix2 : n21 = hV H1 347 (n0).toNat + 1 := (by omega); subst ix2)

  first
  | omega
  | (have ca := cue_at (p1 (n3).toNat (by omega)) y0 (by omega) (by omega) (c := (16 * hV H1 346 (n0).toNat + hV H1 347 (n0).toNat)) (by omega)
     omega)
  | (have ua := use_at (p1 (n3).toNat (by omega)) y0 (by omega) (by omega) (c := (16 * hV H1 346 (n0).toNat + hV H1 347 (n0).toNat)) (by omega) (by omega)
     omega)
  | (have ul := ULp_lay y2 (p1 (n3).toNat (by omega)) y0 (by omega) (by omega) (by omega) (c := (16 * hV H1 346 (n0).toNat + hV H1 347 (n0).toNat)) (by omega) (by omega)
     omega)
theorem c_270_34_18 {q0 : Nat} : vOkm T0 (eP e_270 L_270 A_270 mu_270 (some q0)) 2 ([(20, [26, 2], [2], 82), (90, [26], [], 0), (91, [26], [], 40), (41, [23, 24], [], 0), (0, [24], [], 5), (22, [23, 22, 17], [2], 0), (90, [23], [], 0), (91, [23], [], 5), (20, [22, 2], [2], 24), (0, [22], [], 298), (80, [18, 4, 21], [2, 1], 0), (1, [21, 19, 20], [], 0), (0, [20], [], 1), (22, [19, 18, 4], [1], 0), (90, [19], [], 0), (91, [19], [], 16), (20, [18, 2], [1], 86), (0, [18], [], 347), (1, [17, 14, 16], [], 0), (22, [16, 15, 4], [1], 0), (90, [16], [], 0), (91, [16], [], 16), (20, [15, 2], [1], 86), (0, [15], [], 347), (3, [14, 11, 13], [], 0), (22, [13, 12, 4], [1], 0), (90, [13], [], 0), (91, [13], [], 62), (20, [12, 2], [1], 85), (0, [12], [], 346), (0, [11], [], 16), (41, [6, 10], [], 0), (22, [10, 7, 9], [1], 0), (90, [10], [], 0), (91, [10], [], 16), (22, [9, 8, 4], [1], 0), (90, [9], [], 0), (91, [9], [], 62), (20, [8, 2], [1], 85), (0, [8], [], 346), (20, [7, 2], [1], 22), (0, [7], [], 296), (22, [6, 5, 4], [1], 0), (90, [6], [], 0), (91, [6], [], 16), (20, [5, 2], [1], 86), (0, [5], [], 347), (33, [4], [], 0), (5000, [0, 1, 2, 3, 4], [0, 1], 34), (0, [0], [], 285), (90, [1], [], 0), (91, [1], [], 7), (0, [2], [], 285), (90, [3], [], 0), (91, [3], [], 7), (90, [4], [], -1), (91, [4], [], 6)], (70, [26], [], 40)) := vOk_in fun ρ η h => by
  obtain ⟨f0, f1, f2, f3, f4, f5, f6, f7, f8, f9, f10, f11, f12, f13, f14, f15, f16, f17, f18, f19, f20, f21, f22, f23, f24, f25, f26, f27, f28, f29, f30, f31, f32, f33, f34, f35, f36, f37, f38, f39, f40, f41, f42, f43, f44, f45, f46, f47, f48, f49, f50, f51, f52, f53, f54, f55, f56, _⟩ := h
  exact q_270_21 (q0 := q0) (n0 := ρ 4) (n1 := ρ 3) (n2 := ρ 2) (n3 := ρ 1) (n4 := ρ 0) (n5 := ρ 5) (n6 := ρ 6) (n7 := ρ 7) (n8 := ρ 8) (n9 := ρ 9) (n10 := ρ 10) (n11 := ρ 11) (n12 := ρ 12) (n13 := ρ 13) (n14 := ρ 14) (n15 := ρ 15) (n16 := ρ 16) (n17 := ρ 17) (n18 := ρ 18) (n19 := ρ 19) (n20 := ρ 20) (n21 := ρ 21) (n22 := ρ 22) (n23 := ρ 23) (n24 := ρ 24) (n25 := ρ 26) (H0 := η 0) (H1 := η 1) (H2 := η 2) f56 f55 f54 f53 f52 f51 f50 f49 f48 f47 f46 f45 f44 f43 f42 f41 f40 f39 f38 f37 f36 f35 f34 f33 f32 f31 f30 f29 f28 f27 f26 f25 f24 f23 f22 f21 f20 f19 f18 f17 f16 f15 f14 f13 f12 f11 f10 f9 f8 f7 f6 f5 f4 f3 f2 f1 f0
theorem q_270_22 {q0 : Nat} {n0 n1 n2 n3 n4 n5 n6 n7 n8 n9 n10 n11 n12 n13 n14 n15 n16 n17 n18 n19 n20 n21 n22 n23 n24 n25 : Int} {H0 H1 H2 : gH} (f0 : n0 ≤ 6) (f1 : (-1) ≤ n0) (f2 : n1 ≤ 7) (f3 : 0 ≤ n1) (f4 : n2 = 285) (f5 : n3 ≤ 7) (f6 : 0 ≤ n3) (f7 : n4 = 285) (f8 : (hLe T0 H0 H1 ∧ hFr s_270.2.2.2.2 H0 H1 ∧ hWt T0 H1) ∧ (Ab_270_34 n4 n3 n2 n1 n0 H0 H1 ∧ preb_270 n4 n3 H0) ∧ some q0 = some (mub_270_34 n4 n3 n2 n1 n0 H0 H1)) (f9 : 0 ≤ n0) (f10 : n5 = 347) (f11 : n5 = hV H1 (n2).toNat 86) (f12 : n6 ≤ 16) (f13 : 0 ≤ n6) (f14 : n6 = hV H1 (n5).toNat (n0).toNat) (f15 : n7 = 296) (f16 : n7 = hV H1 (n2).toNat 22) (f17 : n8 = 346) (f18 : n8 = hV H1 (n2).toNat 85) (f19 : n9 ≤ 62) (f20 : 0 ≤ n9) (f21 : n9 = hV H1 (n8).toNat (n0).toNat) (f22 : n10 ≤ 16) (f23 : 0 ≤ n10) (f24 : n10 = hV H1 (n7).toNat (n9).toNat) (f25 : n6 ≠ n10) (f26 : n11 = 16) (f27 : n12 = 346) (f28 : n12 = hV H1 (n2).toNat 85) (f29 : n13 ≤ 62) (f30 : 0 ≤ n13) (f31 : n13 = hV H1 (n12).toNat (n0).toNat) (f32 : n14 = w32 (n11 * n13)) (f33 : n15 = 347) (f34 : n15 = hV H1 (n2).toNat 86) (f35 : n16 ≤ 16) (f36 : 0 ≤ n16) (f37 : n16 = hV H1 (n15).toNat (n0).toNat) (f38 : n17 = w32 (n14 + n16)) (f39 : n18 = 347) (f40 : n18 = hV H1 (n2).toNat 86) (f41 : n19 ≤ 16) (f42 : 0 ≤ n19) (f43 : n19 = hV H1 (n18).toNat (n0).toNat) (f44 : n20 = 1) (f45 : n21 = w32 (n19 + n20)) (f46 : hUpd H2 H1 n18 n0 n21) (f47 : n22 = 298) (f48 : n22 = hV H2 (n2).toNat 24) (f49 : n23 ≤ 5) (f50 : 0 ≤ n23) (f51 : n23 = hV H2 (n22).toNat (n17).toNat) (f52 : n24 = 5) (f53 : n23 ≠ n24) (f54 : n25 ≤ 40) (f55 : 0 ≤ n25) (f56 : n25 = hV H2 (n2).toNat 82) : 0 ≤ n17 := by
  have g4 := f8.2.1.1
  unfold Ab_270_34 at g4
  have g3 := f8.2.1.2
  unfold preb_270 at g3
  have e0 : n6 = hV H1 347 (n0).toNat := (by rw [f10] at f14; exact f14 : n6 = hV H1 347 (n0).toNat)
  have e1 : n9 = hV H1 346 (n0).toNat := (by rw [f17] at f21; exact f21 : n9 = hV H1 346 (n0).toNat)
  have e2 : hV H1 296 = hV H0 296 := fRow f8.1.2.1 296 (by decide +kernel)
  have e3 : n10 = hV H0 296 (n9).toNat := (by rw [f15] at f24; exact f24 : n10 = hV H1 296 (n9).toNat).trans ((congrFun e2 _))
  have e4 : n13 = hV H1 346 (n0).toNat := (by rw [f27] at f31; exact f31 : n13 = hV H1 346 (n0).toNat)
  have e5 : n16 = hV H1 347 (n0).toNat := (by rw [f33] at f37; exact f37 : n16 = hV H1 347 (n0).toNat)
  have e6 : n19 = hV H1 347 (n0).toNat := (by rw [f39] at f43; exact f43 : n19 = hV H1 347 (n0).toNat)
  have e7 : hV H2 298 = hV H1 298 := uRowNe f46 _ (iS (show n18 = ((347 : Nat) : Int) from f39) rfl)
  have e8 : hV H1 298 = hV H0 298 := fRow f8.1.2.1 298 (by decide +kernel)
  have e9 : n23 = hV H0 298 (n17).toNat := (by rw [f47] at f51; exact f51 : n23 = hV H2 298 (n17).toNat).trans (((congrFun e7 _)).trans ((congrFun e8 _)))
  have e10 : hV H2 285 82 = hV H1 285 82 := uPlace f46 _ _ (iS (show n18 = ((347 : Nat) : Int) from f39) rfl)
  have e11 : n25 = hV H1 285 82 := (by rw [f4] at f56; exact f56 : n25 = hV H2 285 82).trans (e10)
  have e12 : hV H1 285 18 = hV H0 285 18 := f8.1.2.1.1 285 18 (by decide +kernel)
  have e13 : hV H1 285 18 = hV H0 285 18 := e12
  have e14 : hV H1 294 = hV H0 294 := fRow f8.1.2.1 294 (by decide +kernel)
  have e15 : hV H1 300 = hV H0 300 := fRow f8.1.2.1 300 (by decide +kernel)
  have e16 : (0 : Int) ≤ hV H1 285 18 ∧ hV H1 285 18 ≤ 8 := f8.1.2.2 285 18 _ _ (by decide +kernel)
  have e17 : (0 : Int) ≤ hV H1 285 82 ∧ hV H1 285 82 ≤ 40 := f8.1.2.2 285 82 _ _ (by decide +kernel)
  try simp only [e13, e14, e2, e8, e15] at f8
  try simp only [e13, e14, e2, e8, e15] at e16
  try simp only [e13, e14, e2, e8, e15] at e17
  try simp only [e13, e14, e2, e8, e15] at g3
  try simp only [e13, e14, e2, e8, e15] at g4
  try simp only [e13, e14, e2, e8, e15]
  have k0 := g4.1
  have y0 := g4.2.1
  have y1 := g4.2.2.1
  have y2 := g4.2.2.2
  have p0 := g3.1
  have p1 := g3.2
  try simp only [e13, e14, e2, e8, e15] at k0
  try simp only [e13, e14, e2, e8, e15] at y0
  try simp only [e13, e14, e2, e8, e15] at y1
  try simp only [e13, e14, e2, e8, e15] at y2
  try simp only [e13, e14, e2, e8, e15] at p0
  try simp only [e13, e14, e2, e8, e15] at p1
  clear g3
  clear g4
  clear f11 f14 f16 f18 f21 f24 f28 f31 f34 f37 f40 f43 f48 f51 f56 e2 e7 e8 e10 e12 e13 e14 e15
  subst e0
  subst e1
  subst e3
  subst e4
  subst e5
  subst e6
  subst e9
  subst e11
  rw [f26] at f32
  unfold w32 at *
  try have ca := cue_at (p1 (n3).toNat (by omega)) y0 (by omega) (by omega) (c := (16 * hV H1 346 (n0).toNat + hV H1 347 (n0).toNat)) (by omega)
  try have sh := y1 (n0).toNat (by omega)
  try have lv := y0 (n0).toNat (by omega)
  try (have ix0 : n14 = 16 * (hV H1 346 (n0).toNat) := (by omega); subst ix0)
  try (have ix1 : n17 = (16 * (hV H1 346 (n0).toNat)) + hV H1 347 (n0).toNat := (by omega); subst ix1)
  try (have ix2 : n21 = hV H1 347 (n0).toNat + 1 := (by omega); subst ix2)

  first
  | omega
  | (have ca := cue_at (p1 (n3).toNat (by omega)) y0 (by omega) (by omega) (c := (16 * hV H1 346 (n0).toNat + hV H1 347 (n0).toNat)) (by omega)
     omega)
  | (have ua := use_at (p1 (n3).toNat (by omega)) y0 (by omega) (by omega) (c := (16 * hV H1 346 (n0).toNat + hV H1 347 (n0).toNat)) (by omega) (by omega)
     omega)
  | (have ul := ULp_lay y2 (p1 (n3).toNat (by omega)) y0 (by omega) (by omega) (by omega) (c := (16 * hV H1 346 (n0).toNat + hV H1 347 (n0).toNat)) (by omega) (by omega)
     omega)
theorem c_270_34_19 {q0 : Nat} : vOkm T0 (eP e_270 L_270 A_270 mu_270 (some q0)) 2 ([(20, [26, 2], [2], 82), (90, [26], [], 0), (91, [26], [], 40), (41, [23, 24], [], 0), (0, [24], [], 5), (22, [23, 22, 17], [2], 0), (90, [23], [], 0), (91, [23], [], 5), (20, [22, 2], [2], 24), (0, [22], [], 298), (80, [18, 4, 21], [2, 1], 0), (1, [21, 19, 20], [], 0), (0, [20], [], 1), (22, [19, 18, 4], [1], 0), (90, [19], [], 0), (91, [19], [], 16), (20, [18, 2], [1], 86), (0, [18], [], 347), (1, [17, 14, 16], [], 0), (22, [16, 15, 4], [1], 0), (90, [16], [], 0), (91, [16], [], 16), (20, [15, 2], [1], 86), (0, [15], [], 347), (3, [14, 11, 13], [], 0), (22, [13, 12, 4], [1], 0), (90, [13], [], 0), (91, [13], [], 62), (20, [12, 2], [1], 85), (0, [12], [], 346), (0, [11], [], 16), (41, [6, 10], [], 0), (22, [10, 7, 9], [1], 0), (90, [10], [], 0), (91, [10], [], 16), (22, [9, 8, 4], [1], 0), (90, [9], [], 0), (91, [9], [], 62), (20, [8, 2], [1], 85), (0, [8], [], 346), (20, [7, 2], [1], 22), (0, [7], [], 296), (22, [6, 5, 4], [1], 0), (90, [6], [], 0), (91, [6], [], 16), (20, [5, 2], [1], 86), (0, [5], [], 347), (33, [4], [], 0), (5000, [0, 1, 2, 3, 4], [0, 1], 34), (0, [0], [], 285), (90, [1], [], 0), (91, [1], [], 7), (0, [2], [], 285), (90, [3], [], 0), (91, [3], [], 7), (90, [4], [], -1), (91, [4], [], 6)], (90, [17], [], 0)) := vOk_in fun ρ η h => by
  obtain ⟨f0, f1, f2, f3, f4, f5, f6, f7, f8, f9, f10, f11, f12, f13, f14, f15, f16, f17, f18, f19, f20, f21, f22, f23, f24, f25, f26, f27, f28, f29, f30, f31, f32, f33, f34, f35, f36, f37, f38, f39, f40, f41, f42, f43, f44, f45, f46, f47, f48, f49, f50, f51, f52, f53, f54, f55, f56, _⟩ := h
  exact q_270_22 (q0 := q0) (n0 := ρ 4) (n1 := ρ 3) (n2 := ρ 2) (n3 := ρ 1) (n4 := ρ 0) (n5 := ρ 5) (n6 := ρ 6) (n7 := ρ 7) (n8 := ρ 8) (n9 := ρ 9) (n10 := ρ 10) (n11 := ρ 11) (n12 := ρ 12) (n13 := ρ 13) (n14 := ρ 14) (n15 := ρ 15) (n16 := ρ 16) (n17 := ρ 17) (n18 := ρ 18) (n19 := ρ 19) (n20 := ρ 20) (n21 := ρ 21) (n22 := ρ 22) (n23 := ρ 23) (n24 := ρ 24) (n25 := ρ 26) (H0 := η 0) (H1 := η 1) (H2 := η 2) f56 f55 f54 f53 f52 f51 f50 f49 f48 f47 f46 f45 f44 f43 f42 f41 f40 f39 f38 f37 f36 f35 f34 f33 f32 f31 f30 f29 f28 f27 f26 f25 f24 f23 f22 f21 f20 f19 f18 f17 f16 f15 f14 f13 f12 f11 f10 f9 f8 f7 f6 f5 f4 f3 f2 f1 f0
theorem q_270_23 {q0 : Nat} {n0 n1 n2 n3 n4 n5 n6 n7 n8 n9 n10 n11 n12 n13 n14 n15 n16 n17 n18 n19 n20 n21 n22 n23 n24 n25 : Int} {H0 H1 H2 : gH} (f0 : n0 ≤ 6) (f1 : (-1) ≤ n0) (f2 : n1 ≤ 7) (f3 : 0 ≤ n1) (f4 : n2 = 285) (f5 : n3 ≤ 7) (f6 : 0 ≤ n3) (f7 : n4 = 285) (f8 : (hLe T0 H0 H1 ∧ hFr s_270.2.2.2.2 H0 H1 ∧ hWt T0 H1) ∧ (Ab_270_34 n4 n3 n2 n1 n0 H0 H1 ∧ preb_270 n4 n3 H0) ∧ some q0 = some (mub_270_34 n4 n3 n2 n1 n0 H0 H1)) (f9 : 0 ≤ n0) (f10 : n5 = 347) (f11 : n5 = hV H1 (n2).toNat 86) (f12 : n6 ≤ 16) (f13 : 0 ≤ n6) (f14 : n6 = hV H1 (n5).toNat (n0).toNat) (f15 : n7 = 296) (f16 : n7 = hV H1 (n2).toNat 22) (f17 : n8 = 346) (f18 : n8 = hV H1 (n2).toNat 85) (f19 : n9 ≤ 62) (f20 : 0 ≤ n9) (f21 : n9 = hV H1 (n8).toNat (n0).toNat) (f22 : n10 ≤ 16) (f23 : 0 ≤ n10) (f24 : n10 = hV H1 (n7).toNat (n9).toNat) (f25 : n6 ≠ n10) (f26 : n11 = 16) (f27 : n12 = 346) (f28 : n12 = hV H1 (n2).toNat 85) (f29 : n13 ≤ 62) (f30 : 0 ≤ n13) (f31 : n13 = hV H1 (n12).toNat (n0).toNat) (f32 : n14 = w32 (n11 * n13)) (f33 : n15 = 347) (f34 : n15 = hV H1 (n2).toNat 86) (f35 : n16 ≤ 16) (f36 : 0 ≤ n16) (f37 : n16 = hV H1 (n15).toNat (n0).toNat) (f38 : n17 = w32 (n14 + n16)) (f39 : n18 = 347) (f40 : n18 = hV H1 (n2).toNat 86) (f41 : n19 ≤ 16) (f42 : 0 ≤ n19) (f43 : n19 = hV H1 (n18).toNat (n0).toNat) (f44 : n20 = 1) (f45 : n21 = w32 (n19 + n20)) (f46 : hUpd H2 H1 n18 n0 n21) (f47 : n22 = 298) (f48 : n22 = hV H2 (n2).toNat 24) (f49 : n23 ≤ 5) (f50 : 0 ≤ n23) (f51 : n23 = hV H2 (n22).toNat (n17).toNat) (f52 : n24 = 5) (f53 : n23 ≠ n24) (f54 : n25 ≤ 40) (f55 : 0 ≤ n25) (f56 : n25 = hV H2 (n2).toNat 82) : n17 ≤ 1007 := by
  have g4 := f8.2.1.1
  unfold Ab_270_34 at g4
  have g3 := f8.2.1.2
  unfold preb_270 at g3
  have e0 : n6 = hV H1 347 (n0).toNat := (by rw [f10] at f14; exact f14 : n6 = hV H1 347 (n0).toNat)
  have e1 : n9 = hV H1 346 (n0).toNat := (by rw [f17] at f21; exact f21 : n9 = hV H1 346 (n0).toNat)
  have e2 : hV H1 296 = hV H0 296 := fRow f8.1.2.1 296 (by decide +kernel)
  have e3 : n10 = hV H0 296 (n9).toNat := (by rw [f15] at f24; exact f24 : n10 = hV H1 296 (n9).toNat).trans ((congrFun e2 _))
  have e4 : n13 = hV H1 346 (n0).toNat := (by rw [f27] at f31; exact f31 : n13 = hV H1 346 (n0).toNat)
  have e5 : n16 = hV H1 347 (n0).toNat := (by rw [f33] at f37; exact f37 : n16 = hV H1 347 (n0).toNat)
  have e6 : n19 = hV H1 347 (n0).toNat := (by rw [f39] at f43; exact f43 : n19 = hV H1 347 (n0).toNat)
  have e7 : hV H2 298 = hV H1 298 := uRowNe f46 _ (iS (show n18 = ((347 : Nat) : Int) from f39) rfl)
  have e8 : hV H1 298 = hV H0 298 := fRow f8.1.2.1 298 (by decide +kernel)
  have e9 : n23 = hV H0 298 (n17).toNat := (by rw [f47] at f51; exact f51 : n23 = hV H2 298 (n17).toNat).trans (((congrFun e7 _)).trans ((congrFun e8 _)))
  have e10 : hV H2 285 82 = hV H1 285 82 := uPlace f46 _ _ (iS (show n18 = ((347 : Nat) : Int) from f39) rfl)
  have e11 : n25 = hV H1 285 82 := (by rw [f4] at f56; exact f56 : n25 = hV H2 285 82).trans (e10)
  have e12 : hV H1 285 18 = hV H0 285 18 := f8.1.2.1.1 285 18 (by decide +kernel)
  have e13 : hV H1 285 18 = hV H0 285 18 := e12
  have e14 : hV H1 294 = hV H0 294 := fRow f8.1.2.1 294 (by decide +kernel)
  have e15 : hV H1 300 = hV H0 300 := fRow f8.1.2.1 300 (by decide +kernel)
  have e16 : (0 : Int) ≤ hV H1 285 18 ∧ hV H1 285 18 ≤ 8 := f8.1.2.2 285 18 _ _ (by decide +kernel)
  have e17 : (0 : Int) ≤ hV H1 285 82 ∧ hV H1 285 82 ≤ 40 := f8.1.2.2 285 82 _ _ (by decide +kernel)
  try simp only [e13, e14, e2, e8, e15] at f8
  try simp only [e13, e14, e2, e8, e15] at e16
  try simp only [e13, e14, e2, e8, e15] at e17
  try simp only [e13, e14, e2, e8, e15] at g3
  try simp only [e13, e14, e2, e8, e15] at g4
  try simp only [e13, e14, e2, e8, e15]
  have k0 := g4.1
  have y0 := g4.2.1
  have y1 := g4.2.2.1
  have y2 := g4.2.2.2
  have p0 := g3.1
  have p1 := g3.2
  try simp only [e13, e14, e2, e8, e15] at k0
  try simp only [e13, e14, e2, e8, e15] at y0
  try simp only [e13, e14, e2, e8, e15] at y1
  try simp only [e13, e14, e2, e8, e15] at y2
  try simp only [e13, e14, e2, e8, e15] at p0
  try simp only [e13, e14, e2, e8, e15] at p1
  clear g3
  clear g4
  clear f11 f14 f16 f18 f21 f24 f28 f31 f34 f37 f40 f43 f48 f51 f56 e2 e7 e8 e10 e12 e13 e14 e15
  subst e0
  subst e1
  subst e3
  subst e4
  subst e5
  subst e6
  subst e9
  subst e11
  rw [f26] at f32
  unfold w32 at *
  try have ca := cue_at (p1 (n3).toNat (by omega)) y0 (by omega) (by omega) (c := (16 * hV H1 346 (n0).toNat + hV H1 347 (n0).toNat)) (by omega)
  try have sh := y1 (n0).toNat (by omega)
  try have lv := y0 (n0).toNat (by omega)
  try (have ix0 : n14 = 16 * (hV H1 346 (n0).toNat) := (by omega); subst ix0)
  try (have ix1 : n17 = (16 * (hV H1 346 (n0).toNat)) + hV H1 347 (n0).toNat := (by omega); subst ix1)
  try (have ix2 : n21 = hV H1 347 (n0).toNat + 1 := (by omega); subst ix2)

  first
  | omega
  | (have ca := cue_at (p1 (n3).toNat (by omega)) y0 (by omega) (by omega) (c := (16 * hV H1 346 (n0).toNat + hV H1 347 (n0).toNat)) (by omega)
     omega)
  | (have ua := use_at (p1 (n3).toNat (by omega)) y0 (by omega) (by omega) (c := (16 * hV H1 346 (n0).toNat + hV H1 347 (n0).toNat)) (by omega) (by omega)
     omega)
  | (have ul := ULp_lay y2 (p1 (n3).toNat (by omega)) y0 (by omega) (by omega) (by omega) (c := (16 * hV H1 346 (n0).toNat + hV H1 347 (n0).toNat)) (by omega) (by omega)
     omega)
theorem c_270_34_20 {q0 : Nat} : vOkm T0 (eP e_270 L_270 A_270 mu_270 (some q0)) 2 ([(20, [26, 2], [2], 82), (90, [26], [], 0), (91, [26], [], 40), (41, [23, 24], [], 0), (0, [24], [], 5), (22, [23, 22, 17], [2], 0), (90, [23], [], 0), (91, [23], [], 5), (20, [22, 2], [2], 24), (0, [22], [], 298), (80, [18, 4, 21], [2, 1], 0), (1, [21, 19, 20], [], 0), (0, [20], [], 1), (22, [19, 18, 4], [1], 0), (90, [19], [], 0), (91, [19], [], 16), (20, [18, 2], [1], 86), (0, [18], [], 347), (1, [17, 14, 16], [], 0), (22, [16, 15, 4], [1], 0), (90, [16], [], 0), (91, [16], [], 16), (20, [15, 2], [1], 86), (0, [15], [], 347), (3, [14, 11, 13], [], 0), (22, [13, 12, 4], [1], 0), (90, [13], [], 0), (91, [13], [], 62), (20, [12, 2], [1], 85), (0, [12], [], 346), (0, [11], [], 16), (41, [6, 10], [], 0), (22, [10, 7, 9], [1], 0), (90, [10], [], 0), (91, [10], [], 16), (22, [9, 8, 4], [1], 0), (90, [9], [], 0), (91, [9], [], 62), (20, [8, 2], [1], 85), (0, [8], [], 346), (20, [7, 2], [1], 22), (0, [7], [], 296), (22, [6, 5, 4], [1], 0), (90, [6], [], 0), (91, [6], [], 16), (20, [5, 2], [1], 86), (0, [5], [], 347), (33, [4], [], 0), (5000, [0, 1, 2, 3, 4], [0, 1], 34), (0, [0], [], 285), (90, [1], [], 0), (91, [1], [], 7), (0, [2], [], 285), (90, [3], [], 0), (91, [3], [], 7), (90, [4], [], -1), (91, [4], [], 6)], (91, [17], [], 1007)) := vOk_in fun ρ η h => by
  obtain ⟨f0, f1, f2, f3, f4, f5, f6, f7, f8, f9, f10, f11, f12, f13, f14, f15, f16, f17, f18, f19, f20, f21, f22, f23, f24, f25, f26, f27, f28, f29, f30, f31, f32, f33, f34, f35, f36, f37, f38, f39, f40, f41, f42, f43, f44, f45, f46, f47, f48, f49, f50, f51, f52, f53, f54, f55, f56, _⟩ := h
  exact q_270_23 (q0 := q0) (n0 := ρ 4) (n1 := ρ 3) (n2 := ρ 2) (n3 := ρ 1) (n4 := ρ 0) (n5 := ρ 5) (n6 := ρ 6) (n7 := ρ 7) (n8 := ρ 8) (n9 := ρ 9) (n10 := ρ 10) (n11 := ρ 11) (n12 := ρ 12) (n13 := ρ 13) (n14 := ρ 14) (n15 := ρ 15) (n16 := ρ 16) (n17 := ρ 17) (n18 := ρ 18) (n19 := ρ 19) (n20 := ρ 20) (n21 := ρ 21) (n22 := ρ 22) (n23 := ρ 23) (n24 := ρ 24) (n25 := ρ 26) (H0 := η 0) (H1 := η 1) (H2 := η 2) f56 f55 f54 f53 f52 f51 f50 f49 f48 f47 f46 f45 f44 f43 f42 f41 f40 f39 f38 f37 f36 f35 f34 f33 f32 f31 f30 f29 f28 f27 f26 f25 f24 f23 f22 f21 f20 f19 f18 f17 f16 f15 f14 f13 f12 f11 f10 f9 f8 f7 f6 f5 f4 f3 f2 f1 f0
theorem q_270_24 {q0 : Nat} {n0 n1 n2 n3 n4 n5 n6 n7 n8 n9 n10 n11 n12 n13 n14 n15 n16 n17 n18 n19 n20 n21 n22 n23 n24 n25 n26 n27 n28 n29 : Int} {H0 H1 H2 H3 : gH} (f0 : n0 ≤ 6) (f1 : (-1) ≤ n0) (f2 : n1 ≤ 7) (f3 : 0 ≤ n1) (f4 : n2 = 285) (f5 : n3 ≤ 7) (f6 : 0 ≤ n3) (f7 : n4 = 285) (f8 : (hLe T0 H0 H1 ∧ hFr s_270.2.2.2.2 H0 H1 ∧ hWt T0 H1) ∧ (Ab_270_34 n4 n3 n2 n1 n0 H0 H1 ∧ preb_270 n4 n3 H0) ∧ some q0 = some (mub_270_34 n4 n3 n2 n1 n0 H0 H1)) (f9 : 0 ≤ n0) (f10 : n5 = 347) (f11 : n5 = hV H1 (n2).toNat 86) (f12 : n6 ≤ 16) (f13 : 0 ≤ n6) (f14 : n6 = hV H1 (n5).toNat (n0).toNat) (f15 : n7 = 296) (f16 : n7 = hV H1 (n2).toNat 22) (f17 : n8 = 346) (f18 : n8 = hV H1 (n2).toNat 85) (f19 : n9 ≤ 62) (f20 : 0 ≤ n9) (f21 : n9 = hV H1 (n8).toNat (n0).toNat) (f22 : n10 ≤ 16) (f23 : 0 ≤ n10) (f24 : n10 = hV H1 (n7).toNat (n9).toNat) (f25 : n6 ≠ n10) (f26 : n11 = 16) (f27 : n12 = 346) (f28 : n12 = hV H1 (n2).toNat 85) (f29 : n13 ≤ 62) (f30 : 0 ≤ n13) (f31 : n13 = hV H1 (n12).toNat (n0).toNat) (f32 : n14 = w32 (n11 * n13)) (f33 : n15 = 347) (f34 : n15 = hV H1 (n2).toNat 86) (f35 : n16 ≤ 16) (f36 : 0 ≤ n16) (f37 : n16 = hV H1 (n15).toNat (n0).toNat) (f38 : n17 = w32 (n14 + n16)) (f39 : n18 = 347) (f40 : n18 = hV H1 (n2).toNat 86) (f41 : n19 ≤ 16) (f42 : 0 ≤ n19) (f43 : n19 = hV H1 (n18).toNat (n0).toNat) (f44 : n20 = 1) (f45 : n21 = w32 (n19 + n20)) (f46 : hUpd H2 H1 n18 n0 n21) (f47 : n22 = 298) (f48 : n22 = hV H2 (n2).toNat 24) (f49 : n23 ≤ 5) (f50 : 0 ≤ n23) (f51 : n23 = hV H2 (n22).toNat (n17).toNat) (f52 : n24 = 5) (f53 : n23 ≠ n24) (f54 : n25 = 344) (f55 : n25 = hV H2 (n2).toNat 83) (f56 : n26 ≤ 40) (f57 : 0 ≤ n26) (f58 : n26 = hV H2 (n2).toNat 82) (f59 : hUpd H3 H2 n25 n26 n17) (f60 : n27 ≤ 40) (f61 : 0 ≤ n27) (f62 : n27 = hV H3 (n2).toNat 82) (f63 : n28 = 348) (f64 : n28 = hV H3 (n2).toNat 87) (f65 : n29 ≤ 1000) (f66 : (-1000) ≤ n29) (f67 : n29 = hV H3 (n28).toNat (n0).toNat) : 0 ≤ n27 ∧ n27 < 40 := by
  have g4 := f8.2.1.1
  unfold Ab_270_34 at g4
  have g3 := f8.2.1.2
  unfold preb_270 at g3
  have e0 : n6 = hV H1 347 (n0).toNat := (by rw [f10] at f14; exact f14 : n6 = hV H1 347 (n0).toNat)
  have e1 : n9 = hV H1 346 (n0).toNat := (by rw [f17] at f21; exact f21 : n9 = hV H1 346 (n0).toNat)
  have e2 : hV H1 296 = hV H0 296 := fRow f8.1.2.1 296 (by decide +kernel)
  have e3 : n10 = hV H0 296 (n9).toNat := (by rw [f15] at f24; exact f24 : n10 = hV H1 296 (n9).toNat).trans ((congrFun e2 _))
  have e4 : n13 = hV H1 346 (n0).toNat := (by rw [f27] at f31; exact f31 : n13 = hV H1 346 (n0).toNat)
  have e5 : n16 = hV H1 347 (n0).toNat := (by rw [f33] at f37; exact f37 : n16 = hV H1 347 (n0).toNat)
  have e6 : n19 = hV H1 347 (n0).toNat := (by rw [f39] at f43; exact f43 : n19 = hV H1 347 (n0).toNat)
  have e7 : hV H2 298 = hV H1 298 := uRowNe f46 _ (iS (show n18 = ((347 : Nat) : Int) from f39) rfl)
  have e8 : hV H1 298 = hV H0 298 := fRow f8.1.2.1 298 (by decide +kernel)
  have e9 : n23 = hV H0 298 (n17).toNat := (by rw [f47] at f51; exact f51 : n23 = hV H2 298 (n17).toNat).trans (((congrFun e7 _)).trans ((congrFun e8 _)))
  have e10 : hV H2 285 82 = hV H1 285 82 := uPlace f46 _ _ (iS (show n18 = ((347 : Nat) : Int) from f39) rfl)
  have e11 : n26 = hV H1 285 82 := (by rw [f4] at f58; exact f58 : n26 = hV H2 285 82).trans (e10)
  have e12 : hV H3 285 82 = hV H2 285 82 := uPlace f59 _ _ (iS (show n25 = ((344 : Nat) : Int) from f54) rfl)
  have e13 : n27 = hV H1 285 82 := (by rw [f4] at f62; exact f62 : n27 = hV H3 285 82).trans ((e12).trans e10)
  have e14 : hV H3 348 = hV H2 348 := uRowNe f59 _ (iS (show n25 = ((344 : Nat) : Int) from f54) rfl)
  have e15 : hV H2 348 = hV H1 348 := uRowNe f46 _ (iS (show n18 = ((347 : Nat) : Int) from f39) rfl)
  have e16 : n29 = hV H1 348 (n0).toNat := (by rw [f63] at f67; exact f67 : n29 = hV H3 348 (n0).toNat).trans (((congrFun e14 _)).trans ((congrFun e15 _)))
  have e17 : hV H1 285 18 = hV H0 285 18 := f8.1.2.1.1 285 18 (by decide +kernel)
  have e18 : hV H1 285 18 = hV H0 285 18 := e17
  have e19 : hV H1 294 = hV H0 294 := fRow f8.1.2.1 294 (by decide +kernel)
  have e20 : hV H1 300 = hV H0 300 := fRow f8.1.2.1 300 (by decide +kernel)
  have e21 : (0 : Int) ≤ hV H1 285 18 ∧ hV H1 285 18 ≤ 8 := f8.1.2.2 285 18 _ _ (by decide +kernel)
  have e22 : (0 : Int) ≤ hV H1 285 82 ∧ hV H1 285 82 ≤ 40 := f8.1.2.2 285 82 _ _ (by decide +kernel)
  try simp only [e18, e19, e2, e8, e20] at f8
  try simp only [e18, e19, e2, e8, e20] at e21
  try simp only [e18, e19, e2, e8, e20] at e22
  try simp only [e18, e19, e2, e8, e20] at g3
  try simp only [e18, e19, e2, e8, e20] at g4
  try simp only [e18, e19, e2, e8, e20]
  have k0 := g4.1
  have y0 := g4.2.1
  have y1 := g4.2.2.1
  have y2 := g4.2.2.2
  have p0 := g3.1
  have p1 := g3.2
  try simp only [e18, e19, e2, e8, e20] at k0
  try simp only [e18, e19, e2, e8, e20] at y0
  try simp only [e18, e19, e2, e8, e20] at y1
  try simp only [e18, e19, e2, e8, e20] at y2
  try simp only [e18, e19, e2, e8, e20] at p0
  try simp only [e18, e19, e2, e8, e20] at p1
  clear g3
  clear g4
  clear f11 f14 f16 f18 f21 f24 f28 f31 f34 f37 f40 f43 f48 f51 f55 f58 f62 f64 f67 e2 e7 e8 e10 e12 e14 e15 e17 e18 e19 e20
  subst e0
  subst e1
  subst e3
  subst e4
  subst e5
  subst e6
  subst e9
  subst e11
  subst e13
  subst e16
  rw [f26] at f32
  unfold w32 at *
  try have ca := cue_at (p1 (n3).toNat (by omega)) y0 (by omega) (by omega) (c := (16 * hV H1 346 (n0).toNat + hV H1 347 (n0).toNat)) (by omega)
  try have sh := y1 (n0).toNat (by omega)
  try have lv := y0 (n0).toNat (by omega)
  try (have ix0 : n14 = 16 * (hV H1 346 (n0).toNat) := (by omega); subst ix0)
  try (have ix1 : n17 = (16 * (hV H1 346 (n0).toNat)) + hV H1 347 (n0).toNat := (by omega); subst ix1)
  try (have ix2 : n21 = hV H1 347 (n0).toNat + 1 := (by omega); subst ix2)

  first
  | omega
  | (have ca := cue_at (p1 (n3).toNat (by omega)) y0 (by omega) (by omega) (c := (16 * hV H1 346 (n0).toNat + hV H1 347 (n0).toNat)) (by omega)
     omega)
  | (have ua := use_at (p1 (n3).toNat (by omega)) y0 (by omega) (by omega) (c := (16 * hV H1 346 (n0).toNat + hV H1 347 (n0).toNat)) (by omega) (by omega)
     omega)
  | (have ul := ULp_lay y2 (p1 (n3).toNat (by omega)) y0 (by omega) (by omega) (by omega) (c := (16 * hV H1 346 (n0).toNat + hV H1 347 (n0).toNat)) (by omega) (by omega)
     omega)
theorem c_270_34_21 {q0 : Nat} : vOkm T0 (eP e_270 L_270 A_270 mu_270 (some q0)) 2 ([(22, [30, 29, 4], [3], 0), (90, [30], [], -1000), (91, [30], [], 1000), (20, [29, 2], [3], 87), (0, [29], [], 348), (20, [28, 2], [3], 82), (90, [28], [], 0), (91, [28], [], 40), (80, [25, 26, 17], [3, 2], 0), (20, [26, 2], [2], 82), (90, [26], [], 0), (91, [26], [], 40), (20, [25, 2], [2], 83), (0, [25], [], 344), (41, [23, 24], [], 0), (0, [24], [], 5), (22, [23, 22, 17], [2], 0), (90, [23], [], 0), (91, [23], [], 5), (20, [22, 2], [2], 24), (0, [22], [], 298), (80, [18, 4, 21], [2, 1], 0), (1, [21, 19, 20], [], 0), (0, [20], [], 1), (22, [19, 18, 4], [1], 0), (90, [19], [], 0), (91, [19], [], 16), (20, [18, 2], [1], 86), (0, [18], [], 347), (1, [17, 14, 16], [], 0), (22, [16, 15, 4], [1], 0), (90, [16], [], 0), (91, [16], [], 16), (20, [15, 2], [1], 86), (0, [15], [], 347), (3, [14, 11, 13], [], 0), (22, [13, 12, 4], [1], 0), (90, [13], [], 0), (91, [13], [], 62), (20, [12, 2], [1], 85), (0, [12], [], 346), (0, [11], [], 16), (41, [6, 10], [], 0), (22, [10, 7, 9], [1], 0), (90, [10], [], 0), (91, [10], [], 16), (22, [9, 8, 4], [1], 0), (90, [9], [], 0), (91, [9], [], 62), (20, [8, 2], [1], 85), (0, [8], [], 346), (20, [7, 2], [1], 22), (0, [7], [], 296), (22, [6, 5, 4], [1], 0), (90, [6], [], 0), (91, [6], [], 16), (20, [5, 2], [1], 86), (0, [5], [], 347), (33, [4], [], 0), (5000, [0, 1, 2, 3, 4], [0, 1], 34), (0, [0], [], 285), (90, [1], [], 0), (91, [1], [], 7), (0, [2], [], 285), (90, [3], [], 0), (91, [3], [], 7), (90, [4], [], -1), (91, [4], [], 6)], (70, [28], [], 40)) := vOk_in fun ρ η h => by
  obtain ⟨f0, f1, f2, f3, f4, f5, f6, f7, f8, f9, f10, f11, f12, f13, f14, f15, f16, f17, f18, f19, f20, f21, f22, f23, f24, f25, f26, f27, f28, f29, f30, f31, f32, f33, f34, f35, f36, f37, f38, f39, f40, f41, f42, f43, f44, f45, f46, f47, f48, f49, f50, f51, f52, f53, f54, f55, f56, f57, f58, f59, f60, f61, f62, f63, f64, f65, f66, f67, _⟩ := h
  exact q_270_24 (q0 := q0) (n0 := ρ 4) (n1 := ρ 3) (n2 := ρ 2) (n3 := ρ 1) (n4 := ρ 0) (n5 := ρ 5) (n6 := ρ 6) (n7 := ρ 7) (n8 := ρ 8) (n9 := ρ 9) (n10 := ρ 10) (n11 := ρ 11) (n12 := ρ 12) (n13 := ρ 13) (n14 := ρ 14) (n15 := ρ 15) (n16 := ρ 16) (n17 := ρ 17) (n18 := ρ 18) (n19 := ρ 19) (n20 := ρ 20) (n21 := ρ 21) (n22 := ρ 22) (n23 := ρ 23) (n24 := ρ 24) (n25 := ρ 25) (n26 := ρ 26) (n27 := ρ 28) (n28 := ρ 29) (n29 := ρ 30) (H0 := η 0) (H1 := η 1) (H2 := η 2) (H3 := η 3) f67 f66 f65 f64 f63 f62 f61 f60 f59 f58 f57 f56 f55 f54 f53 f52 f51 f50 f49 f48 f47 f46 f45 f44 f43 f42 f41 f40 f39 f38 f37 f36 f35 f34 f33 f32 f31 f30 f29 f28 f27 f26 f25 f24 f23 f22 f21 f20 f19 f18 f17 f16 f15 f14 f13 f12 f11 f10 f9 f8 f7 f6 f5 f4 f3 f2 f1 f0
theorem q_270_25 {q0 : Nat} {n0 n1 n2 n3 n4 n5 n6 n7 n8 n9 n10 n11 n12 n13 n14 n15 n16 n17 n18 n19 n20 n21 n22 n23 n24 n25 n26 n27 n28 n29 n30 n31 n32 n33 : Int} {H0 H1 H2 H3 H4 : gH} (f0 : n0 ≤ 6) (f1 : (-1) ≤ n0) (f2 : n1 ≤ 7) (f3 : 0 ≤ n1) (f4 : n2 = 285) (f5 : n3 ≤ 7) (f6 : 0 ≤ n3) (f7 : n4 = 285) (f8 : (hLe T0 H0 H1 ∧ hFr s_270.2.2.2.2 H0 H1 ∧ hWt T0 H1) ∧ (Ab_270_34 n4 n3 n2 n1 n0 H0 H1 ∧ preb_270 n4 n3 H0) ∧ some q0 = some (mub_270_34 n4 n3 n2 n1 n0 H0 H1)) (f9 : 0 ≤ n0) (f10 : n5 = 347) (f11 : n5 = hV H1 (n2).toNat 86) (f12 : n6 ≤ 16) (f13 : 0 ≤ n6) (f14 : n6 = hV H1 (n5).toNat (n0).toNat) (f15 : n7 = 296) (f16 : n7 = hV H1 (n2).toNat 22) (f17 : n8 = 346) (f18 : n8 = hV H1 (n2).toNat 85) (f19 : n9 ≤ 62) (f20 : 0 ≤ n9) (f21 : n9 = hV H1 (n8).toNat (n0).toNat) (f22 : n10 ≤ 16) (f23 : 0 ≤ n10) (f24 : n10 = hV H1 (n7).toNat (n9).toNat) (f25 : n6 ≠ n10) (f26 : n11 = 16) (f27 : n12 = 346) (f28 : n12 = hV H1 (n2).toNat 85) (f29 : n13 ≤ 62) (f30 : 0 ≤ n13) (f31 : n13 = hV H1 (n12).toNat (n0).toNat) (f32 : n14 = w32 (n11 * n13)) (f33 : n15 = 347) (f34 : n15 = hV H1 (n2).toNat 86) (f35 : n16 ≤ 16) (f36 : 0 ≤ n16) (f37 : n16 = hV H1 (n15).toNat (n0).toNat) (f38 : n17 = w32 (n14 + n16)) (f39 : n18 = 347) (f40 : n18 = hV H1 (n2).toNat 86) (f41 : n19 ≤ 16) (f42 : 0 ≤ n19) (f43 : n19 = hV H1 (n18).toNat (n0).toNat) (f44 : n20 = 1) (f45 : n21 = w32 (n19 + n20)) (f46 : hUpd H2 H1 n18 n0 n21) (f47 : n22 = 298) (f48 : n22 = hV H2 (n2).toNat 24) (f49 : n23 ≤ 5) (f50 : 0 ≤ n23) (f51 : n23 = hV H2 (n22).toNat (n17).toNat) (f52 : n24 = 5) (f53 : n23 ≠ n24) (f54 : n25 = 344) (f55 : n25 = hV H2 (n2).toNat 83) (f56 : n26 ≤ 40) (f57 : 0 ≤ n26) (f58 : n26 = hV H2 (n2).toNat 82) (f59 : hUpd H3 H2 n25 n26 n17) (f60 : n27 = 345) (f61 : n27 = hV H3 (n2).toNat 84) (f62 : n28 ≤ 40) (f63 : 0 ≤ n28) (f64 : n28 = hV H3 (n2).toNat 82) (f65 : n29 = 348) (f66 : n29 = hV H3 (n2).toNat 87) (f67 : n30 ≤ 1000) (f68 : (-1000) ≤ n30) (f69 : n30 = hV H3 (n29).toNat (n0).toNat) (f70 : hUpd H4 H3 n27 n28 n30) (f71 : n31 ≤ 40) (f72 : 0 ≤ n31) (f73 : n31 = hV H4 (n2).toNat 82) (f74 : n32 = 1) (f75 : n33 = w32 (n31 + n32)) : 0 ≤ n33 := by
  have g4 := f8.2.1.1
  unfold Ab_270_34 at g4
  have g3 := f8.2.1.2
  unfold preb_270 at g3
  have e0 : n6 = hV H1 347 (n0).toNat := (by rw [f10] at f14; exact f14 : n6 = hV H1 347 (n0).toNat)
  have e1 : n9 = hV H1 346 (n0).toNat := (by rw [f17] at f21; exact f21 : n9 = hV H1 346 (n0).toNat)
  have e2 : hV H1 296 = hV H0 296 := fRow f8.1.2.1 296 (by decide +kernel)
  have e3 : n10 = hV H0 296 (n9).toNat := (by rw [f15] at f24; exact f24 : n10 = hV H1 296 (n9).toNat).trans ((congrFun e2 _))
  have e4 : n13 = hV H1 346 (n0).toNat := (by rw [f27] at f31; exact f31 : n13 = hV H1 346 (n0).toNat)
  have e5 : n16 = hV H1 347 (n0).toNat := (by rw [f33] at f37; exact f37 : n16 = hV H1 347 (n0).toNat)
  have e6 : n19 = hV H1 347 (n0).toNat := (by rw [f39] at f43; exact f43 : n19 = hV H1 347 (n0).toNat)
  have e7 : hV H2 298 = hV H1 298 := uRowNe f46 _ (iS (show n18 = ((347 : Nat) : Int) from f39) rfl)
  have e8 : hV H1 298 = hV H0 298 := fRow f8.1.2.1 298 (by decide +kernel)
  have e9 : n23 = hV H0 298 (n17).toNat := (by rw [f47] at f51; exact f51 : n23 = hV H2 298 (n17).toNat).trans (((congrFun e7 _)).trans ((congrFun e8 _)))
  have e10 : hV H2 285 82 = hV H1 285 82 := uPlace f46 _ _ (iS (show n18 = ((347 : Nat) : Int) from f39) rfl)
  have e11 : n26 = hV H1 285 82 := (by rw [f4] at f58; exact f58 : n26 = hV H2 285 82).trans (e10)
  have e12 : hV H3 285 82 = hV H2 285 82 := uPlace f59 _ _ (iS (show n25 = ((344 : Nat) : Int) from f54) rfl)
  have e13 : n28 = hV H1 285 82 := (by rw [f4] at f64; exact f64 : n28 = hV H3 285 82).trans ((e12).trans e10)
  have e14 : hV H3 348 = hV H2 348 := uRowNe f59 _ (iS (show n25 = ((344 : Nat) : Int) from f54) rfl)
  have e15 : hV H2 348 = hV H1 348 := uRowNe f46 _ (iS (show n18 = ((347 : Nat) : Int) from f39) rfl)
  have e16 : n30 = hV H1 348 (n0).toNat := (by rw [f65] at f69; exact f69 : n30 = hV H3 348 (n0).toNat).trans (((congrFun e14 _)).trans ((congrFun e15 _)))
  have e17 : hV H4 285 82 = hV H3 285 82 := uPlace f70 _ _ (iS (show n27 = ((345 : Nat) : Int) from f60) rfl)
  have e18 : n31 = hV H1 285 82 := (by rw [f4] at f73; exact f73 : n31 = hV H4 285 82).trans ((e17).trans ((e12).trans e10))
  have e19 : hV H1 285 18 = hV H0 285 18 := f8.1.2.1.1 285 18 (by decide +kernel)
  have e20 : hV H1 285 18 = hV H0 285 18 := e19
  have e21 : hV H1 294 = hV H0 294 := fRow f8.1.2.1 294 (by decide +kernel)
  have e22 : hV H1 300 = hV H0 300 := fRow f8.1.2.1 300 (by decide +kernel)
  have e23 : (0 : Int) ≤ hV H1 285 18 ∧ hV H1 285 18 ≤ 8 := f8.1.2.2 285 18 _ _ (by decide +kernel)
  have e24 : (0 : Int) ≤ hV H1 285 82 ∧ hV H1 285 82 ≤ 40 := f8.1.2.2 285 82 _ _ (by decide +kernel)
  try simp only [e20, e21, e2, e8, e22] at f8
  try simp only [e20, e21, e2, e8, e22] at e23
  try simp only [e20, e21, e2, e8, e22] at e24
  try simp only [e20, e21, e2, e8, e22] at g3
  try simp only [e20, e21, e2, e8, e22] at g4
  try simp only [e20, e21, e2, e8, e22]
  have k0 := g4.1
  have y0 := g4.2.1
  have y1 := g4.2.2.1
  have y2 := g4.2.2.2
  have p0 := g3.1
  have p1 := g3.2
  try simp only [e20, e21, e2, e8, e22] at k0
  try simp only [e20, e21, e2, e8, e22] at y0
  try simp only [e20, e21, e2, e8, e22] at y1
  try simp only [e20, e21, e2, e8, e22] at y2
  try simp only [e20, e21, e2, e8, e22] at p0
  try simp only [e20, e21, e2, e8, e22] at p1
  clear g3
  clear g4
  clear f11 f14 f16 f18 f21 f24 f28 f31 f34 f37 f40 f43 f48 f51 f55 f58 f61 f64 f66 f69 f73 e2 e7 e8 e10 e12 e14 e15 e17 e19 e20 e21 e22
  subst e0
  subst e1
  subst e3
  subst e4
  subst e5
  subst e6
  subst e9
  subst e11
  subst e13
  subst e16
  subst e18
  rw [f26] at f32
  unfold w32 at *
  try have ca := cue_at (p1 (n3).toNat (by omega)) y0 (by omega) (by omega) (c := (16 * hV H1 346 (n0).toNat + hV H1 347 (n0).toNat)) (by omega)
  try have sh := y1 (n0).toNat (by omega)
  try have lv := y0 (n0).toNat (by omega)
  try (have ix0 : n14 = 16 * (hV H1 346 (n0).toNat) := (by omega); subst ix0)
  try (have ix1 : n17 = (16 * (hV H1 346 (n0).toNat)) + hV H1 347 (n0).toNat := (by omega); subst ix1)
  try (have ix2 : n21 = hV H1 347 (n0).toNat + 1 := (by omega); subst ix2)
  try (have ix3 : n33 = hV H1 285 82 + 1 := (by omega); subst ix3)

  first
  | omega
  | (have ca := cue_at (p1 (n3).toNat (by omega)) y0 (by omega) (by omega) (c := (16 * hV H1 346 (n0).toNat + hV H1 347 (n0).toNat)) (by omega)
     omega)
  | (have ua := use_at (p1 (n3).toNat (by omega)) y0 (by omega) (by omega) (c := (16 * hV H1 346 (n0).toNat + hV H1 347 (n0).toNat)) (by omega) (by omega)
     omega)
  | (have ul := ULp_lay y2 (p1 (n3).toNat (by omega)) y0 (by omega) (by omega) (by omega) (c := (16 * hV H1 346 (n0).toNat + hV H1 347 (n0).toNat)) (by omega) (by omega)
     omega)
theorem c_270_34_22 {q0 : Nat} : vOkm T0 (eP e_270 L_270 A_270 mu_270 (some q0)) 2 ([(1, [33, 31, 32], [], 0), (0, [32], [], 1), (20, [31, 2], [4], 82), (90, [31], [], 0), (91, [31], [], 40), (80, [27, 28, 30], [4, 3], 0), (22, [30, 29, 4], [3], 0), (90, [30], [], -1000), (91, [30], [], 1000), (20, [29, 2], [3], 87), (0, [29], [], 348), (20, [28, 2], [3], 82), (90, [28], [], 0), (91, [28], [], 40), (20, [27, 2], [3], 84), (0, [27], [], 345), (80, [25, 26, 17], [3, 2], 0), (20, [26, 2], [2], 82), (90, [26], [], 0), (91, [26], [], 40), (20, [25, 2], [2], 83), (0, [25], [], 344), (41, [23, 24], [], 0), (0, [24], [], 5), (22, [23, 22, 17], [2], 0), (90, [23], [], 0), (91, [23], [], 5), (20, [22, 2], [2], 24), (0, [22], [], 298), (80, [18, 4, 21], [2, 1], 0), (1, [21, 19, 20], [], 0), (0, [20], [], 1), (22, [19, 18, 4], [1], 0), (90, [19], [], 0), (91, [19], [], 16), (20, [18, 2], [1], 86), (0, [18], [], 347), (1, [17, 14, 16], [], 0), (22, [16, 15, 4], [1], 0), (90, [16], [], 0), (91, [16], [], 16), (20, [15, 2], [1], 86), (0, [15], [], 347), (3, [14, 11, 13], [], 0), (22, [13, 12, 4], [1], 0), (90, [13], [], 0), (91, [13], [], 62), (20, [12, 2], [1], 85), (0, [12], [], 346), (0, [11], [], 16), (41, [6, 10], [], 0), (22, [10, 7, 9], [1], 0), (90, [10], [], 0), (91, [10], [], 16), (22, [9, 8, 4], [1], 0), (90, [9], [], 0), (91, [9], [], 62), (20, [8, 2], [1], 85), (0, [8], [], 346), (20, [7, 2], [1], 22), (0, [7], [], 296), (22, [6, 5, 4], [1], 0), (90, [6], [], 0), (91, [6], [], 16), (20, [5, 2], [1], 86), (0, [5], [], 347), (33, [4], [], 0), (5000, [0, 1, 2, 3, 4], [0, 1], 34), (0, [0], [], 285), (90, [1], [], 0), (91, [1], [], 7), (0, [2], [], 285), (90, [3], [], 0), (91, [3], [], 7), (90, [4], [], -1), (91, [4], [], 6)], (90, [33], [], 0)) := vOk_in fun ρ η h => by
  obtain ⟨f0, f1, f2, f3, f4, f5, f6, f7, f8, f9, f10, f11, f12, f13, f14, f15, f16, f17, f18, f19, f20, f21, f22, f23, f24, f25, f26, f27, f28, f29, f30, f31, f32, f33, f34, f35, f36, f37, f38, f39, f40, f41, f42, f43, f44, f45, f46, f47, f48, f49, f50, f51, f52, f53, f54, f55, f56, f57, f58, f59, f60, f61, f62, f63, f64, f65, f66, f67, f68, f69, f70, f71, f72, f73, f74, f75, _⟩ := h
  exact q_270_25 (q0 := q0) (n0 := ρ 4) (n1 := ρ 3) (n2 := ρ 2) (n3 := ρ 1) (n4 := ρ 0) (n5 := ρ 5) (n6 := ρ 6) (n7 := ρ 7) (n8 := ρ 8) (n9 := ρ 9) (n10 := ρ 10) (n11 := ρ 11) (n12 := ρ 12) (n13 := ρ 13) (n14 := ρ 14) (n15 := ρ 15) (n16 := ρ 16) (n17 := ρ 17) (n18 := ρ 18) (n19 := ρ 19) (n20 := ρ 20) (n21 := ρ 21) (n22 := ρ 22) (n23 := ρ 23) (n24 := ρ 24) (n25 := ρ 25) (n26 := ρ 26) (n27 := ρ 27) (n28 := ρ 28) (n29 := ρ 29) (n30 := ρ 30) (n31 := ρ 31) (n32 := ρ 32) (n33 := ρ 33) (H0 := η 0) (H1 := η 1) (H2 := η 2) (H3 := η 3) (H4 := η 4) f75 f74 f73 f72 f71 f70 f69 f68 f67 f66 f65 f64 f63 f62 f61 f60 f59 f58 f57 f56 f55 f54 f53 f52 f51 f50 f49 f48 f47 f46 f45 f44 f43 f42 f41 f40 f39 f38 f37 f36 f35 f34 f33 f32 f31 f30 f29 f28 f27 f26 f25 f24 f23 f22 f21 f20 f19 f18 f17 f16 f15 f14 f13 f12 f11 f10 f9 f8 f7 f6 f5 f4 f3 f2 f1 f0
theorem q_270_26 {q0 : Nat} {n0 n1 n2 n3 n4 n5 n6 n7 n8 n9 n10 n11 n12 n13 n14 n15 n16 n17 n18 n19 n20 n21 n22 n23 n24 n25 n26 n27 n28 n29 n30 n31 n32 n33 : Int} {H0 H1 H2 H3 H4 : gH} (f0 : n0 ≤ 6) (f1 : (-1) ≤ n0) (f2 : n1 ≤ 7) (f3 : 0 ≤ n1) (f4 : n2 = 285) (f5 : n3 ≤ 7) (f6 : 0 ≤ n3) (f7 : n4 = 285) (f8 : (hLe T0 H0 H1 ∧ hFr s_270.2.2.2.2 H0 H1 ∧ hWt T0 H1) ∧ (Ab_270_34 n4 n3 n2 n1 n0 H0 H1 ∧ preb_270 n4 n3 H0) ∧ some q0 = some (mub_270_34 n4 n3 n2 n1 n0 H0 H1)) (f9 : 0 ≤ n0) (f10 : n5 = 347) (f11 : n5 = hV H1 (n2).toNat 86) (f12 : n6 ≤ 16) (f13 : 0 ≤ n6) (f14 : n6 = hV H1 (n5).toNat (n0).toNat) (f15 : n7 = 296) (f16 : n7 = hV H1 (n2).toNat 22) (f17 : n8 = 346) (f18 : n8 = hV H1 (n2).toNat 85) (f19 : n9 ≤ 62) (f20 : 0 ≤ n9) (f21 : n9 = hV H1 (n8).toNat (n0).toNat) (f22 : n10 ≤ 16) (f23 : 0 ≤ n10) (f24 : n10 = hV H1 (n7).toNat (n9).toNat) (f25 : n6 ≠ n10) (f26 : n11 = 16) (f27 : n12 = 346) (f28 : n12 = hV H1 (n2).toNat 85) (f29 : n13 ≤ 62) (f30 : 0 ≤ n13) (f31 : n13 = hV H1 (n12).toNat (n0).toNat) (f32 : n14 = w32 (n11 * n13)) (f33 : n15 = 347) (f34 : n15 = hV H1 (n2).toNat 86) (f35 : n16 ≤ 16) (f36 : 0 ≤ n16) (f37 : n16 = hV H1 (n15).toNat (n0).toNat) (f38 : n17 = w32 (n14 + n16)) (f39 : n18 = 347) (f40 : n18 = hV H1 (n2).toNat 86) (f41 : n19 ≤ 16) (f42 : 0 ≤ n19) (f43 : n19 = hV H1 (n18).toNat (n0).toNat) (f44 : n20 = 1) (f45 : n21 = w32 (n19 + n20)) (f46 : hUpd H2 H1 n18 n0 n21) (f47 : n22 = 298) (f48 : n22 = hV H2 (n2).toNat 24) (f49 : n23 ≤ 5) (f50 : 0 ≤ n23) (f51 : n23 = hV H2 (n22).toNat (n17).toNat) (f52 : n24 = 5) (f53 : n23 ≠ n24) (f54 : n25 = 344) (f55 : n25 = hV H2 (n2).toNat 83) (f56 : n26 ≤ 40) (f57 : 0 ≤ n26) (f58 : n26 = hV H2 (n2).toNat 82) (f59 : hUpd H3 H2 n25 n26 n17) (f60 : n27 = 345) (f61 : n27 = hV H3 (n2).toNat 84) (f62 : n28 ≤ 40) (f63 : 0 ≤ n28) (f64 : n28 = hV H3 (n2).toNat 82) (f65 : n29 = 348) (f66 : n29 = hV H3 (n2).toNat 87) (f67 : n30 ≤ 1000) (f68 : (-1000) ≤ n30) (f69 : n30 = hV H3 (n29).toNat (n0).toNat) (f70 : hUpd H4 H3 n27 n28 n30) (f71 : n31 ≤ 40) (f72 : 0 ≤ n31) (f73 : n31 = hV H4 (n2).toNat 82) (f74 : n32 = 1) (f75 : n33 = w32 (n31 + n32)) : n33 ≤ 40 := by
  have g4 := f8.2.1.1
  unfold Ab_270_34 at g4
  have g3 := f8.2.1.2
  unfold preb_270 at g3
  have e0 : n6 = hV H1 347 (n0).toNat := (by rw [f10] at f14; exact f14 : n6 = hV H1 347 (n0).toNat)
  have e1 : n9 = hV H1 346 (n0).toNat := (by rw [f17] at f21; exact f21 : n9 = hV H1 346 (n0).toNat)
  have e2 : hV H1 296 = hV H0 296 := fRow f8.1.2.1 296 (by decide +kernel)
  have e3 : n10 = hV H0 296 (n9).toNat := (by rw [f15] at f24; exact f24 : n10 = hV H1 296 (n9).toNat).trans ((congrFun e2 _))
  have e4 : n13 = hV H1 346 (n0).toNat := (by rw [f27] at f31; exact f31 : n13 = hV H1 346 (n0).toNat)
  have e5 : n16 = hV H1 347 (n0).toNat := (by rw [f33] at f37; exact f37 : n16 = hV H1 347 (n0).toNat)
  have e6 : n19 = hV H1 347 (n0).toNat := (by rw [f39] at f43; exact f43 : n19 = hV H1 347 (n0).toNat)
  have e7 : hV H2 298 = hV H1 298 := uRowNe f46 _ (iS (show n18 = ((347 : Nat) : Int) from f39) rfl)
  have e8 : hV H1 298 = hV H0 298 := fRow f8.1.2.1 298 (by decide +kernel)
  have e9 : n23 = hV H0 298 (n17).toNat := (by rw [f47] at f51; exact f51 : n23 = hV H2 298 (n17).toNat).trans (((congrFun e7 _)).trans ((congrFun e8 _)))
  have e10 : hV H2 285 82 = hV H1 285 82 := uPlace f46 _ _ (iS (show n18 = ((347 : Nat) : Int) from f39) rfl)
  have e11 : n26 = hV H1 285 82 := (by rw [f4] at f58; exact f58 : n26 = hV H2 285 82).trans (e10)
  have e12 : hV H3 285 82 = hV H2 285 82 := uPlace f59 _ _ (iS (show n25 = ((344 : Nat) : Int) from f54) rfl)
  have e13 : n28 = hV H1 285 82 := (by rw [f4] at f64; exact f64 : n28 = hV H3 285 82).trans ((e12).trans e10)
  have e14 : hV H3 348 = hV H2 348 := uRowNe f59 _ (iS (show n25 = ((344 : Nat) : Int) from f54) rfl)
  have e15 : hV H2 348 = hV H1 348 := uRowNe f46 _ (iS (show n18 = ((347 : Nat) : Int) from f39) rfl)
  have e16 : n30 = hV H1 348 (n0).toNat := (by rw [f65] at f69; exact f69 : n30 = hV H3 348 (n0).toNat).trans (((congrFun e14 _)).trans ((congrFun e15 _)))
  have e17 : hV H4 285 82 = hV H3 285 82 := uPlace f70 _ _ (iS (show n27 = ((345 : Nat) : Int) from f60) rfl)
  have e18 : n31 = hV H1 285 82 := (by rw [f4] at f73; exact f73 : n31 = hV H4 285 82).trans ((e17).trans ((e12).trans e10))
  have e19 : hV H1 285 18 = hV H0 285 18 := f8.1.2.1.1 285 18 (by decide +kernel)
  have e20 : hV H1 285 18 = hV H0 285 18 := e19
  have e21 : hV H1 294 = hV H0 294 := fRow f8.1.2.1 294 (by decide +kernel)
  have e22 : hV H1 300 = hV H0 300 := fRow f8.1.2.1 300 (by decide +kernel)
  have e23 : (0 : Int) ≤ hV H1 285 18 ∧ hV H1 285 18 ≤ 8 := f8.1.2.2 285 18 _ _ (by decide +kernel)
  have e24 : (0 : Int) ≤ hV H1 285 82 ∧ hV H1 285 82 ≤ 40 := f8.1.2.2 285 82 _ _ (by decide +kernel)
  try simp only [e20, e21, e2, e8, e22] at f8
  try simp only [e20, e21, e2, e8, e22] at e23
  try simp only [e20, e21, e2, e8, e22] at e24
  try simp only [e20, e21, e2, e8, e22] at g3
  try simp only [e20, e21, e2, e8, e22] at g4
  try simp only [e20, e21, e2, e8, e22]
  have k0 := g4.1
  have y0 := g4.2.1
  have y1 := g4.2.2.1
  have y2 := g4.2.2.2
  have p0 := g3.1
  have p1 := g3.2
  try simp only [e20, e21, e2, e8, e22] at k0
  try simp only [e20, e21, e2, e8, e22] at y0
  try simp only [e20, e21, e2, e8, e22] at y1
  try simp only [e20, e21, e2, e8, e22] at y2
  try simp only [e20, e21, e2, e8, e22] at p0
  try simp only [e20, e21, e2, e8, e22] at p1
  clear g3
  clear g4
  clear f11 f14 f16 f18 f21 f24 f28 f31 f34 f37 f40 f43 f48 f51 f55 f58 f61 f64 f66 f69 f73 e2 e7 e8 e10 e12 e14 e15 e17 e19 e20 e21 e22
  subst e0
  subst e1
  subst e3
  subst e4
  subst e5
  subst e6
  subst e9
  subst e11
  subst e13
  subst e16
  subst e18
  rw [f26] at f32
  unfold w32 at *
  try have ca := cue_at (p1 (n3).toNat (by omega)) y0 (by omega) (by omega) (c := (16 * hV H1 346 (n0).toNat + hV H1 347 (n0).toNat)) (by omega)
  try have sh := y1 (n0).toNat (by omega)
  try have lv := y0 (n0).toNat (by omega)
  try (have ix0 : n14 = 16 * (hV H1 346 (n0).toNat) := (by omega); subst ix0)
  try (have ix1 : n17 = (16 * (hV H1 346 (n0).toNat)) + hV H1 347 (n0).toNat := (by omega); subst ix1)
  try (have ix2 : n21 = hV H1 347 (n0).toNat + 1 := (by omega); subst ix2)
  try (have ix3 : n33 = hV H1 285 82 + 1 := (by omega); subst ix3)

  first
  | omega
  | (have ca := cue_at (p1 (n3).toNat (by omega)) y0 (by omega) (by omega) (c := (16 * hV H1 346 (n0).toNat + hV H1 347 (n0).toNat)) (by omega)
     omega)
  | (have ua := use_at (p1 (n3).toNat (by omega)) y0 (by omega) (by omega) (c := (16 * hV H1 346 (n0).toNat + hV H1 347 (n0).toNat)) (by omega) (by omega)
     omega)
  | (have ul := ULp_lay y2 (p1 (n3).toNat (by omega)) y0 (by omega) (by omega) (by omega) (c := (16 * hV H1 346 (n0).toNat + hV H1 347 (n0).toNat)) (by omega) (by omega)
     omega)
theorem c_270_34_23 {q0 : Nat} : vOkm T0 (eP e_270 L_270 A_270 mu_270 (some q0)) 2 ([(1, [33, 31, 32], [], 0), (0, [32], [], 1), (20, [31, 2], [4], 82), (90, [31], [], 0), (91, [31], [], 40), (80, [27, 28, 30], [4, 3], 0), (22, [30, 29, 4], [3], 0), (90, [30], [], -1000), (91, [30], [], 1000), (20, [29, 2], [3], 87), (0, [29], [], 348), (20, [28, 2], [3], 82), (90, [28], [], 0), (91, [28], [], 40), (20, [27, 2], [3], 84), (0, [27], [], 345), (80, [25, 26, 17], [3, 2], 0), (20, [26, 2], [2], 82), (90, [26], [], 0), (91, [26], [], 40), (20, [25, 2], [2], 83), (0, [25], [], 344), (41, [23, 24], [], 0), (0, [24], [], 5), (22, [23, 22, 17], [2], 0), (90, [23], [], 0), (91, [23], [], 5), (20, [22, 2], [2], 24), (0, [22], [], 298), (80, [18, 4, 21], [2, 1], 0), (1, [21, 19, 20], [], 0), (0, [20], [], 1), (22, [19, 18, 4], [1], 0), (90, [19], [], 0), (91, [19], [], 16), (20, [18, 2], [1], 86), (0, [18], [], 347), (1, [17, 14, 16], [], 0), (22, [16, 15, 4], [1], 0), (90, [16], [], 0), (91, [16], [], 16), (20, [15, 2], [1], 86), (0, [15], [], 347), (3, [14, 11, 13], [], 0), (22, [13, 12, 4], [1], 0), (90, [13], [], 0), (91, [13], [], 62), (20, [12, 2], [1], 85), (0, [12], [], 346), (0, [11], [], 16), (41, [6, 10], [], 0), (22, [10, 7, 9], [1], 0), (90, [10], [], 0), (91, [10], [], 16), (22, [9, 8, 4], [1], 0), (90, [9], [], 0), (91, [9], [], 62), (20, [8, 2], [1], 85), (0, [8], [], 346), (20, [7, 2], [1], 22), (0, [7], [], 296), (22, [6, 5, 4], [1], 0), (90, [6], [], 0), (91, [6], [], 16), (20, [5, 2], [1], 86), (0, [5], [], 347), (33, [4], [], 0), (5000, [0, 1, 2, 3, 4], [0, 1], 34), (0, [0], [], 285), (90, [1], [], 0), (91, [1], [], 7), (0, [2], [], 285), (90, [3], [], 0), (91, [3], [], 7), (90, [4], [], -1), (91, [4], [], 6)], (91, [33], [], 40)) := vOk_in fun ρ η h => by
  obtain ⟨f0, f1, f2, f3, f4, f5, f6, f7, f8, f9, f10, f11, f12, f13, f14, f15, f16, f17, f18, f19, f20, f21, f22, f23, f24, f25, f26, f27, f28, f29, f30, f31, f32, f33, f34, f35, f36, f37, f38, f39, f40, f41, f42, f43, f44, f45, f46, f47, f48, f49, f50, f51, f52, f53, f54, f55, f56, f57, f58, f59, f60, f61, f62, f63, f64, f65, f66, f67, f68, f69, f70, f71, f72, f73, f74, f75, _⟩ := h
  exact q_270_26 (q0 := q0) (n0 := ρ 4) (n1 := ρ 3) (n2 := ρ 2) (n3 := ρ 1) (n4 := ρ 0) (n5 := ρ 5) (n6 := ρ 6) (n7 := ρ 7) (n8 := ρ 8) (n9 := ρ 9) (n10 := ρ 10) (n11 := ρ 11) (n12 := ρ 12) (n13 := ρ 13) (n14 := ρ 14) (n15 := ρ 15) (n16 := ρ 16) (n17 := ρ 17) (n18 := ρ 18) (n19 := ρ 19) (n20 := ρ 20) (n21 := ρ 21) (n22 := ρ 22) (n23 := ρ 23) (n24 := ρ 24) (n25 := ρ 25) (n26 := ρ 26) (n27 := ρ 27) (n28 := ρ 28) (n29 := ρ 29) (n30 := ρ 30) (n31 := ρ 31) (n32 := ρ 32) (n33 := ρ 33) (H0 := η 0) (H1 := η 1) (H2 := η 2) (H3 := η 3) (H4 := η 4) f75 f74 f73 f72 f71 f70 f69 f68 f67 f66 f65 f64 f63 f62 f61 f60 f59 f58 f57 f56 f55 f54 f53 f52 f51 f50 f49 f48 f47 f46 f45 f44 f43 f42 f41 f40 f39 f38 f37 f36 f35 f34 f33 f32 f31 f30 f29 f28 f27 f26 f25 f24 f23 f22 f21 f20 f19 f18 f17 f16 f15 f14 f13 f12 f11 f10 f9 f8 f7 f6 f5 f4 f3 f2 f1 f0
theorem q_270_27 {q0 : Nat} {n0 n1 n2 n3 n4 n5 n6 n7 n8 n9 n10 n11 n12 n13 n14 n15 n16 n17 n18 n19 n20 n21 n22 n23 n24 n25 n26 n27 n28 n29 n30 n31 n32 n33 n34 : Int} {H0 H1 H2 H3 H4 H5 : gH} (f0 : n0 ≤ 6) (f1 : (-1) ≤ n0) (f2 : n1 ≤ 7) (f3 : 0 ≤ n1) (f4 : n2 = 285) (f5 : n3 ≤ 7) (f6 : 0 ≤ n3) (f7 : n4 = 285) (f8 : (hLe T0 H0 H1 ∧ hFr s_270.2.2.2.2 H0 H1 ∧ hWt T0 H1) ∧ (Ab_270_34 n4 n3 n2 n1 n0 H0 H1 ∧ preb_270 n4 n3 H0) ∧ some q0 = some (mub_270_34 n4 n3 n2 n1 n0 H0 H1)) (f9 : 0 ≤ n0) (f10 : n5 = 347) (f11 : n5 = hV H1 (n2).toNat 86) (f12 : n6 ≤ 16) (f13 : 0 ≤ n6) (f14 : n6 = hV H1 (n5).toNat (n0).toNat) (f15 : n7 = 296) (f16 : n7 = hV H1 (n2).toNat 22) (f17 : n8 = 346) (f18 : n8 = hV H1 (n2).toNat 85) (f19 : n9 ≤ 62) (f20 : 0 ≤ n9) (f21 : n9 = hV H1 (n8).toNat (n0).toNat) (f22 : n10 ≤ 16) (f23 : 0 ≤ n10) (f24 : n10 = hV H1 (n7).toNat (n9).toNat) (f25 : n6 ≠ n10) (f26 : n11 = 16) (f27 : n12 = 346) (f28 : n12 = hV H1 (n2).toNat 85) (f29 : n13 ≤ 62) (f30 : 0 ≤ n13) (f31 : n13 = hV H1 (n12).toNat (n0).toNat) (f32 : n14 = w32 (n11 * n13)) (f33 : n15 = 347) (f34 : n15 = hV H1 (n2).toNat 86) (f35 : n16 ≤ 16) (f36 : 0 ≤ n16) (f37 : n16 = hV H1 (n15).toNat (n0).toNat) (f38 : n17 = w32 (n14 + n16)) (f39 : n18 = 347) (f40 : n18 = hV H1 (n2).toNat 86) (f41 : n19 ≤ 16) (f42 : 0 ≤ n19) (f43 : n19 = hV H1 (n18).toNat (n0).toNat) (f44 : n20 = 1) (f45 : n21 = w32 (n19 + n20)) (f46 : hUpd H2 H1 n18 n0 n21) (f47 : n22 = 298) (f48 : n22 = hV H2 (n2).toNat 24) (f49 : n23 ≤ 5) (f50 : 0 ≤ n23) (f51 : n23 = hV H2 (n22).toNat (n17).toNat) (f52 : n24 = 5) (f53 : n23 ≠ n24) (f54 : n25 = 344) (f55 : n25 = hV H2 (n2).toNat 83) (f56 : n26 ≤ 40) (f57 : 0 ≤ n26) (f58 : n26 = hV H2 (n2).toNat 82) (f59 : hUpd H3 H2 n25 n26 n17) (f60 : n27 = 345) (f61 : n27 = hV H3 (n2).toNat 84) (f62 : n28 ≤ 40) (f63 : 0 ≤ n28) (f64 : n28 = hV H3 (n2).toNat 82) (f65 : n29 = 348) (f66 : n29 = hV H3 (n2).toNat 87) (f67 : n30 ≤ 1000) (f68 : (-1000) ≤ n30) (f69 : n30 = hV H3 (n29).toNat (n0).toNat) (f70 : hUpd H4 H3 n27 n28 n30) (f71 : n31 ≤ 40) (f72 : 0 ≤ n31) (f73 : n31 = hV H4 (n2).toNat 82) (f74 : n32 = 1) (f75 : n33 = w32 (n31 + n32)) (f76 : n34 = 82) (f77 : hUpd H5 H4 n2 n34 n33) : Ab_270_34 n4 n3 n2 n1 n0 H0 H5 ∧ ∀ q, some q0 = some q → mub_270_34 n4 n3 n2 n1 n0 H0 H5 < q := by
  have g4 := f8.2.1.1
  unfold Ab_270_34 at g4
  have g3 := f8.2.1.2
  unfold preb_270 at g3
  have g5 := Option.some.inj f8.2.2
  unfold mub_270_34 at g5
  unfold Ab_270_34
  unfold mub_270_34
  have e0 : n6 = hV H1 347 (n0).toNat := (by rw [f10] at f14; exact f14 : n6 = hV H1 347 (n0).toNat)
  have e1 : n9 = hV H1 346 (n0).toNat := (by rw [f17] at f21; exact f21 : n9 = hV H1 346 (n0).toNat)
  have e2 : hV H1 296 = hV H0 296 := fRow f8.1.2.1 296 (by decide +kernel)
  have e3 : n10 = hV H0 296 (n9).toNat := (by rw [f15] at f24; exact f24 : n10 = hV H1 296 (n9).toNat).trans ((congrFun e2 _))
  have e4 : n13 = hV H1 346 (n0).toNat := (by rw [f27] at f31; exact f31 : n13 = hV H1 346 (n0).toNat)
  have e5 : n16 = hV H1 347 (n0).toNat := (by rw [f33] at f37; exact f37 : n16 = hV H1 347 (n0).toNat)
  have e6 : n19 = hV H1 347 (n0).toNat := (by rw [f39] at f43; exact f43 : n19 = hV H1 347 (n0).toNat)
  have e7 : hV H2 298 = hV H1 298 := uRowNe f46 _ (iS (show n18 = ((347 : Nat) : Int) from f39) rfl)
  have e8 : hV H1 298 = hV H0 298 := fRow f8.1.2.1 298 (by decide +kernel)
  have e9 : n23 = hV H0 298 (n17).toNat := (by rw [f47] at f51; exact f51 : n23 = hV H2 298 (n17).toNat).trans (((congrFun e7 _)).trans ((congrFun e8 _)))
  have e10 : hV H2 285 82 = hV H1 285 82 := uPlace f46 _ _ (iS (show n18 = ((347 : Nat) : Int) from f39) rfl)
  have e11 : n26 = hV H1 285 82 := (by rw [f4] at f58; exact f58 : n26 = hV H2 285 82).trans (e10)
  have e12 : hV H3 285 82 = hV H2 285 82 := uPlace f59 _ _ (iS (show n25 = ((344 : Nat) : Int) from f54) rfl)
  have e13 : n28 = hV H1 285 82 := (by rw [f4] at f64; exact f64 : n28 = hV H3 285 82).trans ((e12).trans e10)
  have e14 : hV H3 348 = hV H2 348 := uRowNe f59 _ (iS (show n25 = ((344 : Nat) : Int) from f54) rfl)
  have e15 : hV H2 348 = hV H1 348 := uRowNe f46 _ (iS (show n18 = ((347 : Nat) : Int) from f39) rfl)
  have e16 : n30 = hV H1 348 (n0).toNat := (by rw [f65] at f69; exact f69 : n30 = hV H3 348 (n0).toNat).trans (((congrFun e14 _)).trans ((congrFun e15 _)))
  have e17 : hV H4 285 82 = hV H3 285 82 := uPlace f70 _ _ (iS (show n27 = ((345 : Nat) : Int) from f60) rfl)
  have e18 : n31 = hV H1 285 82 := (by rw [f4] at f73; exact f73 : n31 = hV H4 285 82).trans ((e17).trans ((e12).trans e10))
  have e19 : hV H1 285 18 = hV H0 285 18 := f8.1.2.1.1 285 18 (by decide +kernel)
  have e20 : hV H1 285 18 = hV H0 285 18 := e19
  have e21 : hV H1 294 = hV H0 294 := fRow f8.1.2.1 294 (by decide +kernel)
  have e22 : hV H1 300 = hV H0 300 := fRow f8.1.2.1 300 (by decide +kernel)
  have e23 : hV H5 285 82 = n33 := uSame f77 _ _ f4.symm f76.symm
  have e24 : hV H5 285 82 = n33 := e23
  have e25 : hV H5 294 = hV H4 294 := uRowNe f77 _ (iS (show n2 = ((285 : Nat) : Int) from f4) rfl)
  have e26 : hV H4 294 = hV H3 294 := uRowNe f70 _ (iS (show n27 = ((345 : Nat) : Int) from f60) rfl)
  have e27 : hV H3 294 = hV H2 294 := uRowNe f59 _ (iS (show n25 = ((344 : Nat) : Int) from f54) rfl)
  have e28 : hV H2 294 = hV H1 294 := uRowNe f46 _ (iS (show n18 = ((347 : Nat) : Int) from f39) rfl)
  have e29 : hV H2 294 = hV H0 294 := e28.trans e21
  have e30 : hV H3 294 = hV H0 294 := e27.trans e29
  have e31 : hV H4 294 = hV H0 294 := e26.trans e30
  have e32 : hV H5 294 = hV H0 294 := e25.trans e31
  have e33 : hV H5 296 = hV H4 296 := uRowNe f77 _ (iS (show n2 = ((285 : Nat) : Int) from f4) rfl)
  have e34 : hV H4 296 = hV H3 296 := uRowNe f70 _ (iS (show n27 = ((345 : Nat) : Int) from f60) rfl)
  have e35 : hV H3 296 = hV H2 296 := uRowNe f59 _ (iS (show n25 = ((344 : Nat) : Int) from f54) rfl)
  have e36 : hV H2 296 = hV H1 296 := uRowNe f46 _ (iS (show n18 = ((347 : Nat) : Int) from f39) rfl)
  have e37 : hV H2 296 = hV H0 296 := e36.trans e2
  have e38 : hV H3 296 = hV H0 296 := e35.trans e37
  have e39 : hV H4 296 = hV H0 296 := e34.trans e38
  have e40 : hV H5 296 = hV H0 296 := e33.trans e39
  have e41 : hV H5 298 = hV H4 298 := uRowNe f77 _ (iS (show n2 = ((285 : Nat) : Int) from f4) rfl)
  have e42 : hV H4 298 = hV H3 298 := uRowNe f70 _ (iS (show n27 = ((345 : Nat) : Int) from f60) rfl)
  have e43 : hV H3 298 = hV H2 298 := uRowNe f59 _ (iS (show n25 = ((344 : Nat) : Int) from f54) rfl)
  have e44 : hV H2 298 = hV H0 298 := e7.trans e8
  have e45 : hV H3 298 = hV H0 298 := e43.trans e44
  have e46 : hV H4 298 = hV H0 298 := e42.trans e45
  have e47 : hV H5 298 = hV H0 298 := e41.trans e46
  have e48 : hV H5 300 = hV H4 300 := uRowNe f77 _ (iS (show n2 = ((285 : Nat) : Int) from f4) rfl)
  have e49 : hV H4 300 = hV H3 300 := uRowNe f70 _ (iS (show n27 = ((345 : Nat) : Int) from f60) rfl)
  have e50 : hV H3 300 = hV H2 300 := uRowNe f59 _ (iS (show n25 = ((344 : Nat) : Int) from f54) rfl)
  have e51 : hV H2 300 = hV H1 300 := uRowNe f46 _ (iS (show n18 = ((347 : Nat) : Int) from f39) rfl)
  have e52 : hV H2 300 = hV H0 300 := e51.trans e22
  have e53 : hV H3 300 = hV H0 300 := e50.trans e52
  have e54 : hV H4 300 = hV H0 300 := e49.trans e53
  have e55 : hV H5 300 = hV H0 300 := e48.trans e54
  have e56 : hV H5 344 = hV H4 344 := uRowNe f77 _ (iS (show n2 = ((285 : Nat) : Int) from f4) rfl)
  have e57 : hV H4 344 = hV H3 344 := uRowNe f70 _ (iS (show n27 = ((345 : Nat) : Int) from f60) rfl)
  have e58 : hV H3 344 = uF (hV H2 344) n26 n17 := uRow f59 _ f54.symm
  have e59 : hV H2 344 = hV H1 344 := uRowNe f46 _ (iS (show n18 = ((347 : Nat) : Int) from f39) rfl)
  have e60 : hV H3 344 = (uF (hV H1 344) n26 n17) := e58.trans (congrArg (fun z => uF z n26 n17) e59)
  have e61 : hV H4 344 = (uF (hV H1 344) n26 n17) := e57.trans e60
  have e62 : hV H5 344 = (uF (hV H1 344) n26 n17) := e56.trans e61
  have e63 : hV H5 346 = hV H4 346 := uRowNe f77 _ (iS (show n2 = ((285 : Nat) : Int) from f4) rfl)
  have e64 : hV H4 346 = hV H3 346 := uRowNe f70 _ (iS (show n27 = ((345 : Nat) : Int) from f60) rfl)
  have e65 : hV H3 346 = hV H2 346 := uRowNe f59 _ (iS (show n25 = ((344 : Nat) : Int) from f54) rfl)
  have e66 : hV H2 346 = hV H1 346 := uRowNe f46 _ (iS (show n18 = ((347 : Nat) : Int) from f39) rfl)
  have e67 : hV H3 346 = hV H1 346 := e65.trans e66
  have e68 : hV H4 346 = hV H1 346 := e64.trans e67
  have e69 : hV H5 346 = hV H1 346 := e63.trans e68
  have e70 : hV H5 347 = hV H4 347 := uRowNe f77 _ (iS (show n2 = ((285 : Nat) : Int) from f4) rfl)
  have e71 : hV H4 347 = hV H3 347 := uRowNe f70 _ (iS (show n27 = ((345 : Nat) : Int) from f60) rfl)
  have e72 : hV H3 347 = hV H2 347 := uRowNe f59 _ (iS (show n25 = ((344 : Nat) : Int) from f54) rfl)
  have e73 : hV H2 347 = uF (hV H1 347) n0 n21 := uRow f46 _ f39.symm
  have e74 : hV H3 347 = (uF (hV H1 347) n0 n21) := e72.trans e73
  have e75 : hV H4 347 = (uF (hV H1 347) n0 n21) := e71.trans e74
  have e76 : hV H5 347 = (uF (hV H1 347) n0 n21) := e70.trans e75
  have e77 : hV H5 348 = hV H4 348 := uRowNe f77 _ (iS (show n2 = ((285 : Nat) : Int) from f4) rfl)
  have e78 : hV H4 348 = hV H3 348 := uRowNe f70 _ (iS (show n27 = ((345 : Nat) : Int) from f60) rfl)
  have e79 : hV H3 348 = hV H1 348 := e14.trans e15
  have e80 : hV H4 348 = hV H1 348 := e78.trans e79
  have e81 : hV H5 348 = hV H1 348 := e77.trans e80
  have e82 : (0 : Int) ≤ hV H1 285 18 ∧ hV H1 285 18 ≤ 8 := f8.1.2.2 285 18 _ _ (by decide +kernel)
  have e83 : (0 : Int) ≤ hV H1 285 82 ∧ hV H1 285 82 ≤ 40 := f8.1.2.2 285 82 _ _ (by decide +kernel)
  try simp only [e20, e21, e2, e8, e22, e24, e32, e40, e47, e55, e62, e69, e76, e81] at f8
  try simp only [e20, e21, e2, e8, e22, e24, e32, e40, e47, e55, e62, e69, e76, e81] at e82
  try simp only [e20, e21, e2, e8, e22, e24, e32, e40, e47, e55, e62, e69, e76, e81] at e83
  try simp only [e20, e21, e2, e8, e22, e24, e32, e40, e47, e55, e62, e69, e76, e81] at g3
  try simp only [e20, e21, e2, e8, e22, e24, e32, e40, e47, e55, e62, e69, e76, e81] at g4
  try simp only [e20, e21, e2, e8, e22, e24, e32, e40, e47, e55, e62, e69, e76, e81] at g5
  try simp only [e20, e21, e2, e8, e22, e24, e32, e40, e47, e55, e62, e69, e76, e81]
  have k0 := g4.1
  have y0 := g4.2.1
  have y1 := g4.2.2.1
  have y2 := g4.2.2.2
  have p0 := g3.1
  have p1 := g3.2
  try simp only [e20, e21, e2, e8, e22, e24, e32, e40, e47, e55, e62, e69, e76, e81] at k0
  try simp only [e20, e21, e2, e8, e22, e24, e32, e40, e47, e55, e62, e69, e76, e81] at y0
  try simp only [e20, e21, e2, e8, e22, e24, e32, e40, e47, e55, e62, e69, e76, e81] at y1
  try simp only [e20, e21, e2, e8, e22, e24, e32, e40, e47, e55, e62, e69, e76, e81] at y2
  try simp only [e20, e21, e2, e8, e22, e24, e32, e40, e47, e55, e62, e69, e76, e81] at p0
  try simp only [e20, e21, e2, e8, e22, e24, e32, e40, e47, e55, e62, e69, e76, e81] at p1
  clear g3
  clear g4
  clear f11 f14 f16 f18 f21 f24 f28 f31 f34 f37 f40 f43 f48 f51 f55 f58 f61 f64 f66 f69 f73 e2 e7 e8 e10 e12 e14 e15 e17 e19 e20 e21 e22 e25 e26 e27 e28 e29 e30 e31 e32 e33 e34 e35 e36 e37 e38 e39 e40 e41 e42 e43 e44 e45 e46 e47 e48 e49 e50 e51 e52 e53 e54 e55 e56 e57 e59 e60 e61 e62 e63 e64 e65 e66 e67 e68 e69 e70 e71 e72 e74 e75 e76 e77 e78 e79 e80 e81
  subst e0
  subst e1
  subst e3
  subst e4
  subst e5
  subst e6
  subst e9
  subst e11
  subst e13
  subst e16
  subst e18
  rw [f26] at f32
  unfold w32 at *
  try have ca := cue_at (p1 (n3).toNat (by omega)) y0 (by omega) (by omega) (c := (16 * hV H1 346 (n0).toNat + hV H1 347 (n0).toNat)) (by omega)
  try have sh := y1 (n0).toNat (by omega)
  try have lv := y0 (n0).toNat (by omega)
  try (have ix0 : n14 = 16 * (hV H1 346 (n0).toNat) := (by omega); subst ix0)
  try (have ix1 : n17 = (16 * (hV H1 346 (n0).toNat)) + hV H1 347 (n0).toNat := (by omega); subst ix1)
  try (have ix2 : n21 = hV H1 347 (n0).toNat + 1 := (by omega); subst ix2)
  try (have ix3 : n33 = hV H1 285 82 + 1 := (by omega); subst ix3)

  have ul := ULp_lay y2 (p1 (n3).toNat (by omega)) y0 (by omega) (by omega) (by omega) (c := (16 * hV H1 346 (n0).toNat + hV H1 347 (n0).toNat)) (by omega) (by omega)
  refine ⟨?_, fun q hq => ?_⟩
  · exact ⟨by first | omega | trivial, LVp_next y0 (by omega) (by omega) (by omega) (by omega), y1, ul.2 _ _ _ _ _ (by omega) (by omega) (by omega) (by omega) (by omega)⟩
  · have g6 := Option.some.inj hq
    subst g6
    rw [g5]
    exact MS_lt_lay y0 (by omega) (by omega) (by omega) (by omega)
theorem c_270_34_24 {q0 : Nat} : vOkm T0 (eP e_270 L_270 A_270 mu_270 (some q0)) 2 ([(80, [2, 34, 33], [5, 4], 0), (0, [34], [], 82), (1, [33, 31, 32], [], 0), (0, [32], [], 1), (20, [31, 2], [4], 82), (90, [31], [], 0), (91, [31], [], 40), (80, [27, 28, 30], [4, 3], 0), (22, [30, 29, 4], [3], 0), (90, [30], [], -1000), (91, [30], [], 1000), (20, [29, 2], [3], 87), (0, [29], [], 348), (20, [28, 2], [3], 82), (90, [28], [], 0), (91, [28], [], 40), (20, [27, 2], [3], 84), (0, [27], [], 345), (80, [25, 26, 17], [3, 2], 0), (20, [26, 2], [2], 82), (90, [26], [], 0), (91, [26], [], 40), (20, [25, 2], [2], 83), (0, [25], [], 344), (41, [23, 24], [], 0), (0, [24], [], 5), (22, [23, 22, 17], [2], 0), (90, [23], [], 0), (91, [23], [], 5), (20, [22, 2], [2], 24), (0, [22], [], 298), (80, [18, 4, 21], [2, 1], 0), (1, [21, 19, 20], [], 0), (0, [20], [], 1), (22, [19, 18, 4], [1], 0), (90, [19], [], 0), (91, [19], [], 16), (20, [18, 2], [1], 86), (0, [18], [], 347), (1, [17, 14, 16], [], 0), (22, [16, 15, 4], [1], 0), (90, [16], [], 0), (91, [16], [], 16), (20, [15, 2], [1], 86), (0, [15], [], 347), (3, [14, 11, 13], [], 0), (22, [13, 12, 4], [1], 0), (90, [13], [], 0), (91, [13], [], 62), (20, [12, 2], [1], 85), (0, [12], [], 346), (0, [11], [], 16), (41, [6, 10], [], 0), (22, [10, 7, 9], [1], 0), (90, [10], [], 0), (91, [10], [], 16), (22, [9, 8, 4], [1], 0), (90, [9], [], 0), (91, [9], [], 62), (20, [8, 2], [1], 85), (0, [8], [], 346), (20, [7, 2], [1], 22), (0, [7], [], 296), (22, [6, 5, 4], [1], 0), (90, [6], [], 0), (91, [6], [], 16), (20, [5, 2], [1], 86), (0, [5], [], 347), (33, [4], [], 0), (5000, [0, 1, 2, 3, 4], [0, 1], 34), (0, [0], [], 285), (90, [1], [], 0), (91, [1], [], 7), (0, [2], [], 285), (90, [3], [], 0), (91, [3], [], 7), (90, [4], [], -1), (91, [4], [], 6)], (4000, [2, 3, 4], [5], 34)) := vOk_in fun ρ η h => by
  obtain ⟨f0, f1, f2, f3, f4, f5, f6, f7, f8, f9, f10, f11, f12, f13, f14, f15, f16, f17, f18, f19, f20, f21, f22, f23, f24, f25, f26, f27, f28, f29, f30, f31, f32, f33, f34, f35, f36, f37, f38, f39, f40, f41, f42, f43, f44, f45, f46, f47, f48, f49, f50, f51, f52, f53, f54, f55, f56, f57, f58, f59, f60, f61, f62, f63, f64, f65, f66, f67, f68, f69, f70, f71, f72, f73, f74, f75, f76, f77, _⟩ := h
  exact q_270_27 (q0 := q0) (n0 := ρ 4) (n1 := ρ 3) (n2 := ρ 2) (n3 := ρ 1) (n4 := ρ 0) (n5 := ρ 5) (n6 := ρ 6) (n7 := ρ 7) (n8 := ρ 8) (n9 := ρ 9) (n10 := ρ 10) (n11 := ρ 11) (n12 := ρ 12) (n13 := ρ 13) (n14 := ρ 14) (n15 := ρ 15) (n16 := ρ 16) (n17 := ρ 17) (n18 := ρ 18) (n19 := ρ 19) (n20 := ρ 20) (n21 := ρ 21) (n22 := ρ 22) (n23 := ρ 23) (n24 := ρ 24) (n25 := ρ 25) (n26 := ρ 26) (n27 := ρ 27) (n28 := ρ 28) (n29 := ρ 29) (n30 := ρ 30) (n31 := ρ 31) (n32 := ρ 32) (n33 := ρ 33) (n34 := ρ 34) (H0 := η 0) (H1 := η 1) (H2 := η 2) (H3 := η 3) (H4 := η 4) (H5 := η 5) f77 f76 f75 f74 f73 f72 f71 f70 f69 f68 f67 f66 f65 f64 f63 f62 f61 f60 f59 f58 f57 f56 f55 f54 f53 f52 f51 f50 f49 f48 f47 f46 f45 f44 f43 f42 f41 f40 f39 f38 f37 f36 f35 f34 f33 f32 f31 f30 f29 f28 f27 f26 f25 f24 f23 f22 f21 f20 f19 f18 f17 f16 f15 f14 f13 f12 f11 f10 f9 f8 f7 f6 f5 f4 f3 f2 f1 f0
theorem q_270_28 {q0 : Nat} {n0 n1 n2 n3 n4 n5 n6 n7 n8 n9 n10 n11 : Int} {H0 H1 : gH} (f0 : n0 ≤ 6) (f1 : (-1) ≤ n0) (f2 : n1 ≤ 7) (f3 : 0 ≤ n1) (f4 : n2 = 285) (f5 : n3 ≤ 7) (f6 : 0 ≤ n3) (f7 : n4 = 285) (f8 : (hLe T0 H0 H1 ∧ hFr s_270.2.2.2.2 H0 H1 ∧ hWt T0 H1) ∧ (Ab_270_34 n4 n3 n2 n1 n0 H0 H1 ∧ preb_270 n4 n3 H0) ∧ some q0 = some (mub_270_34 n4 n3 n2 n1 n0 H0 H1)) (f9 : 0 ≤ n0) (f10 : n5 = 347) (f11 : n5 = hV H1 (n2).toNat 86) (f12 : n6 ≤ 16) (f13 : 0 ≤ n6) (f14 : n6 = hV H1 (n5).toNat (n0).toNat) (f15 : n7 = 296) (f16 : n7 = hV H1 (n2).toNat 22) (f17 : n8 = 346) (f18 : n8 = hV H1 (n2).toNat 85) (f19 : n9 ≤ 62) (f20 : 0 ≤ n9) (f21 : n9 = hV H1 (n8).toNat (n0).toNat) (f22 : n10 ≤ 16) (f23 : 0 ≤ n10) (f24 : n10 = hV H1 (n7).toNat (n9).toNat) (f25 : n6 = n10) (f26 : n11 = w32 (n0 + (-1))) : (-1) ≤ n11 := by
  have g4 := f8.2.1.1
  unfold Ab_270_34 at g4
  have g3 := f8.2.1.2
  unfold preb_270 at g3
  have e0 : n6 = hV H1 347 (n0).toNat := (by rw [f10] at f14; exact f14 : n6 = hV H1 347 (n0).toNat)
  have e1 : n9 = hV H1 346 (n0).toNat := (by rw [f17] at f21; exact f21 : n9 = hV H1 346 (n0).toNat)
  have e2 : hV H1 296 = hV H0 296 := fRow f8.1.2.1 296 (by decide +kernel)
  have e3 : n10 = hV H0 296 (n9).toNat := (by rw [f15] at f24; exact f24 : n10 = hV H1 296 (n9).toNat).trans ((congrFun e2 _))
  have e4 : hV H1 285 18 = hV H0 285 18 := f8.1.2.1.1 285 18 (by decide +kernel)
  have e5 : hV H1 285 18 = hV H0 285 18 := e4
  have e6 : hV H1 294 = hV H0 294 := fRow f8.1.2.1 294 (by decide +kernel)
  have e7 : hV H1 298 = hV H0 298 := fRow f8.1.2.1 298 (by decide +kernel)
  have e8 : hV H1 300 = hV H0 300 := fRow f8.1.2.1 300 (by decide +kernel)
  have e9 : (0 : Int) ≤ hV H1 285 18 ∧ hV H1 285 18 ≤ 8 := f8.1.2.2 285 18 _ _ (by decide +kernel)
  have e10 : (0 : Int) ≤ hV H1 285 82 ∧ hV H1 285 82 ≤ 40 := f8.1.2.2 285 82 _ _ (by decide +kernel)
  try simp only [e5, e6, e2, e7, e8] at f8
  try simp only [e5, e6, e2, e7, e8] at e9
  try simp only [e5, e6, e2, e7, e8] at e10
  try simp only [e5, e6, e2, e7, e8] at g3
  try simp only [e5, e6, e2, e7, e8] at g4
  try simp only [e5, e6, e2, e7, e8]
  have k0 := g4.1
  have y0 := g4.2.1
  have y1 := g4.2.2.1
  have y2 := g4.2.2.2
  have p0 := g3.1
  have p1 := g3.2
  try simp only [e5, e6, e2, e7, e8] at k0
  try simp only [e5, e6, e2, e7, e8] at y0
  try simp only [e5, e6, e2, e7, e8] at y1
  try simp only [e5, e6, e2, e7, e8] at y2
  try simp only [e5, e6, e2, e7, e8] at p0
  try simp only [e5, e6, e2, e7, e8] at p1
  clear g3
  clear g4
  clear f11 f14 f16 f18 f21 f24 e2 e4 e5 e6 e7 e8
  subst e0
  subst e1
  subst e3
  unfold w32 at *
  try have ca := cue_at (p1 (n3).toNat (by omega)) y0 (by omega) (by omega) (c := (16 * hV H1 346 (n0).toNat + hV H1 347 (n0).toNat)) (by omega)
  try have sh := y1 (n0).toNat (by omega)
  try have lv := y0 (n0).toNat (by omega)
  try (have ix0 : n11 = n0 + -1 := (by omega); subst ix0)

  first
  | omega
  | (have ca := cue_at (p1 (n3).toNat (by omega)) y0 (by omega) (by omega) (c := (16 * hV H1 346 (n0).toNat + hV H1 347 (n0).toNat)) (by omega)
     omega)
  | (have ua := use_at (p1 (n3).toNat (by omega)) y0 (by omega) (by omega) (c := (16 * hV H1 346 (n0).toNat + hV H1 347 (n0).toNat)) (by omega) (by omega)
     omega)
  | (have ul := ULp_lay y2 (p1 (n3).toNat (by omega)) y0 (by omega) (by omega) (by omega) (c := (16 * hV H1 346 (n0).toNat + hV H1 347 (n0).toNat)) (by omega) (by omega)
     omega)
theorem c_270_34_25 {q0 : Nat} : vOkm T0 (eP e_270 L_270 A_270 mu_270 (some q0)) 2 ([(10, [11, 4], [], -1), (40, [6, 10], [], 0), (22, [10, 7, 9], [1], 0), (90, [10], [], 0), (91, [10], [], 16), (22, [9, 8, 4], [1], 0), (90, [9], [], 0), (91, [9], [], 62), (20, [8, 2], [1], 85), (0, [8], [], 346), (20, [7, 2], [1], 22), (0, [7], [], 296), (22, [6, 5, 4], [1], 0), (90, [6], [], 0), (91, [6], [], 16), (20, [5, 2], [1], 86), (0, [5], [], 347), (33, [4], [], 0), (5000, [0, 1, 2, 3, 4], [0, 1], 34), (0, [0], [], 285), (90, [1], [], 0), (91, [1], [], 7), (0, [2], [], 285), (90, [3], [], 0), (91, [3], [], 7), (90, [4], [], -1), (91, [4], [], 6)], (90, [11], [], -1)) := vOk_in fun ρ η h => by
  obtain ⟨f0, f1, f2, f3, f4, f5, f6, f7, f8, f9, f10, f11, f12, f13, f14, f15, f16, f17, f18, f19, f20, f21, f22, f23, f24, f25, f26, _⟩ := h
  exact q_270_28 (q0 := q0) (n0 := ρ 4) (n1 := ρ 3) (n2 := ρ 2) (n3 := ρ 1) (n4 := ρ 0) (n5 := ρ 5) (n6 := ρ 6) (n7 := ρ 7) (n8 := ρ 8) (n9 := ρ 9) (n10 := ρ 10) (n11 := ρ 11) (H0 := η 0) (H1 := η 1) f26 f25 f24 f23 f22 f21 f20 f19 f18 f17 f16 f15 f14 f13 f12 f11 f10 f9 f8 f7 f6 f5 f4 f3 f2 f1 f0
theorem q_270_29 {q0 : Nat} {n0 n1 n2 n3 n4 n5 n6 n7 n8 n9 n10 n11 : Int} {H0 H1 : gH} (f0 : n0 ≤ 6) (f1 : (-1) ≤ n0) (f2 : n1 ≤ 7) (f3 : 0 ≤ n1) (f4 : n2 = 285) (f5 : n3 ≤ 7) (f6 : 0 ≤ n3) (f7 : n4 = 285) (f8 : (hLe T0 H0 H1 ∧ hFr s_270.2.2.2.2 H0 H1 ∧ hWt T0 H1) ∧ (Ab_270_34 n4 n3 n2 n1 n0 H0 H1 ∧ preb_270 n4 n3 H0) ∧ some q0 = some (mub_270_34 n4 n3 n2 n1 n0 H0 H1)) (f9 : 0 ≤ n0) (f10 : n5 = 347) (f11 : n5 = hV H1 (n2).toNat 86) (f12 : n6 ≤ 16) (f13 : 0 ≤ n6) (f14 : n6 = hV H1 (n5).toNat (n0).toNat) (f15 : n7 = 296) (f16 : n7 = hV H1 (n2).toNat 22) (f17 : n8 = 346) (f18 : n8 = hV H1 (n2).toNat 85) (f19 : n9 ≤ 62) (f20 : 0 ≤ n9) (f21 : n9 = hV H1 (n8).toNat (n0).toNat) (f22 : n10 ≤ 16) (f23 : 0 ≤ n10) (f24 : n10 = hV H1 (n7).toNat (n9).toNat) (f25 : n6 = n10) (f26 : n11 = w32 (n0 + (-1))) : n11 ≤ 6 := by
  have g4 := f8.2.1.1
  unfold Ab_270_34 at g4
  have g3 := f8.2.1.2
  unfold preb_270 at g3
  have e0 : n6 = hV H1 347 (n0).toNat := (by rw [f10] at f14; exact f14 : n6 = hV H1 347 (n0).toNat)
  have e1 : n9 = hV H1 346 (n0).toNat := (by rw [f17] at f21; exact f21 : n9 = hV H1 346 (n0).toNat)
  have e2 : hV H1 296 = hV H0 296 := fRow f8.1.2.1 296 (by decide +kernel)
  have e3 : n10 = hV H0 296 (n9).toNat := (by rw [f15] at f24; exact f24 : n10 = hV H1 296 (n9).toNat).trans ((congrFun e2 _))
  have e4 : hV H1 285 18 = hV H0 285 18 := f8.1.2.1.1 285 18 (by decide +kernel)
  have e5 : hV H1 285 18 = hV H0 285 18 := e4
  have e6 : hV H1 294 = hV H0 294 := fRow f8.1.2.1 294 (by decide +kernel)
  have e7 : hV H1 298 = hV H0 298 := fRow f8.1.2.1 298 (by decide +kernel)
  have e8 : hV H1 300 = hV H0 300 := fRow f8.1.2.1 300 (by decide +kernel)
  have e9 : (0 : Int) ≤ hV H1 285 18 ∧ hV H1 285 18 ≤ 8 := f8.1.2.2 285 18 _ _ (by decide +kernel)
  have e10 : (0 : Int) ≤ hV H1 285 82 ∧ hV H1 285 82 ≤ 40 := f8.1.2.2 285 82 _ _ (by decide +kernel)
  try simp only [e5, e6, e2, e7, e8] at f8
  try simp only [e5, e6, e2, e7, e8] at e9
  try simp only [e5, e6, e2, e7, e8] at e10
  try simp only [e5, e6, e2, e7, e8] at g3
  try simp only [e5, e6, e2, e7, e8] at g4
  try simp only [e5, e6, e2, e7, e8]
  have k0 := g4.1
  have y0 := g4.2.1
  have y1 := g4.2.2.1
  have y2 := g4.2.2.2
  have p0 := g3.1
  have p1 := g3.2
  try simp only [e5, e6, e2, e7, e8] at k0
  try simp only [e5, e6, e2, e7, e8] at y0
  try simp only [e5, e6, e2, e7, e8] at y1
  try simp only [e5, e6, e2, e7, e8] at y2
  try simp only [e5, e6, e2, e7, e8] at p0
  try simp only [e5, e6, e2, e7, e8] at p1
  clear g3
  clear g4
  clear f11 f14 f16 f18 f21 f24 e2 e4 e5 e6 e7 e8
  subst e0
  subst e1
  subst e3
  unfold w32 at *
  try have ca := cue_at (p1 (n3).toNat (by omega)) y0 (by omega) (by omega) (c := (16 * hV H1 346 (n0).toNat + hV H1 347 (n0).toNat)) (by omega)
  try have sh := y1 (n0).toNat (by omega)
  try have lv := y0 (n0).toNat (by omega)
  try (have ix0 : n11 = n0 + -1 := (by omega); subst ix0)

  first
  | omega
  | (have ca := cue_at (p1 (n3).toNat (by omega)) y0 (by omega) (by omega) (c := (16 * hV H1 346 (n0).toNat + hV H1 347 (n0).toNat)) (by omega)
     omega)
  | (have ua := use_at (p1 (n3).toNat (by omega)) y0 (by omega) (by omega) (c := (16 * hV H1 346 (n0).toNat + hV H1 347 (n0).toNat)) (by omega) (by omega)
     omega)
  | (have ul := ULp_lay y2 (p1 (n3).toNat (by omega)) y0 (by omega) (by omega) (by omega) (c := (16 * hV H1 346 (n0).toNat + hV H1 347 (n0).toNat)) (by omega) (by omega)
     omega)
theorem c_270_34_26 {q0 : Nat} : vOkm T0 (eP e_270 L_270 A_270 mu_270 (some q0)) 2 ([(10, [11, 4], [], -1), (40, [6, 10], [], 0), (22, [10, 7, 9], [1], 0), (90, [10], [], 0), (91, [10], [], 16), (22, [9, 8, 4], [1], 0), (90, [9], [], 0), (91, [9], [], 62), (20, [8, 2], [1], 85), (0, [8], [], 346), (20, [7, 2], [1], 22), (0, [7], [], 296), (22, [6, 5, 4], [1], 0), (90, [6], [], 0), (91, [6], [], 16), (20, [5, 2], [1], 86), (0, [5], [], 347), (33, [4], [], 0), (5000, [0, 1, 2, 3, 4], [0, 1], 34), (0, [0], [], 285), (90, [1], [], 0), (91, [1], [], 7), (0, [2], [], 285), (90, [3], [], 0), (91, [3], [], 7), (90, [4], [], -1), (91, [4], [], 6)], (91, [11], [], 6)) := vOk_in fun ρ η h => by
  obtain ⟨f0, f1, f2, f3, f4, f5, f6, f7, f8, f9, f10, f11, f12, f13, f14, f15, f16, f17, f18, f19, f20, f21, f22, f23, f24, f25, f26, _⟩ := h
  exact q_270_29 (q0 := q0) (n0 := ρ 4) (n1 := ρ 3) (n2 := ρ 2) (n3 := ρ 1) (n4 := ρ 0) (n5 := ρ 5) (n6 := ρ 6) (n7 := ρ 7) (n8 := ρ 8) (n9 := ρ 9) (n10 := ρ 10) (n11 := ρ 11) (H0 := η 0) (H1 := η 1) f26 f25 f24 f23 f22 f21 f20 f19 f18 f17 f16 f15 f14 f13 f12 f11 f10 f9 f8 f7 f6 f5 f4 f3 f2 f1 f0
theorem q_270_30 {q0 : Nat} {n0 n1 n2 n3 n4 n5 n6 n7 n8 n9 n10 n11 : Int} {H0 H1 : gH} (f0 : n0 ≤ 6) (f1 : (-1) ≤ n0) (f2 : n1 ≤ 7) (f3 : 0 ≤ n1) (f4 : n2 = 285) (f5 : n3 ≤ 7) (f6 : 0 ≤ n3) (f7 : n4 = 285) (f8 : (hLe T0 H0 H1 ∧ hFr s_270.2.2.2.2 H0 H1 ∧ hWt T0 H1) ∧ (Ab_270_34 n4 n3 n2 n1 n0 H0 H1 ∧ preb_270 n4 n3 H0) ∧ some q0 = some (mub_270_34 n4 n3 n2 n1 n0 H0 H1)) (f9 : 0 ≤ n0) (f10 : n5 = 347) (f11 : n5 = hV H1 (n2).toNat 86) (f12 : n6 ≤ 16) (f13 : 0 ≤ n6) (f14 : n6 = hV H1 (n5).toNat (n0).toNat) (f15 : n7 = 296) (f16 : n7 = hV H1 (n2).toNat 22) (f17 : n8 = 346) (f18 : n8 = hV H1 (n2).toNat 85) (f19 : n9 ≤ 62) (f20 : 0 ≤ n9) (f21 : n9 = hV H1 (n8).toNat (n0).toNat) (f22 : n10 ≤ 16) (f23 : 0 ≤ n10) (f24 : n10 = hV H1 (n7).toNat (n9).toNat) (f25 : n6 = n10) (f26 : n11 = w32 (n0 + (-1))) : Ab_270_34 n4 n3 n2 n1 n11 H0 H1 ∧ ∀ q, some q0 = some q → mub_270_34 n4 n3 n2 n1 n11 H0 H1 < q := by
  have g4 := f8.2.1.1
  unfold Ab_270_34 at g4
  have g3 := f8.2.1.2
  unfold preb_270 at g3
  have g5 := Option.some.inj f8.2.2
  unfold mub_270_34 at g5
  unfold Ab_270_34
  unfold mub_270_34
  have e0 : n6 = hV H1 347 (n0).toNat := (by rw [f10] at f14; exact f14 : n6 = hV H1 347 (n0).toNat)
  have e1 : n9 = hV H1 346 (n0).toNat := (by rw [f17] at f21; exact f21 : n9 = hV H1 346 (n0).toNat)
  have e2 : hV H1 296 = hV H0 296 := fRow f8.1.2.1 296 (by decide +kernel)
  have e3 : n10 = hV H0 296 (n9).toNat := (by rw [f15] at f24; exact f24 : n10 = hV H1 296 (n9).toNat).trans ((congrFun e2 _))
  have e4 : hV H1 285 18 = hV H0 285 18 := f8.1.2.1.1 285 18 (by decide +kernel)
  have e5 : hV H1 285 18 = hV H0 285 18 := e4
  have e6 : hV H1 294 = hV H0 294 := fRow f8.1.2.1 294 (by decide +kernel)
  have e7 : hV H1 298 = hV H0 298 := fRow f8.1.2.1 298 (by decide +kernel)
  have e8 : hV H1 300 = hV H0 300 := fRow f8.1.2.1 300 (by decide +kernel)
  have e9 : (0 : Int) ≤ hV H1 285 18 ∧ hV H1 285 18 ≤ 8 := f8.1.2.2 285 18 _ _ (by decide +kernel)
  have e10 : (0 : Int) ≤ hV H1 285 82 ∧ hV H1 285 82 ≤ 40 := f8.1.2.2 285 82 _ _ (by decide +kernel)
  try simp only [e5, e6, e2, e7, e8] at f8
  try simp only [e5, e6, e2, e7, e8] at e9
  try simp only [e5, e6, e2, e7, e8] at e10
  try simp only [e5, e6, e2, e7, e8] at g3
  try simp only [e5, e6, e2, e7, e8] at g4
  try simp only [e5, e6, e2, e7, e8] at g5
  try simp only [e5, e6, e2, e7, e8]
  have k0 := g4.1
  have y0 := g4.2.1
  have y1 := g4.2.2.1
  have y2 := g4.2.2.2
  have p0 := g3.1
  have p1 := g3.2
  try simp only [e5, e6, e2, e7, e8] at k0
  try simp only [e5, e6, e2, e7, e8] at y0
  try simp only [e5, e6, e2, e7, e8] at y1
  try simp only [e5, e6, e2, e7, e8] at y2
  try simp only [e5, e6, e2, e7, e8] at p0
  try simp only [e5, e6, e2, e7, e8] at p1
  clear g3
  clear g4
  clear f11 f14 f16 f18 f21 f24 e2 e4 e5 e6 e7 e8
  subst e0
  subst e1
  subst e3
  unfold w32 at *
  try have ca := cue_at (p1 (n3).toNat (by omega)) y0 (by omega) (by omega) (c := (16 * hV H1 346 (n0).toNat + hV H1 347 (n0).toNat)) (by omega)
  try have sh := y1 (n0).toNat (by omega)
  try have lv := y0 (n0).toNat (by omega)
  try (have ix0 : n11 = n0 + -1 := (by omega); subst ix0)

  refine ⟨?_, fun q hq => ?_⟩
  · exact ⟨by first | omega | trivial, LVp_pop y0 (by omega), SHp_pop y1 (by omega), ULp_pop y2 (by omega) (by omega) (by omega)⟩
  · have g6 := Option.some.inj hq
    subst g6
    rw [g5]
    exact MS_lt_pop (by omega) (by omega)
theorem c_270_34_27 {q0 : Nat} : vOkm T0 (eP e_270 L_270 A_270 mu_270 (some q0)) 2 ([(10, [11, 4], [], -1), (40, [6, 10], [], 0), (22, [10, 7, 9], [1], 0), (90, [10], [], 0), (91, [10], [], 16), (22, [9, 8, 4], [1], 0), (90, [9], [], 0), (91, [9], [], 62), (20, [8, 2], [1], 85), (0, [8], [], 346), (20, [7, 2], [1], 22), (0, [7], [], 296), (22, [6, 5, 4], [1], 0), (90, [6], [], 0), (91, [6], [], 16), (20, [5, 2], [1], 86), (0, [5], [], 347), (33, [4], [], 0), (5000, [0, 1, 2, 3, 4], [0, 1], 34), (0, [0], [], 285), (90, [1], [], 0), (91, [1], [], 7), (0, [2], [], 285), (90, [3], [], 0), (91, [3], [], 7), (90, [4], [], -1), (91, [4], [], 6)], (4000, [2, 3, 11], [1], 34)) := vOk_in fun ρ η h => by
  obtain ⟨f0, f1, f2, f3, f4, f5, f6, f7, f8, f9, f10, f11, f12, f13, f14, f15, f16, f17, f18, f19, f20, f21, f22, f23, f24, f25, f26, _⟩ := h
  exact q_270_30 (q0 := q0) (n0 := ρ 4) (n1 := ρ 3) (n2 := ρ 2) (n3 := ρ 1) (n4 := ρ 0) (n5 := ρ 5) (n6 := ρ 6) (n7 := ρ 7) (n8 := ρ 8) (n9 := ρ 9) (n10 := ρ 10) (n11 := ρ 11) (H0 := η 0) (H1 := η 1) f26 f25 f24 f23 f22 f21 f20 f19 f18 f17 f16 f15 f14 f13 f12 f11 f10 f9 f8 f7 f6 f5 f4 f3 f2 f1 f0
def p_270_34 : List vG := [([(32, [4], [], 0), (5000, [0, 1, 2, 3, 4], [0, 1], 34), (0, [0], [], 285), (90, [1], [], 0), (91, [1], [], 7), (0, [2], [], 285), (90, [3], [], 0), (91, [3], [], 7), (90, [4], [], -1), (91, [4], [], 6)], (3000, [], [1], 203)),
  ([(1, [21, 19, 20], [], 0), (0, [20], [], 1), (22, [19, 18, 4], [1], 0), (90, [19], [], 0), (91, [19], [], 16), (20, [18, 2], [1], 86), (0, [18], [], 347), (1, [17, 14, 16], [], 0), (22, [16, 15, 4], [1], 0), (90, [16], [], 0), (91, [16], [], 16), (20, [15, 2], [1], 86), (0, [15], [], 347), (3, [14, 11, 13], [], 0), (22, [13, 12, 4], [1], 0), (90, [13], [], 0), (91, [13], [], 62), (20, [12, 2], [1], 85), (0, [12], [], 346), (0, [11], [], 16), (41, [6, 10], [], 0), (22, [10, 7, 9], [1], 0), (90, [10], [], 0), (91, [10], [], 16), (22, [9, 8, 4], [1], 0), (90, [9], [], 0), (91, [9], [], 62), (20, [8, 2], [1], 85), (0, [8], [], 346), (20, [7, 2], [1], 22), (0, [7], [], 296), (22, [6, 5, 4], [1], 0), (90, [6], [], 0), (91, [6], [], 16), (20, [5, 2], [1], 86), (0, [5], [], 347), (33, [4], [], 0), (5000, [0, 1, 2, 3, 4], [0, 1], 34), (0, [0], [], 285), (90, [1], [], 0), (91, [1], [], 7), (0, [2], [], 285), (90, [3], [], 0), (91, [3], [], 7), (90, [4], [], -1), (91, [4], [], 6)], (90, [21], [], 0)),
  ([(1, [21, 19, 20], [], 0), (0, [20], [], 1), (22, [19, 18, 4], [1], 0), (90, [19], [], 0), (91, [19], [], 16), (20, [18, 2], [1], 86), (0, [18], [], 347), (1, [17, 14, 16], [], 0), (22, [16, 15, 4], [1], 0), (90, [16], [], 0), (91, [16], [], 16), (20, [15, 2], [1], 86), (0, [15], [], 347), (3, [14, 11, 13], [], 0), (22, [13, 12, 4], [1], 0), (90, [13], [], 0), (91, [13], [], 62), (20, [12, 2], [1], 85), (0, [12], [], 346), (0, [11], [], 16), (41, [6, 10], [], 0), (22, [10, 7, 9], [1], 0), (90, [10], [], 0), (91, [10], [], 16), (22, [9, 8, 4], [1], 0), (90, [9], [], 0), (91, [9], [], 62), (20, [8, 2], [1], 85), (0, [8], [], 346), (20, [7, 2], [1], 22), (0, [7], [], 296), (22, [6, 5, 4], [1], 0), (90, [6], [], 0), (91, [6], [], 16), (20, [5, 2], [1], 86), (0, [5], [], 347), (33, [4], [], 0), (5000, [0, 1, 2, 3, 4], [0, 1], 34), (0, [0], [], 285), (90, [1], [], 0), (91, [1], [], 7), (0, [2], [], 285), (90, [3], [], 0), (91, [3], [], 7), (90, [4], [], -1), (91, [4], [], 6)], (91, [21], [], 16)),
  ([(1, [21, 19, 20], [], 0), (0, [20], [], 1), (22, [19, 18, 4], [1], 0), (90, [19], [], 0), (91, [19], [], 16), (20, [18, 2], [1], 86), (0, [18], [], 347), (1, [17, 14, 16], [], 0), (22, [16, 15, 4], [1], 0), (90, [16], [], 0), (91, [16], [], 16), (20, [15, 2], [1], 86), (0, [15], [], 347), (3, [14, 11, 13], [], 0), (22, [13, 12, 4], [1], 0), (90, [13], [], 0), (91, [13], [], 62), (20, [12, 2], [1], 85), (0, [12], [], 346), (0, [11], [], 16), (41, [6, 10], [], 0), (22, [10, 7, 9], [1], 0), (90, [10], [], 0), (91, [10], [], 16), (22, [9, 8, 4], [1], 0), (90, [9], [], 0), (91, [9], [], 62), (20, [8, 2], [1], 85), (0, [8], [], 346), (20, [7, 2], [1], 22), (0, [7], [], 296), (22, [6, 5, 4], [1], 0), (90, [6], [], 0), (91, [6], [], 16), (20, [5, 2], [1], 86), (0, [5], [], 347), (33, [4], [], 0), (5000, [0, 1, 2, 3, 4], [0, 1], 34), (0, [0], [], 285), (90, [1], [], 0), (91, [1], [], 7), (0, [2], [], 285), (90, [3], [], 0), (91, [3], [], 7), (90, [4], [], -1), (91, [4], [], 6)], (70, [17], [], 1008)),
  ([(1, [27, 4, 26], [], 0), (0, [26], [], 1), (40, [23, 24], [], 0), (0, [24], [], 5), (22, [23, 22, 17], [2], 0), (90, [23], [], 0), (91, [23], [], 5), (20, [22, 2], [2], 24), (0, [22], [], 298), (80, [18, 4, 21], [2, 1], 0), (1, [21, 19, 20], [], 0), (0, [20], [], 1), (22, [19, 18, 4], [1], 0), (90, [19], [], 0), (91, [19], [], 16), (20, [18, 2], [1], 86), (0, [18], [], 347), (1, [17, 14, 16], [], 0), (22, [16, 15, 4], [1], 0), (90, [16], [], 0), (91, [16], [], 16), (20, [15, 2], [1], 86), (0, [15], [], 347), (3, [14, 11, 13], [], 0), (22, [13, 12, 4], [1], 0), (90, [13], [], 0), (91, [13], [], 62), (20, [12, 2], [1], 85), (0, [12], [], 346), (0, [11], [], 16), (41, [6, 10], [], 0), (22, [10, 7, 9], [1], 0), (90, [10], [], 0), (91, [10], [], 16), (22, [9, 8, 4], [1], 0), (90, [9], [], 0), (91, [9], [], 62), (20, [8, 2], [1], 85), (0, [8], [], 346), (20, [7, 2], [1], 22), (0, [7], [], 296), (22, [6, 5, 4], [1], 0), (90, [6], [], 0), (91, [6], [], 16), (20, [5, 2], [1], 86), (0, [5], [], 347), (33, [4], [], 0), (5000, [0, 1, 2, 3, 4], [0, 1], 34), (0, [0], [], 285), (90, [1], [], 0), (91, [1], [], 7), (0, [2], [], 285), (90, [3], [], 0), (91, [3], [], 7), (90, [4], [], -1), (91, [4], [], 6)], (70, [17], [], 1008)),
  ([(22, [29, 28, 17], [2], 0), (90, [29], [], -1), (91, [29], [], 9999), (20, [28, 2], [2], 27), (0, [28], [], 301), (1, [27, 4, 26], [], 0), (0, [26], [], 1), (40, [23, 24], [], 0), (0, [24], [], 5), (22, [23, 22, 17], [2], 0), (90, [23], [], 0), (91, [23], [], 5), (20, [22, 2], [2], 24), (0, [22], [], 298), (80, [18, 4, 21], [2, 1], 0), (1, [21, 19, 20], [], 0), (0, [20], [], 1), (22, [19, 18, 4], [1], 0), (90, [19], [], 0), (91, [19], [], 16), (20, [18, 2], [1], 86), (0, [18], [], 347), (1, [17, 14, 16], [], 0), (22, [16, 15, 4], [1], 0), (90, [16], [], 0), (91, [16], [], 16), (20, [15, 2], [1], 86), (0, [15], [], 347), (3, [14, 11, 13], [], 0), (22, [13, 12, 4], [1], 0), (90, [13], [], 0), (91, [13], [], 62), (20, [12, 2], [1], 85), (0, [12], [], 346), (0, [11], [], 16), (41, [6, 10], [], 0), (22, [10, 7, 9], [1], 0), (90, [10], [], 0), (91, [10], [], 16), (22, [9, 8, 4], [1], 0), (90, [9], [], 0), (91, [9], [], 62), (20, [8, 2], [1], 85), (0, [8], [], 346), (20, [7, 2], [1], 22), (0, [7], [], 296), (22, [6, 5, 4], [1], 0), (90, [6], [], 0), (91, [6], [], 16), (20, [5, 2], [1], 86), (0, [5], [], 347), (33, [4], [], 0), (5000, [0, 1, 2, 3, 4], [0, 1], 34), (0, [0], [], 285), (90, [1], [], 0), (91, [1], [], 7), (0, [2], [], 285), (90, [3], [], 0), (91, [3], [], 7), (90, [4], [], -1), (91, [4], [], 6)], (70, [17], [], 1008)),
  ([(22, [33, 32, 4], [2], 0), (90, [33], [], -1000), (91, [33], [], 1000), (20, [32, 2], [2], 87), (0, [32], [], 348), (22, [31, 30, 17], [2], 0), (90, [31], [], -9999), (91, [31], [], 9999), (20, [30, 2], [2], 28), (0, [30], [], 302), (22, [29, 28, 17], [2], 0), (90, [29], [], -1), (91, [29], [], 9999), (20, [28, 2], [2], 27), (0, [28], [], 301), (1, [27, 4, 26], [], 0), (0, [26], [], 1), (20, [25, 2], [2], 87), (0, [25], [], 348), (40, [23, 24], [], 0), (0, [24], [], 5), (22, [23, 22, 17], [2], 0), (90, [23], [], 0), (91, [23], [], 5), (20, [22, 2], [2], 24), (0, [22], [], 298), (80, [18, 4, 21], [2, 1], 0), (1, [21, 19, 20], [], 0), (0, [20], [], 1), (22, [19, 18, 4], [1], 0), (90, [19], [], 0), (91, [19], [], 16), (20, [18, 2], [1], 86), (0, [18], [], 347), (1, [17, 14, 16], [], 0), (22, [16, 15, 4], [1], 0), (90, [16], [], 0), (91, [16], [], 16), (20, [15, 2], [1], 86), (0, [15], [], 347), (3, [14, 11, 13], [], 0), (22, [13, 12, 4], [1], 0), (90, [13], [], 0), (91, [13], [], 62), (20, [12, 2], [1], 85), (0, [12], [], 346), (0, [11], [], 16), (41, [6, 10], [], 0), (22, [10, 7, 9], [1], 0), (90, [10], [], 0), (91, [10], [], 16), (22, [9, 8, 4], [1], 0), (90, [9], [], 0), (91, [9], [], 62), (20, [8, 2], [1], 85), (0, [8], [], 346), (20, [7, 2], [1], 22), (0, [7], [], 296), (22, [6, 5, 4], [1], 0), (90, [6], [], 0), (91, [6], [], 16), (20, [5, 2], [1], 86), (0, [5], [], 347), (33, [4], [], 0), (5000, [0, 1, 2, 3, 4], [0, 1], 34), (0, [0], [], 285), (90, [1], [], 0), (91, [1], [], 7), (0, [2], [], 285), (90, [3], [], 0), (91, [3], [], 7), (90, [4], [], -1), (91, [4], [], 6)], (91, [29], [], 7)),
  ([(1269, [34, 2, 29, 31, 33], [2, 3], 0), (90, [34], [], -10999), (91, [34], [], 10999), (22, [33, 32, 4], [2], 0), (90, [33], [], -1000), (91, [33], [], 1000), (20, [32, 2], [2], 87), (0, [32], [], 348), (22, [31, 30, 17], [2], 0), (90, [31], [], -9999), (91, [31], [], 9999), (20, [30, 2], [2], 28), (0, [30], [], 302), (22, [29, 28, 17], [2], 0), (90, [29], [], -1), (91, [29], [], 9999), (20, [28, 2], [2], 27), (0, [28], [], 301), (1, [27, 4, 26], [], 0), (0, [26], [], 1), (20, [25, 2], [2], 87), (0, [25], [], 348), (40, [23, 24], [], 0), (0, [24], [], 5), (22, [23, 22, 17], [2], 0), (90, [23], [], 0), (91, [23], [], 5), (20, [22, 2], [2], 24), (0, [22], [], 298), (80, [18, 4, 21], [2, 1], 0), (1, [21, 19, 20], [], 0), (0, [20], [], 1), (22, [19, 18, 4], [1], 0), (90, [19], [], 0), (91, [19], [], 16), (20, [18, 2], [1], 86), (0, [18], [], 347), (1, [17, 14, 16], [], 0), (22, [16, 15, 4], [1], 0), (90, [16], [], 0), (91, [16], [], 16), (20, [15, 2], [1], 86), (0, [15], [], 347), (3, [14, 11, 13], [], 0), (22, [13, 12, 4], [1], 0), (90, [13], [], 0), (91, [13], [], 62), (20, [12, 2], [1], 85), (0, [12], [], 346), (0, [11], [], 16), (41, [6, 10], [], 0), (22, [10, 7, 9], [1], 0), (90, [10], [], 0), (91, [10], [], 16), (22, [9, 8, 4], [1], 0), (90, [9], [], 0), (91, [9], [], 62), (20, [8, 2], [1], 85), (0, [8], [], 346), (20, [7, 2], [1], 22), (0, [7], [], 296), (22, [6, 5, 4], [1], 0), (90, [6], [], 0), (91, [6], [], 16), (20, [5, 2], [1], 86), (0, [5], [], 347), (33, [4], [], 0), (5000, [0, 1, 2, 3, 4], [0, 1], 34), (0, [0], [], 285), (90, [1], [], 0), (91, [1], [], 7), (0, [2], [], 285), (90, [3], [], 0), (91, [3], [], 7), (90, [4], [], -1), (91, [4], [], 6)], (70, [27], [], 8)),
  ([(1269, [34, 2, 29, 31, 33], [2, 3], 0), (90, [34], [], -10999), (91, [34], [], 10999), (22, [33, 32, 4], [2], 0), (90, [33], [], -1000), (91, [33], [], 1000), (20, [32, 2], [2], 87), (0, [32], [], 348), (22, [31, 30, 17], [2], 0), (90, [31], [], -9999), (91, [31], [], 9999), (20, [30, 2], [2], 28), (0, [30], [], 302), (22, [29, 28, 17], [2], 0), (90, [29], [], -1), (91, [29], [], 9999), (20, [28, 2], [2], 27), (0, [28], [], 301), (1, [27, 4, 26], [], 0), (0, [26], [], 1), (20, [25, 2], [2], 87), (0, [25], [], 348), (40, [23, 24], [], 0), (0, [24], [], 5), (22, [23, 22, 17], [2], 0), (90, [23], [], 0), (91, [23], [], 5), (20, [22, 2], [2], 24), (0, [22], [], 298), (80, [18, 4, 21], [2, 1], 0), (1, [21, 19, 20], [], 0), (0, [20], [], 1), (22, [19, 18, 4], [1], 0), (90, [19], [], 0), (91, [19], [], 16), (20, [18, 2], [1], 86), (0, [18], [], 347), (1, [17, 14, 16], [], 0), (22, [16, 15, 4], [1], 0), (90, [16], [], 0), (91, [16], [], 16), (20, [15, 2], [1], 86), (0, [15], [], 347), (3, [14, 11, 13], [], 0), (22, [13, 12, 4], [1], 0), (90, [13], [], 0), (91, [13], [], 62), (20, [12, 2], [1], 85), (0, [12], [], 346), (0, [11], [], 16), (41, [6, 10], [], 0), (22, [10, 7, 9], [1], 0), (90, [10], [], 0), (91, [10], [], 16), (22, [9, 8, 4], [1], 0), (90, [9], [], 0), (91, [9], [], 62), (20, [8, 2], [1], 85), (0, [8], [], 346), (20, [7, 2], [1], 22), (0, [7], [], 296), (22, [6, 5, 4], [1], 0), (90, [6], [], 0), (91, [6], [], 16), (20, [5, 2], [1], 86), (0, [5], [], 347), (33, [4], [], 0), (5000, [0, 1, 2, 3, 4], [0, 1], 34), (0, [0], [], 285), (90, [1], [], 0), (91, [1], [], 7), (0, [2], [], 285), (90, [3], [], 0), (91, [3], [], 7), (90, [4], [], -1), (91, [4], [], 6)], (90, [34], [], -1000)),
  ([(1269, [34, 2, 29, 31, 33], [2, 3], 0), (90, [34], [], -10999), (91, [34], [], 10999), (22, [33, 32, 4], [2], 0), (90, [33], [], -1000), (91, [33], [], 1000), (20, [32, 2], [2], 87), (0, [32], [], 348), (22, [31, 30, 17], [2], 0), (90, [31], [], -9999), (91, [31], [], 9999), (20, [30, 2], [2], 28), (0, [30], [], 302), (22, [29, 28, 17], [2], 0), (90, [29], [], -1), (91, [29], [], 9999), (20, [28, 2], [2], 27), (0, [28], [], 301), (1, [27, 4, 26], [], 0), (0, [26], [], 1), (20, [25, 2], [2], 87), (0, [25], [], 348), (40, [23, 24], [], 0), (0, [24], [], 5), (22, [23, 22, 17], [2], 0), (90, [23], [], 0), (91, [23], [], 5), (20, [22, 2], [2], 24), (0, [22], [], 298), (80, [18, 4, 21], [2, 1], 0), (1, [21, 19, 20], [], 0), (0, [20], [], 1), (22, [19, 18, 4], [1], 0), (90, [19], [], 0), (91, [19], [], 16), (20, [18, 2], [1], 86), (0, [18], [], 347), (1, [17, 14, 16], [], 0), (22, [16, 15, 4], [1], 0), (90, [16], [], 0), (91, [16], [], 16), (20, [15, 2], [1], 86), (0, [15], [], 347), (3, [14, 11, 13], [], 0), (22, [13, 12, 4], [1], 0), (90, [13], [], 0), (91, [13], [], 62), (20, [12, 2], [1], 85), (0, [12], [], 346), (0, [11], [], 16), (41, [6, 10], [], 0), (22, [10, 7, 9], [1], 0), (90, [10], [], 0), (91, [10], [], 16), (22, [9, 8, 4], [1], 0), (90, [9], [], 0), (91, [9], [], 62), (20, [8, 2], [1], 85), (0, [8], [], 346), (20, [7, 2], [1], 22), (0, [7], [], 296), (22, [6, 5, 4], [1], 0), (90, [6], [], 0), (91, [6], [], 16), (20, [5, 2], [1], 86), (0, [5], [], 347), (33, [4], [], 0), (5000, [0, 1, 2, 3, 4], [0, 1], 34), (0, [0], [], 285), (90, [1], [], 0), (91, [1], [], 7), (0, [2], [], 285), (90, [3], [], 0), (91, [3], [], 7), (90, [4], [], -1), (91, [4], [], 6)], (91, [34], [], 1000)),
  ([(3, [39, 38, 3], [], 0), (0, [38], [], 7), (1, [37, 4, 36], [], 0), (0, [36], [], 1), (20, [35, 2], [4], 85), (0, [35], [], 346), (80, [25, 27, 34], [4, 3], 0), (1269, [34, 2, 29, 31, 33], [2, 3], 0), (90, [34], [], -10999), (91, [34], [], 10999), (22, [33, 32, 4], [2], 0), (90, [33], [], -1000), (91, [33], [], 1000), (20, [32, 2], [2], 87), (0, [32], [], 348), (22, [31, 30, 17], [2], 0), (90, [31], [], -9999), (91, [31], [], 9999), (20, [30, 2], [2], 28), (0, [30], [], 302), (22, [29, 28, 17], [2], 0), (90, [29], [], -1), (91, [29], [], 9999), (20, [28, 2], [2], 27), (0, [28], [], 301), (1, [27, 4, 26], [], 0), (0, [26], [], 1), (20, [25, 2], [2], 87), (0, [25], [], 348), (40, [23, 24], [], 0), (0, [24], [], 5), (22, [23, 22, 17], [2], 0), (90, [23], [], 0), (91, [23], [], 5), (20, [22, 2], [2], 24), (0, [22], [], 298), (80, [18, 4, 21], [2, 1], 0), (1, [21, 19, 20], [], 0), (0, [20], [], 1), (22, [19, 18, 4], [1], 0), (90, [19], [], 0), (91, [19], [], 16), (20, [18, 2], [1], 86), (0, [18], [], 347), (1, [17, 14, 16], [], 0), (22, [16, 15, 4], [1], 0), (90, [16], [], 0), (91, [16], [], 16), (20, [15, 2], [1], 86), (0, [15], [], 347), (3, [14, 11, 13], [], 0), (22, [13, 12, 4], [1], 0), (90, [13], [], 0), (91, [13], [], 62), (20, [12, 2], [1], 85), (0, [12], [], 346), (0, [11], [], 16), (41, [6, 10], [], 0), (22, [10, 7, 9], [1], 0), (90, [10], [], 0), (91, [10], [], 16), (22, [9, 8, 4], [1], 0), (90, [9], [], 0), (91, [9], [], 62), (20, [8, 2], [1], 85), (0, [8], [], 346), (20, [7, 2], [1], 22), (0, [7], [], 296), (22, [6, 5, 4], [1], 0), (90, [6], [], 0), (91, [6], [], 16), (20, [5, 2], [1], 86), (0, [5], [], 347), (33, [4], [], 0), (5000, [0, 1, 2, 3, 4], [0, 1], 34), (0, [0], [], 285), (90, [1], [], 0), (91, [1], [], 7), (0, [2], [], 285), (90, [3], [], 0), (91, [3], [], 7), (90, [4], [], -1), (91, [4], [], 6)], (70, [17], [], 1008)),
  ([(1, [42, 39, 41], [], 0), (22, [41, 40, 17], [4], 0), (90, [41], [], -1), (91, [41], [], 9999), (20, [40, 2], [4], 26), (0, [40], [], 300), (3, [39, 38, 3], [], 0), (0, [38], [], 7), (1, [37, 4, 36], [], 0), (0, [36], [], 1), (20, [35, 2], [4], 85), (0, [35], [], 346), (80, [25, 27, 34], [4, 3], 0), (1269, [34, 2, 29, 31, 33], [2, 3], 0), (90, [34], [], -10999), (91, [34], [], 10999), (22, [33, 32, 4], [2], 0), (90, [33], [], -1000), (91, [33], [], 1000), (20, [32, 2], [2], 87), (0, [32], [], 348), (22, [31, 30, 17], [2], 0), (90, [31], [], -9999), (91, [31], [], 9999), (20, [30, 2], [2], 28), (0, [30], [], 302), (22, [29, 28, 17], [2], 0), (90, [29], [], -1), (91, [29], [], 9999), (20, [28, 2], [2], 27), (0, [28], [], 301), (1, [27, 4, 26], [], 0), (0, [26], [], 1), (20, [25, 2], [2], 87), (0, [25], [], 348), (40, [23, 24], [], 0), (0, [24], [], 5), (22, [23, 22, 17], [2], 0), (90, [23], [], 0), (91, [23], [], 5), (20, [22, 2], [2], 24), (0, [22], [], 298), (80, [18, 4, 21], [2, 1], 0), (1, [21, 19, 20], [], 0), (0, [20], [], 1), (22, [19, 18, 4], [1], 0), (90, [19], [], 0), (91, [19], [], 16), (20, [18, 2], [1], 86), (0, [18], [], 347), (1, [17, 14, 16], [], 0), (22, [16, 15, 4], [1], 0), (90, [16], [], 0), (91, [16], [], 16), (20, [15, 2], [1], 86), (0, [15], [], 347), (3, [14, 11, 13], [], 0), (22, [13, 12, 4], [1], 0), (90, [13], [], 0), (91, [13], [], 62), (20, [12, 2], [1], 85), (0, [12], [], 346), (0, [11], [], 16), (41, [6, 10], [], 0), (22, [10, 7, 9], [1], 0), (90, [10], [], 0), (91, [10], [], 16), (22, [9, 8, 4], [1], 0), (90, [9], [], 0), (91, [9], [], 62), (20, [8, 2], [1], 85), (0, [8], [], 346), (20, [7, 2], [1], 22), (0, [7], [], 296), (22, [6, 5, 4], [1], 0), (90, [6], [], 0), (91, [6], [], 16), (20, [5, 2], [1], 86), (0, [5], [], 347), (33, [4], [], 0), (5000, [0, 1, 2, 3, 4], [0, 1], 34), (0, [0], [], 285), (90, [1], [], 0), (91, [1], [], 7), (0, [2], [], 285), (90, [3], [], 0), (91, [3], [], 7), (90, [4], [], -1), (91, [4], [], 6)], (70, [37], [], 8)),
  ([(1, [42, 39, 41], [], 0), (22, [41, 40, 17], [4], 0), (90, [41], [], -1), (91, [41], [], 9999), (20, [40, 2], [4], 26), (0, [40], [], 300), (3, [39, 38, 3], [], 0), (0, [38], [], 7), (1, [37, 4, 36], [], 0), (0, [36], [], 1), (20, [35, 2], [4], 85), (0, [35], [], 346), (80, [25, 27, 34], [4, 3], 0), (1269, [34, 2, 29, 31, 33], [2, 3], 0), (90, [34], [], -10999), (91, [34], [], 10999), (22, [33, 32, 4], [2], 0), (90, [33], [], -1000), (91, [33], [], 1000), (20, [32, 2], [2], 87), (0, [32], [], 348), (22, [31, 30, 17], [2], 0), (90, [31], [], -9999), (91, [31], [], 9999), (20, [30, 2], [2], 28), (0, [30], [], 302), (22, [29, 28, 17], [2], 0), (90, [29], [], -1), (91, [29], [], 9999), (20, [28, 2], [2], 27), (0, [28], [], 301), (1, [27, 4, 26], [], 0), (0, [26], [], 1), (20, [25, 2], [2], 87), (0, [25], [], 348), (40, [23, 24], [], 0), (0, [24], [], 5), (22, [23, 22, 17], [2], 0), (90, [23], [], 0), (91, [23], [], 5), (20, [22, 2], [2], 24), (0, [22], [], 298), (80, [18, 4, 21], [2, 1], 0), (1, [21, 19, 20], [], 0), (0, [20], [], 1), (22, [19, 18, 4], [1], 0), (90, [19], [], 0), (91, [19], [], 16), (20, [18, 2], [1], 86), (0, [18], [], 347), (1, [17, 14, 16], [], 0), (22, [16, 15, 4], [1], 0), (90, [16], [], 0), (91, [16], [], 16), (20, [15, 2], [1], 86), (0, [15], [], 347), (3, [14, 11, 13], [], 0), (22, [13, 12, 4], [1], 0), (90, [13], [], 0), (91, [13], [], 62), (20, [12, 2], [1], 85), (0, [12], [], 346), (0, [11], [], 16), (41, [6, 10], [], 0), (22, [10, 7, 9], [1], 0), (90, [10], [], 0), (91, [10], [], 16), (22, [9, 8, 4], [1], 0), (90, [9], [], 0), (91, [9], [], 62), (20, [8, 2], [1], 85), (0, [8], [], 346), (20, [7, 2], [1], 22), (0, [7], [], 296), (22, [6, 5, 4], [1], 0), (90, [6], [], 0), (91, [6], [], 16), (20, [5, 2], [1], 86), (0, [5], [], 347), (33, [4], [], 0), (5000, [0, 1, 2, 3, 4], [0, 1], 34), (0, [0], [], 285), (90, [1], [], 0), (91, [1], [], 7), (0, [2], [], 285), (90, [3], [], 0), (91, [3], [], 7), (90, [4], [], -1), (91, [4], [], 6)], (90, [42], [], 0)),
  ([(1, [42, 39, 41], [], 0), (22, [41, 40, 17], [4], 0), (90, [41], [], -1), (91, [41], [], 9999), (20, [40, 2], [4], 26), (0, [40], [], 300), (3, [39, 38, 3], [], 0), (0, [38], [], 7), (1, [37, 4, 36], [], 0), (0, [36], [], 1), (20, [35, 2], [4], 85), (0, [35], [], 346), (80, [25, 27, 34], [4, 3], 0), (1269, [34, 2, 29, 31, 33], [2, 3], 0), (90, [34], [], -10999), (91, [34], [], 10999), (22, [33, 32, 4], [2], 0), (90, [33], [], -1000), (91, [33], [], 1000), (20, [32, 2], [2], 87), (0, [32], [], 348), (22, [31, 30, 17], [2], 0), (90, [31], [], -9999), (91, [31], [], 9999), (20, [30, 2], [2], 28), (0, [30], [], 302), (22, [29, 28, 17], [2], 0), (90, [29], [], -1), (91, [29], [], 9999), (20, [28, 2], [2], 27), (0, [28], [], 301), (1, [27, 4, 26], [], 0), (0, [26], [], 1), (20, [25, 2], [2], 87), (0, [25], [], 348), (40, [23, 24], [], 0), (0, [24], [], 5), (22, [23, 22, 17], [2], 0), (90, [23], [], 0), (91, [23], [], 5), (20, [22, 2], [2], 24), (0, [22], [], 298), (80, [18, 4, 21], [2, 1], 0), (1, [21, 19, 20], [], 0), (0, [20], [], 1), (22, [19, 18, 4], [1], 0), (90, [19], [], 0), (91, [19], [], 16), (20, [18, 2], [1], 86), (0, [18], [], 347), (1, [17, 14, 16], [], 0), (22, [16, 15, 4], [1], 0), (90, [16], [], 0), (91, [16], [], 16), (20, [15, 2], [1], 86), (0, [15], [], 347), (3, [14, 11, 13], [], 0), (22, [13, 12, 4], [1], 0), (90, [13], [], 0), (91, [13], [], 62), (20, [12, 2], [1], 85), (0, [12], [], 346), (0, [11], [], 16), (41, [6, 10], [], 0), (22, [10, 7, 9], [1], 0), (90, [10], [], 0), (91, [10], [], 16), (22, [9, 8, 4], [1], 0), (90, [9], [], 0), (91, [9], [], 62), (20, [8, 2], [1], 85), (0, [8], [], 346), (20, [7, 2], [1], 22), (0, [7], [], 296), (22, [6, 5, 4], [1], 0), (90, [6], [], 0), (91, [6], [], 16), (20, [5, 2], [1], 86), (0, [5], [], 347), (33, [4], [], 0), (5000, [0, 1, 2, 3, 4], [0, 1], 34), (0, [0], [], 285), (90, [1], [], 0), (91, [1], [], 7), (0, [2], [], 285), (90, [3], [], 0), (91, [3], [], 7), (90, [4], [], -1), (91, [4], [], 6)], (91, [42], [], 62)),
  ([(1, [45, 4, 44], [], 0), (0, [44], [], 1), (20, [43, 2], [5], 86), (0, [43], [], 347), (80, [35, 37, 42], [5, 4], 0), (1, [42, 39, 41], [], 0), (22, [41, 40, 17], [4], 0), (90, [41], [], -1), (91, [41], [], 9999), (20, [40, 2], [4], 26), (0, [40], [], 300), (3, [39, 38, 3], [], 0), (0, [38], [], 7), (1, [37, 4, 36], [], 0), (0, [36], [], 1), (20, [35, 2], [4], 85), (0, [35], [], 346), (80, [25, 27, 34], [4, 3], 0), (1269, [34, 2, 29, 31, 33], [2, 3], 0), (90, [34], [], -10999), (91, [34], [], 10999), (22, [33, 32, 4], [2], 0), (90, [33], [], -1000), (91, [33], [], 1000), (20, [32, 2], [2], 87), (0, [32], [], 348), (22, [31, 30, 17], [2], 0), (90, [31], [], -9999), (91, [31], [], 9999), (20, [30, 2], [2], 28), (0, [30], [], 302), (22, [29, 28, 17], [2], 0), (90, [29], [], -1), (91, [29], [], 9999), (20, [28, 2], [2], 27), (0, [28], [], 301), (1, [27, 4, 26], [], 0), (0, [26], [], 1), (20, [25, 2], [2], 87), (0, [25], [], 348), (40, [23, 24], [], 0), (0, [24], [], 5), (22, [23, 22, 17], [2], 0), (90, [23], [], 0), (91, [23], [], 5), (20, [22, 2], [2], 24), (0, [22], [], 298), (80, [18, 4, 21], [2, 1], 0), (1, [21, 19, 20], [], 0), (0, [20], [], 1), (22, [19, 18, 4], [1], 0), (90, [19], [], 0), (91, [19], [], 16), (20, [18, 2], [1], 86), (0, [18], [], 347), (1, [17, 14, 16], [], 0), (22, [16, 15, 4], [1], 0), (90, [16], [], 0), (91, [16], [], 16), (20, [15, 2], [1], 86), (0, [15], [], 347), (3, [14, 11, 13], [], 0), (22, [13, 12, 4], [1], 0), (90, [13], [], 0), (91, [13], [], 62), (20, [12, 2], [1], 85), (0, [12], [], 346), (0, [11], [], 16), (41, [6, 10], [], 0), (22, [10, 7, 9], [1], 0), (90, [10], [], 0), (91, [10], [], 16), (22, [9, 8, 4], [1], 0), (90, [9], [], 0), (91, [9], [], 62), (20, [8, 2], [1], 85), (0, [8], [], 346), (20, [7, 2], [1], 22), (0, [7], [], 296), (22, [6, 5, 4], [1], 0), (90, [6], [], 0), (91, [6], [], 16), (20, [5, 2], [1], 86), (0, [5], [], 347), (33, [4], [], 0), (5000, [0, 1, 2, 3, 4], [0, 1], 34), (0, [0], [], 285), (90, [1], [], 0), (91, [1], [], 7), (0, [2], [], 285), (90, [3], [], 0), (91, [3], [], 7), (90, [4], [], -1), (91, [4], [], 6)], (70, [45], [], 8)),
  ([(10, [47, 4], [], 1), (1, [45, 4, 44], [], 0), (0, [44], [], 1), (20, [43, 2], [5], 86), (0, [43], [], 347), (80, [35, 37, 42], [5, 4], 0), (1, [42, 39, 41], [], 0), (22, [41, 40, 17], [4], 0), (90, [41], [], -1), (91, [41], [], 9999), (20, [40, 2], [4], 26), (0, [40], [], 300), (3, [39, 38, 3], [], 0), (0, [38], [], 7), (1, [37, 4, 36], [], 0), (0, [36], [], 1), (20, [35, 2], [4], 85), (0, [35], [], 346), (80, [25, 27, 34], [4, 3], 0), (1269, [34, 2, 29, 31, 33], [2, 3], 0), (90, [34], [], -10999), (91, [34], [], 10999), (22, [33, 32, 4], [2], 0), (90, [33], [], -1000), (91, [33], [], 1000), (20, [32, 2], [2], 87), (0, [32], [], 348), (22, [31, 30, 17], [2], 0), (90, [31], [], -9999), (91, [31], [], 9999), (20, [30, 2], [2], 28), (0, [30], [], 302), (22, [29, 28, 17], [2], 0), (90, [29], [], -1), (91, [29], [], 9999), (20, [28, 2], [2], 27), (0, [28], [], 301), (1, [27, 4, 26], [], 0), (0, [26], [], 1), (20, [25, 2], [2], 87), (0, [25], [], 348), (40, [23, 24], [], 0), (0, [24], [], 5), (22, [23, 22, 17], [2], 0), (90, [23], [], 0), (91, [23], [], 5), (20, [22, 2], [2], 24), (0, [22], [], 298), (80, [18, 4, 21], [2, 1], 0), (1, [21, 19, 20], [], 0), (0, [20], [], 1), (22, [19, 18, 4], [1], 0), (90, [19], [], 0), (91, [19], [], 16), (20, [18, 2], [1], 86), (0, [18], [], 347), (1, [17, 14, 16], [], 0), (22, [16, 15, 4], [1], 0), (90, [16], [], 0), (91, [16], [], 16), (20, [15, 2], [1], 86), (0, [15], [], 347), (3, [14, 11, 13], [], 0), (22, [13, 12, 4], [1], 0), (90, [13], [], 0), (91, [13], [], 62), (20, [12, 2], [1], 85), (0, [12], [], 346), (0, [11], [], 16), (41, [6, 10], [], 0), (22, [10, 7, 9], [1], 0), (90, [10], [], 0), (91, [10], [], 16), (22, [9, 8, 4], [1], 0), (90, [9], [], 0), (91, [9], [], 62), (20, [8, 2], [1], 85), (0, [8], [], 346), (20, [7, 2], [1], 22), (0, [7], [], 296), (22, [6, 5, 4], [1], 0), (90, [6], [], 0), (91, [6], [], 16), (20, [5, 2], [1], 86), (0, [5], [], 347), (33, [4], [], 0), (5000, [0, 1, 2, 3, 4], [0, 1], 34), (0, [0], [], 285), (90, [1], [], 0), (91, [1], [], 7), (0, [2], [], 285), (90, [3], [], 0), (91, [3], [], 7), (90, [4], [], -1), (91, [4], [], 6)], (90, [47], [], -1)),
  ([(10, [47, 4], [], 1), (1, [45, 4, 44], [], 0), (0, [44], [], 1), (20, [43, 2], [5], 86), (0, [43], [], 347), (80, [35, 37, 42], [5, 4], 0), (1, [42, 39, 41], [], 0), (22, [41, 40, 17], [4], 0), (90, [41], [], -1), (91, [41], [], 9999), (20, [40, 2], [4], 26), (0, [40], [], 300), (3, [39, 38, 3], [], 0), (0, [38], [], 7), (1, [37, 4, 36], [], 0), (0, [36], [], 1), (20, [35, 2], [4], 85), (0, [35], [], 346), (80, [25, 27, 34], [4, 3], 0), (1269, [34, 2, 29, 31, 33], [2, 3], 0), (90, [34], [], -10999), (91, [34], [], 10999), (22, [33, 32, 4], [2], 0), (90, [33], [], -1000), (91, [33], [], 1000), (20, [32, 2], [2], 87), (0, [32], [], 348), (22, [31, 30, 17], [2], 0), (90, [31], [], -9999), (91, [31], [], 9999), (20, [30, 2], [2], 28), (0, [30], [], 302), (22, [29, 28, 17], [2], 0), (90, [29], [], -1), (91, [29], [], 9999), (20, [28, 2], [2], 27), (0, [28], [], 301), (1, [27, 4, 26], [], 0), (0, [26], [], 1), (20, [25, 2], [2], 87), (0, [25], [], 348), (40, [23, 24], [], 0), (0, [24], [], 5), (22, [23, 22, 17], [2], 0), (90, [23], [], 0), (91, [23], [], 5), (20, [22, 2], [2], 24), (0, [22], [], 298), (80, [18, 4, 21], [2, 1], 0), (1, [21, 19, 20], [], 0), (0, [20], [], 1), (22, [19, 18, 4], [1], 0), (90, [19], [], 0), (91, [19], [], 16), (20, [18, 2], [1], 86), (0, [18], [], 347), (1, [17, 14, 16], [], 0), (22, [16, 15, 4], [1], 0), (90, [16], [], 0), (91, [16], [], 16), (20, [15, 2], [1], 86), (0, [15], [], 347), (3, [14, 11, 13], [], 0), (22, [13, 12, 4], [1], 0), (90, [13], [], 0), (91, [13], [], 62), (20, [12, 2], [1], 85), (0, [12], [], 346), (0, [11], [], 16), (41, [6, 10], [], 0), (22, [10, 7, 9], [1], 0), (90, [10], [], 0), (91, [10], [], 16), (22, [9, 8, 4], [1], 0), (90, [9], [], 0), (91, [9], [], 62), (20, [8, 2], [1], 85), (0, [8], [], 346), (20, [7, 2], [1], 22), (0, [7], [], 296), (22, [6, 5, 4], [1], 0), (90, [6], [], 0), (91, [6], [], 16), (20, [5, 2], [1], 86), (0, [5], [], 347), (33, [4], [], 0), (5000, [0, 1, 2, 3, 4], [0, 1], 34), (0, [0], [], 285), (90, [1], [], 0), (91, [1], [], 7), (0, [2], [], 285), (90, [3], [], 0), (91, [3], [], 7), (90, [4], [], -1), (91, [4], [], 6)], (91, [47], [], 6)),
  ([(10, [47, 4], [], 1), (80, [43, 45, 46], [6, 5], 0), (0, [46], [], 0), (1, [45, 4, 44], [], 0), (0, [44], [], 1), (20, [43, 2], [5], 86), (0, [43], [], 347), (80, [35, 37, 42], [5, 4], 0), (1, [42, 39, 41], [], 0), (22, [41, 40, 17], [4], 0), (90, [41], [], -1), (91, [41], [], 9999), (20, [40, 2], [4], 26), (0, [40], [], 300), (3, [39, 38, 3], [], 0), (0, [38], [], 7), (1, [37, 4, 36], [], 0), (0, [36], [], 1), (20, [35, 2], [4], 85), (0, [35], [], 346), (80, [25, 27, 34], [4, 3], 0), (1269, [34, 2, 29, 31, 33], [2, 3], 0), (90, [34], [], -10999), (91, [34], [], 10999), (22, [33, 32, 4], [2], 0), (90, [33], [], -1000), (91, [33], [], 1000), (20, [32, 2], [2], 87), (0, [32], [], 348), (22, [31, 30, 17], [2], 0), (90, [31], [], -9999), (91, [31], [], 9999), (20, [30, 2], [2], 28), (0, [30], [], 302), (22, [29, 28, 17], [2], 0), (90, [29], [], -1), (91, [29], [], 9999), (20, [28, 2], [2], 27), (0, [28], [], 301), (1, [27, 4, 26], [], 0), (0, [26], [], 1), (20, [25, 2], [2], 87), (0, [25], [], 348), (40, [23, 24], [], 0), (0, [24], [], 5), (22, [23, 22, 17], [2], 0), (90, [23], [], 0), (91, [23], [], 5), (20, [22, 2], [2], 24), (0, [22], [], 298), (80, [18, 4, 21], [2, 1], 0), (1, [21, 19, 20], [], 0), (0, [20], [], 1), (22, [19, 18, 4], [1], 0), (90, [19], [], 0), (91, [19], [], 16), (20, [18, 2], [1], 86), (0, [18], [], 347), (1, [17, 14, 16], [], 0), (22, [16, 15, 4], [1], 0), (90, [16], [], 0), (91, [16], [], 16), (20, [15, 2], [1], 86), (0, [15], [], 347), (3, [14, 11, 13], [], 0), (22, [13, 12, 4], [1], 0), (90, [13], [], 0), (91, [13], [], 62), (20, [12, 2], [1], 85), (0, [12], [], 346), (0, [11], [], 16), (41, [6, 10], [], 0), (22, [10, 7, 9], [1], 0), (90, [10], [], 0), (91, [10], [], 16), (22, [9, 8, 4], [1], 0), (90, [9], [], 0), (91, [9], [], 62), (20, [8, 2], [1], 85), (0, [8], [], 346), (20, [7, 2], [1], 22), (0, [7], [], 296), (22, [6, 5, 4], [1], 0), (90, [6], [], 0), (91, [6], [], 16), (20, [5, 2], [1], 86), (0, [5], [], 347), (33, [4], [], 0), (5000, [0, 1, 2, 3, 4], [0, 1], 34), (0, [0], [], 285), (90, [1], [], 0), (91, [1], [], 7), (0, [2], [], 285), (90, [3], [], 0), (91, [3], [], 7), (90, [4], [], -1), (91, [4], [], 6)], (4000, [2, 3, 47], [6], 34)),
  ([(20, [26, 2], [2], 82), (90, [26], [], 0), (91, [26], [], 40), (41, [23, 24], [], 0), (0, [24], [], 5), (22, [23, 22, 17], [2], 0), (90, [23], [], 0), (91, [23], [], 5), (20, [22, 2], [2], 24), (0, [22], [], 298), (80, [18, 4, 21], [2, 1], 0), (1, [21, 19, 20], [], 0), (0, [20], [], 1), (22, [19, 18, 4], [1], 0), (90, [19], [], 0), (91, [19], [], 16), (20, [18, 2], [1], 86), (0, [18], [], 347), (1, [17, 14, 16], [], 0), (22, [16, 15, 4], [1], 0), (90, [16], [], 0), (91, [16], [], 16), (20, [15, 2], [1], 86), (0, [15], [], 347), (3, [14, 11, 13], [], 0), (22, [13, 12, 4], [1], 0), (90, [13], [], 0), (91, [13], [], 62), (20, [12, 2], [1], 85), (0, [12], [], 346), (0, [11], [], 16), (41, [6, 10], [], 0), (22, [10, 7, 9], [1], 0), (90, [10], [], 0), (91, [10], [], 16), (22, [9, 8, 4], [1], 0), (90, [9], [], 0), (91, [9], [], 62), (20, [8, 2], [1], 85), (0, [8], [], 346), (20, [7, 2], [1], 22), (0, [7], [], 296), (22, [6, 5, 4], [1], 0), (90, [6], [], 0), (91, [6], [], 16), (20, [5, 2], [1], 86), (0, [5], [], 347), (33, [4], [], 0), (5000, [0, 1, 2, 3, 4], [0, 1], 34), (0, [0], [], 285), (90, [1], [], 0), (91, [1], [], 7), (0, [2], [], 285), (90, [3], [], 0), (91, [3], [], 7), (90, [4], [], -1), (91, [4], [], 6)], (70, [26], [], 40)),
  ([(20, [26, 2], [2], 82), (90, [26], [], 0), (91, [26], [], 40), (41, [23, 24], [], 0), (0, [24], [], 5), (22, [23, 22, 17], [2], 0), (90, [23], [], 0), (91, [23], [], 5), (20, [22, 2], [2], 24), (0, [22], [], 298), (80, [18, 4, 21], [2, 1], 0), (1, [21, 19, 20], [], 0), (0, [20], [], 1), (22, [19, 18, 4], [1], 0), (90, [19], [], 0), (91, [19], [], 16), (20, [18, 2], [1], 86), (0, [18], [], 347), (1, [17, 14, 16], [], 0), (22, [16, 15, 4], [1], 0), (90, [16], [], 0), (91, [16], [], 16), (20, [15, 2], [1], 86), (0, [15], [], 347), (3, [14, 11, 13], [], 0), (22, [13, 12, 4], [1], 0), (90, [13], [], 0), (91, [13], [], 62), (20, [12, 2], [1], 85), (0, [12], [], 346), (0, [11], [], 16), (41, [6, 10], [], 0), (22, [10, 7, 9], [1], 0), (90, [10], [], 0), (91, [10], [], 16), (22, [9, 8, 4], [1], 0), (90, [9], [], 0), (91, [9], [], 62), (20, [8, 2], [1], 85), (0, [8], [], 346), (20, [7, 2], [1], 22), (0, [7], [], 296), (22, [6, 5, 4], [1], 0), (90, [6], [], 0), (91, [6], [], 16), (20, [5, 2], [1], 86), (0, [5], [], 347), (33, [4], [], 0), (5000, [0, 1, 2, 3, 4], [0, 1], 34), (0, [0], [], 285), (90, [1], [], 0), (91, [1], [], 7), (0, [2], [], 285), (90, [3], [], 0), (91, [3], [], 7), (90, [4], [], -1), (91, [4], [], 6)], (90, [17], [], 0)),
  ([(20, [26, 2], [2], 82), (90, [26], [], 0), (91, [26], [], 40), (41, [23, 24], [], 0), (0, [24], [], 5), (22, [23, 22, 17], [2], 0), (90, [23], [], 0), (91, [23], [], 5), (20, [22, 2], [2], 24), (0, [22], [], 298), (80, [18, 4, 21], [2, 1], 0), (1, [21, 19, 20], [], 0), (0, [20], [], 1), (22, [19, 18, 4], [1], 0), (90, [19], [], 0), (91, [19], [], 16), (20, [18, 2], [1], 86), (0, [18], [], 347), (1, [17, 14, 16], [], 0), (22, [16, 15, 4], [1], 0), (90, [16], [], 0), (91, [16], [], 16), (20, [15, 2], [1], 86), (0, [15], [], 347), (3, [14, 11, 13], [], 0), (22, [13, 12, 4], [1], 0), (90, [13], [], 0), (91, [13], [], 62), (20, [12, 2], [1], 85), (0, [12], [], 346), (0, [11], [], 16), (41, [6, 10], [], 0), (22, [10, 7, 9], [1], 0), (90, [10], [], 0), (91, [10], [], 16), (22, [9, 8, 4], [1], 0), (90, [9], [], 0), (91, [9], [], 62), (20, [8, 2], [1], 85), (0, [8], [], 346), (20, [7, 2], [1], 22), (0, [7], [], 296), (22, [6, 5, 4], [1], 0), (90, [6], [], 0), (91, [6], [], 16), (20, [5, 2], [1], 86), (0, [5], [], 347), (33, [4], [], 0), (5000, [0, 1, 2, 3, 4], [0, 1], 34), (0, [0], [], 285), (90, [1], [], 0), (91, [1], [], 7), (0, [2], [], 285), (90, [3], [], 0), (91, [3], [], 7), (90, [4], [], -1), (91, [4], [], 6)], (91, [17], [], 1007)),
  ([(22, [30, 29, 4], [3], 0), (90, [30], [], -1000), (91, [30], [], 1000), (20, [29, 2], [3], 87), (0, [29], [], 348), (20, [28, 2], [3], 82), (90, [28], [], 0), (91, [28], [], 40), (80, [25, 26, 17], [3, 2], 0), (20, [26, 2], [2], 82), (90, [26], [], 0), (91, [26], [], 40), (20, [25, 2], [2], 83), (0, [25], [], 344), (41, [23, 24], [], 0), (0, [24], [], 5), (22, [23, 22, 17], [2], 0), (90, [23], [], 0), (91, [23], [], 5), (20, [22, 2], [2], 24), (0, [22], [], 298), (80, [18, 4, 21], [2, 1], 0), (1, [21, 19, 20], [], 0), (0, [20], [], 1), (22, [19, 18, 4], [1], 0), (90, [19], [], 0), (91, [19], [], 16), (20, [18, 2], [1], 86), (0, [18], [], 347), (1, [17, 14, 16], [], 0), (22, [16, 15, 4], [1], 0), (90, [16], [], 0), (91, [16], [], 16), (20, [15, 2], [1], 86), (0, [15], [], 347), (3, [14, 11, 13], [], 0), (22, [13, 12, 4], [1], 0), (90, [13], [], 0), (91, [13], [], 62), (20, [12, 2], [1], 85), (0, [12], [], 346), (0, [11], [], 16), (41, [6, 10], [], 0), (22, [10, 7, 9], [1], 0), (90, [10], [], 0), (91, [10], [], 16), (22, [9, 8, 4], [1], 0), (90, [9], [], 0), (91, [9], [], 62), (20, [8, 2], [1], 85), (0, [8], [], 346), (20, [7, 2], [1], 22), (0, [7], [], 296), (22, [6, 5, 4], [1], 0), (90, [6], [], 0), (91, [6], [], 16), (20, [5, 2], [1], 86), (0, [5], [], 347), (33, [4], [], 0), (5000, [0, 1, 2, 3, 4], [0, 1], 34), (0, [0], [], 285), (90, [1], [], 0), (91, [1], [], 7), (0, [2], [], 285), (90, [3], [], 0), (91, [3], [], 7), (90, [4], [], -1), (91, [4], [], 6)], (70, [28], [], 40)),
  ([(1, [33, 31, 32], [], 0), (0, [32], [], 1), (20, [31, 2], [4], 82), (90, [31], [], 0), (91, [31], [], 40), (80, [27, 28, 30], [4, 3], 0), (22, [30, 29, 4], [3], 0), (90, [30], [], -1000), (91, [30], [], 1000), (20, [29, 2], [3], 87), (0, [29], [], 348), (20, [28, 2], [3], 82), (90, [28], [], 0), (91, [28], [], 40), (20, [27, 2], [3], 84), (0, [27], [], 345), (80, [25, 26, 17], [3, 2], 0), (20, [26, 2], [2], 82), (90, [26], [], 0), (91, [26], [], 40), (20, [25, 2], [2], 83), (0, [25], [], 344), (41, [23, 24], [], 0), (0, [24], [], 5), (22, [23, 22, 17], [2], 0), (90, [23], [], 0), (91, [23], [], 5), (20, [22, 2], [2], 24), (0, [22], [], 298), (80, [18, 4, 21], [2, 1], 0), (1, [21, 19, 20], [], 0), (0, [20], [], 1), (22, [19, 18, 4], [1], 0), (90, [19], [], 0), (91, [19], [], 16), (20, [18, 2], [1], 86), (0, [18], [], 347), (1, [17, 14, 16], [], 0), (22, [16, 15, 4], [1], 0), (90, [16], [], 0), (91, [16], [], 16), (20, [15, 2], [1], 86), (0, [15], [], 347), (3, [14, 11, 13], [], 0), (22, [13, 12, 4], [1], 0), (90, [13], [], 0), (91, [13], [], 62), (20, [12, 2], [1], 85), (0, [12], [], 346), (0, [11], [], 16), (41, [6, 10], [], 0), (22, [10, 7, 9], [1], 0), (90, [10], [], 0), (91, [10], [], 16), (22, [9, 8, 4], [1], 0), (90, [9], [], 0), (91, [9], [], 62), (20, [8, 2], [1], 85), (0, [8], [], 346), (20, [7, 2], [1], 22), (0, [7], [], 296), (22, [6, 5, 4], [1], 0), (90, [6], [], 0), (91, [6], [], 16), (20, [5, 2], [1], 86), (0, [5], [], 347), (33, [4], [], 0), (5000, [0, 1, 2, 3, 4], [0, 1], 34), (0, [0], [], 285), (90, [1], [], 0), (91, [1], [], 7), (0, [2], [], 285), (90, [3], [], 0), (91, [3], [], 7), (90, [4], [], -1), (91, [4], [], 6)], (90, [33], [], 0)),
  ([(1, [33, 31, 32], [], 0), (0, [32], [], 1), (20, [31, 2], [4], 82), (90, [31], [], 0), (91, [31], [], 40), (80, [27, 28, 30], [4, 3], 0), (22, [30, 29, 4], [3], 0), (90, [30], [], -1000), (91, [30], [], 1000), (20, [29, 2], [3], 87), (0, [29], [], 348), (20, [28, 2], [3], 82), (90, [28], [], 0), (91, [28], [], 40), (20, [27, 2], [3], 84), (0, [27], [], 345), (80, [25, 26, 17], [3, 2], 0), (20, [26, 2], [2], 82), (90, [26], [], 0), (91, [26], [], 40), (20, [25, 2], [2], 83), (0, [25], [], 344), (41, [23, 24], [], 0), (0, [24], [], 5), (22, [23, 22, 17], [2], 0), (90, [23], [], 0), (91, [23], [], 5), (20, [22, 2], [2], 24), (0, [22], [], 298), (80, [18, 4, 21], [2, 1], 0), (1, [21, 19, 20], [], 0), (0, [20], [], 1), (22, [19, 18, 4], [1], 0), (90, [19], [], 0), (91, [19], [], 16), (20, [18, 2], [1], 86), (0, [18], [], 347), (1, [17, 14, 16], [], 0), (22, [16, 15, 4], [1], 0), (90, [16], [], 0), (91, [16], [], 16), (20, [15, 2], [1], 86), (0, [15], [], 347), (3, [14, 11, 13], [], 0), (22, [13, 12, 4], [1], 0), (90, [13], [], 0), (91, [13], [], 62), (20, [12, 2], [1], 85), (0, [12], [], 346), (0, [11], [], 16), (41, [6, 10], [], 0), (22, [10, 7, 9], [1], 0), (90, [10], [], 0), (91, [10], [], 16), (22, [9, 8, 4], [1], 0), (90, [9], [], 0), (91, [9], [], 62), (20, [8, 2], [1], 85), (0, [8], [], 346), (20, [7, 2], [1], 22), (0, [7], [], 296), (22, [6, 5, 4], [1], 0), (90, [6], [], 0), (91, [6], [], 16), (20, [5, 2], [1], 86), (0, [5], [], 347), (33, [4], [], 0), (5000, [0, 1, 2, 3, 4], [0, 1], 34), (0, [0], [], 285), (90, [1], [], 0), (91, [1], [], 7), (0, [2], [], 285), (90, [3], [], 0), (91, [3], [], 7), (90, [4], [], -1), (91, [4], [], 6)], (91, [33], [], 40)),
  ([(80, [2, 34, 33], [5, 4], 0), (0, [34], [], 82), (1, [33, 31, 32], [], 0), (0, [32], [], 1), (20, [31, 2], [4], 82), (90, [31], [], 0), (91, [31], [], 40), (80, [27, 28, 30], [4, 3], 0), (22, [30, 29, 4], [3], 0), (90, [30], [], -1000), (91, [30], [], 1000), (20, [29, 2], [3], 87), (0, [29], [], 348), (20, [28, 2], [3], 82), (90, [28], [], 0), (91, [28], [], 40), (20, [27, 2], [3], 84), (0, [27], [], 345), (80, [25, 26, 17], [3, 2], 0), (20, [26, 2], [2], 82), (90, [26], [], 0), (91, [26], [], 40), (20, [25, 2], [2], 83), (0, [25], [], 344), (41, [23, 24], [], 0), (0, [24], [], 5), (22, [23, 22, 17], [2], 0), (90, [23], [], 0), (91, [23], [], 5), (20, [22, 2], [2], 24), (0, [22], [], 298), (80, [18, 4, 21], [2, 1], 0), (1, [21, 19, 20], [], 0), (0, [20], [], 1), (22, [19, 18, 4], [1], 0), (90, [19], [], 0), (91, [19], [], 16), (20, [18, 2], [1], 86), (0, [18], [], 347), (1, [17, 14, 16], [], 0), (22, [16, 15, 4], [1], 0), (90, [16], [], 0), (91, [16], [], 16), (20, [15, 2], [1], 86), (0, [15], [], 347), (3, [14, 11, 13], [], 0), (22, [13, 12, 4], [1], 0), (90, [13], [], 0), (91, [13], [], 62), (20, [12, 2], [1], 85), (0, [12], [], 346), (0, [11], [], 16), (41, [6, 10], [], 0), (22, [10, 7, 9], [1], 0), (90, [10], [], 0), (91, [10], [], 16), (22, [9, 8, 4], [1], 0), (90, [9], [], 0), (91, [9], [], 62), (20, [8, 2], [1], 85), (0, [8], [], 346), (20, [7, 2], [1], 22), (0, [7], [], 296), (22, [6, 5, 4], [1], 0), (90, [6], [], 0), (91, [6], [], 16), (20, [5, 2], [1], 86), (0, [5], [], 347), (33, [4], [], 0), (5000, [0, 1, 2, 3, 4], [0, 1], 34), (0, [0], [], 285), (90, [1], [], 0), (91, [1], [], 7), (0, [2], [], 285), (90, [3], [], 0), (91, [3], [], 7), (90, [4], [], -1), (91, [4], [], 6)], (4000, [2, 3, 4], [5], 34)),
  ([(10, [11, 4], [], -1), (40, [6, 10], [], 0), (22, [10, 7, 9], [1], 0), (90, [10], [], 0), (91, [10], [], 16), (22, [9, 8, 4], [1], 0), (90, [9], [], 0), (91, [9], [], 62), (20, [8, 2], [1], 85), (0, [8], [], 346), (20, [7, 2], [1], 22), (0, [7], [], 296), (22, [6, 5, 4], [1], 0), (90, [6], [], 0), (91, [6], [], 16), (20, [5, 2], [1], 86), (0, [5], [], 347), (33, [4], [], 0), (5000, [0, 1, 2, 3, 4], [0, 1], 34), (0, [0], [], 285), (90, [1], [], 0), (91, [1], [], 7), (0, [2], [], 285), (90, [3], [], 0), (91, [3], [], 7), (90, [4], [], -1), (91, [4], [], 6)], (90, [11], [], -1)),
  ([(10, [11, 4], [], -1), (40, [6, 10], [], 0), (22, [10, 7, 9], [1], 0), (90, [10], [], 0), (91, [10], [], 16), (22, [9, 8, 4], [1], 0), (90, [9], [], 0), (91, [9], [], 62), (20, [8, 2], [1], 85), (0, [8], [], 346), (20, [7, 2], [1], 22), (0, [7], [], 296), (22, [6, 5, 4], [1], 0), (90, [6], [], 0), (91, [6], [], 16), (20, [5, 2], [1], 86), (0, [5], [], 347), (33, [4], [], 0), (5000, [0, 1, 2, 3, 4], [0, 1], 34), (0, [0], [], 285), (90, [1], [], 0), (91, [1], [], 7), (0, [2], [], 285), (90, [3], [], 0), (91, [3], [], 7), (90, [4], [], -1), (91, [4], [], 6)], (91, [11], [], 6)),
  ([(10, [11, 4], [], -1), (40, [6, 10], [], 0), (22, [10, 7, 9], [1], 0), (90, [10], [], 0), (91, [10], [], 16), (22, [9, 8, 4], [1], 0), (90, [9], [], 0), (91, [9], [], 62), (20, [8, 2], [1], 85), (0, [8], [], 346), (20, [7, 2], [1], 22), (0, [7], [], 296), (22, [6, 5, 4], [1], 0), (90, [6], [], 0), (91, [6], [], 16), (20, [5, 2], [1], 86), (0, [5], [], 347), (33, [4], [], 0), (5000, [0, 1, 2, 3, 4], [0, 1], 34), (0, [0], [], 285), (90, [1], [], 0), (91, [1], [], 7), (0, [2], [], 285), (90, [3], [], 0), (91, [3], [], 7), (90, [4], [], -1), (91, [4], [], 6)], (4000, [2, 3, 11], [1], 34))]
theorem r_270_34 : vCovO false (eRc e_270 L_270 cs_270 2000 (34, [(0, (3, 12, 285, 0)), (1, (0, 0, 7, 0)), (2, (0, -1, 6, 0))])) p_270_34 = true := by decide +kernel
theorem m_270 (d : Nat) : eC e_270 (d + 2) := eC_ok (e := e_270) (L := L_270) (cs := cs_270) (n := 2000) (d := d + 1) (A := A_270) (μ := mu_270) (tp := false) (p0 := p_270_s) rfl ⟨m_269 d, trivial⟩ rfl (.inl rfl) (by decide +kernel) (fun z => nomatch z) r_270_s (allC c_270_s_0 (allC c_270_s_1 (allC c_270_s_2 allN))) (allC (.inl ⟨p_270_34, r_270_34, fun q0 => (allC c_270_34_0 (allC c_270_34_1 (allC c_270_34_2 (allC c_270_34_3 (allC c_270_34_4 (allC c_270_34_5 (allC c_270_34_6 (allC c_270_34_7 (allC c_270_34_8 (allC c_270_34_9 (allC c_270_34_10 (allC c_270_34_11 (allC c_270_34_12 (allC c_270_34_13 (allC c_270_34_14 (allC c_270_34_15 (allC c_270_34_16 (allC c_270_34_17 (allC c_270_34_18 (allC c_270_34_19 (allC c_270_34_20 (allC c_270_34_21 (allC c_270_34_22 (allC c_270_34_23 (allC c_270_34_24 (allC c_270_34_25 (allC c_270_34_26 (allC c_270_34_27 allN))))))))))))))))))))))))))))⟩) allN)
