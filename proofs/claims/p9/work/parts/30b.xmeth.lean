/-! CONTRACTS of methods (printed by wip/gen/emit.py). -/
/- Bank.ownHiss (LMixStage$Sound;)I -/
noncomputable def s_21 : vM := ([(3, 0, 23, 0), (2, 7, -1, 0)], (0, -2147483648, 2147483647, 0), 0, 0, [])
noncomputable def e_21 : vE := (21, s_21, pre0, post0)
noncomputable def L_21 : List vE := [e_199k772, e_317, e_319]
def cs_21 : List vC := [(30, [(0, (3, 0, 23, 0)), (1, (3, 7, -1, 0)), (2, (0, -2147483648, 2147483647, 0)), (3, (0, -2147483648, 2147483647, 0)), (4, (0, -2147483648, 2147483647, 0))])]
def mub_21_30 (a0 a1 x0 x1 x2 x3 x4 : Int) (h0 h : gH) : Nat := (2147483648 - x4).toNat
def A_21 : Int → List Int → gH → gH → Prop := fun c xs h0 h => True
def mu_21 : Int → List Int → gH → gH → Nat := fun c xs h0 h => match c.toNat with
  | 30 => (match xs with
    | [a0, a1, x0, x1, x2, x3, x4] => mub_21_30 a0 a1 x0 x1 x2 x3 x4 h0 h
    | _ => 0)
  | _ => 0
theorem q_21_0 {n0 n1 n2 n3 n4 : Int} {H0 : gH}  : True ∧ ∀ q, none = some q → mub_21_30 n0 n1 n0 n1 n2 n3 n4 H0 H0 < q := by
  exact ⟨trivial, fun q hq => nomatch hq⟩
theorem c_21_s_0 : vOkm T0 (eP e_21 L_21 A_21 mu_21 none) 2 ([], (4000, [0, 1, 2, 4, 5], [0], 30)) := vOk_inI fun ρ η => q_21_0 (n0 := ρ 0) (n1 := ρ 1) (n2 := ρ 2) (n3 := ρ 4) (n4 := ρ 5) (H0 := η 0)
theorem q_21_1 {n0 n1 n2 n3 : Int} {H0 : gH} (f0 : n0 = 23) (f1 : hWt T0 H0 ∧ True) (f2 : 0 ≤ n1) (f3 : hK H0 (n1).toNat = 7) (f4 : n2 = hV H0 (n1).toNat 10) (f5 : 0 ≤ n2) (f6 : hK H0 (n1).toNat = 7) (f7 : n3 = hV H0 (n1).toNat 10) : 0 ≤ n3 := by
  have e0 : n2 = hV H0 (n1).toNat 10 := f4
  have e1 : n3 = hV H0 (n1).toNat 10 := f7
  omega
theorem c_21_s_1 : vOkm T0 (eP e_21 L_21 A_21 mu_21 none) 2 ([(20, [4, 1], [0], 10), (23, [1], [0], 7), (51, [3], [], 0), (20, [3, 1], [0], 10), (23, [1], [0], 7), (51, [1], [], 0), (6000, [0, 1], [0], 0), (0, [0], [], 23)], (51, [4], [], 0)) := vOk_inI fun ρ η f0 f1 f2 f3 f4 f5 f6 f7 => q_21_1 (n0 := ρ 0) (n1 := ρ 1) (n2 := ρ 3) (n3 := ρ 4) (H0 := η 0) f7 f6 f5 f4 f3 f2 f1 f0
theorem c_21_s_2 : vOkm T0 (eP e_21 L_21 A_21 mu_21 none) 2 ([], (4000, [0, 1, 2, 5, 6], [0], 30)) := vOk_inI fun ρ η => q_21_0 (n0 := ρ 0) (n1 := ρ 1) (n2 := ρ 2) (n3 := ρ 5) (n4 := ρ 6) (H0 := η 0)
def p_21_s : List vG := [([], (4000, [0, 1, 2, 4, 5], [0], 30)),
  ([(20, [4, 1], [0], 10), (23, [1], [0], 7), (51, [3], [], 0), (20, [3, 1], [0], 10), (23, [1], [0], 7), (51, [1], [], 0), (6000, [0, 1], [0], 0), (0, [0], [], 23)], (51, [4], [], 0)),
  ([], (4000, [0, 1, 2, 5, 6], [0], 30))]
theorem r_21_s : vCovO true (eR0 e_21 L_21 cs_21 2000) p_21_s = true := by decide +kernel
theorem q_21_2 {q0 : Nat} {n0 n1 n2 n3 n4 n5 n6 n7 n8 : Int} {H0 H1 : gH} (f0 : n0 ≤ 2147483647) (f1 : (-2147483648) ≤ n0) (f2 : (hLe T0 H0 H1 ∧ hFr s_21.2.2.2.2 H0 H1 ∧ hWt T0 H1) ∧ (True ∧ True) ∧ some q0 = some (mub_21_30 n1 n2 n3 n4 n5 n6 n0 H0 H1)) (f3 : n7 ≤ 20) (f4 : 0 ≤ n7) (f5 : n0 < n7) (f6 : n8 = w32 (n0 + 1)) : True ∧ ∀ q, some q0 = some q → mub_21_30 n1 n2 n3 n4 n5 n6 n8 H0 H1 < q := by
  have g5 := Option.some.inj f2.2.2
  unfold mub_21_30 at g5
  unfold mub_21_30
  unfold w32 at f6
  refine ⟨?_, fun q hq => ?_⟩
  · trivial
  · have g6 := Option.some.inj hq
    subst g6
    omega
theorem c_21_30_0 {q0 : Nat} : vOkm T0 (eP e_21 L_21 A_21 mu_21 (some q0)) 2 ([(10, [11, 6], [], 1), (42, [6, 7], [], 0), (90, [7], [], 0), (91, [7], [], 20), (5000, [0, 1, 2, 3, 4, 5, 6], [0, 1], 30), (90, [6], [], -2147483648), (91, [6], [], 2147483647)], (4000, [2, 3, 4, 5, 11], [1], 30)) := vOk_inI fun ρ η f0 f1 f2 f3 f4 f5 f6 => q_21_2 (q0 := q0) (n0 := ρ 6) (n1 := ρ 0) (n2 := ρ 1) (n3 := ρ 2) (n4 := ρ 3) (n5 := ρ 4) (n6 := ρ 5) (n7 := ρ 7) (n8 := ρ 11) (H0 := η 0) (H1 := η 1) f6 f5 f4 f3 f2 f1 f0
theorem q_21_3 {q0 : Nat} {n0 n1 n2 n3 n4 n5 n6 n7 n8 n9 : Int} {H0 H1 H2 : gH} (f0 : n0 ≤ 2147483647) (f1 : (-2147483648) ≤ n0) (f2 : (hLe T0 H0 H1 ∧ hFr s_21.2.2.2.2 H0 H1 ∧ hWt T0 H1) ∧ (True ∧ True) ∧ some q0 = some (mub_21_30 n1 n2 n3 n4 n5 n6 n0 H0 H1)) (f3 : n7 ≤ 20) (f4 : 0 ≤ n7) (f5 : n0 < n7) (f6 : n8 = w32 (n0 + 1)) : True ∧ ∀ q, some q0 = some q → mub_21_30 n1 n2 n3 n4 n9 n6 n8 H0 H2 < q := by
  have g5 := Option.some.inj f2.2.2
  unfold mub_21_30 at g5
  unfold mub_21_30
  unfold w32 at f6
  refine ⟨?_, fun q hq => ?_⟩
  · trivial
  · have g6 := Option.some.inj hq
    subst g6
    omega
theorem c_21_30_1 {q0 : Nat} : vOkm T0 (eP e_21 L_21 A_21 mu_21 (some q0)) 2 ([(10, [14, 6], [], 1), (42, [6, 7], [], 0), (90, [7], [], 0), (91, [7], [], 20), (5000, [0, 1, 2, 3, 4, 5, 6], [0, 1], 30), (90, [6], [], -2147483648), (91, [6], [], 2147483647)], (4000, [2, 3, 13, 5, 14], [3], 30)) := vOk_inI fun ρ η f0 f1 f2 f3 f4 f5 f6 => q_21_3 (q0 := q0) (n0 := ρ 6) (n1 := ρ 0) (n2 := ρ 1) (n3 := ρ 2) (n4 := ρ 3) (n5 := ρ 4) (n6 := ρ 5) (n7 := ρ 7) (n8 := ρ 14) (n9 := ρ 13) (H0 := η 0) (H1 := η 1) (H2 := η 3) f6 f5 f4 f3 f2 f1 f0
def p_21_30 : List vG := [([(10, [11, 6], [], 1), (42, [6, 7], [], 0), (90, [7], [], 0), (91, [7], [], 20), (5000, [0, 1, 2, 3, 4, 5, 6], [0, 1], 30), (90, [6], [], -2147483648), (91, [6], [], 2147483647)], (4000, [2, 3, 4, 5, 11], [1], 30)),
  ([(10, [14, 6], [], 1), (42, [6, 7], [], 0), (90, [7], [], 0), (91, [7], [], 20), (5000, [0, 1, 2, 3, 4, 5, 6], [0, 1], 30), (90, [6], [], -2147483648), (91, [6], [], 2147483647)], (4000, [2, 3, 13, 5, 14], [3], 30))]
theorem r_21_30 : vCovO true (eRc e_21 L_21 cs_21 2000 (30, [(0, (3, 0, 23, 0)), (1, (3, 7, -1, 0)), (2, (0, -2147483648, 2147483647, 0)), (3, (0, -2147483648, 2147483647, 0)), (4, (0, -2147483648, 2147483647, 0))])) p_21_30 = true := by decide +kernel
theorem m_21 (d : Nat) : eC e_21 (d + 2) := eC_ok (e := e_21) (L := L_21) (cs := cs_21) (n := 2000) (d := d + 1) (A := A_21) (μ := mu_21) (tp := true) (p0 := p_21_s) rfl ⟨m_199k772 d, ⟨m_317 d, ⟨m_319 d, trivial⟩⟩⟩ rfl (.inr pre0_ok) (by decide +kernel) (fun _ => post0_ok) r_21_s (allC c_21_s_0 (allC c_21_s_1 (allC c_21_s_2 allN))) (allC (.inl ⟨p_21_30, r_21_30, fun q0 => (allC c_21_30_0 (allC c_21_30_1 allN))⟩) allN)
/- Bank.hissOf (I)I -/
noncomputable def s_20 : vM := ([(3, 0, 23, 0), (0, -2147483648, 2147483647, 0)], (0, -2147483648, 2147483647, 0), 0, 0, [(772, 0)])
noncomputable def e_20 : vE := (20, s_20, pre0, post0)
noncomputable def L_20 : List vE := [e_2, e_21, e_199k772, e_201k772, e_203k772]
def cs_20 : List vC := [(12, [(0, (3, 0, 23, 0)), (1, (0, -2147483648, 2147483647, 0)), (2, (0, -2147483648, 2147483647, 0)), (3, (0, -2147483648, 2147483647, 0))]), (27, [(0, (3, 0, 23, 0)), (1, (0, -2147483648, 2147483647, 0)), (2, (0, -2147483648, 2147483647, 0)), (3, (0, -2147483648, 2147483646, 0)), (4, (0, -2147483648, 2147483647, 0))])]
def mub_20_12 (a0 a1 x0 x1 x2 x3 : Int) (h0 h : gH) : Nat := (8589934592 + (2147483648 - x3).toNat) * 1099511627776 + 1099511627775
def mub_20_27 (a0 a1 x0 x1 x2 x3 x4 : Int) (h0 h : gH) : Nat := (8589934592 + (2147483648 - x3).toNat) * 1099511627776 + (8589934592 + (2147483648 - x4).toNat) * 1
def A_20 : Int → List Int → gH → gH → Prop := fun c xs h0 h => True
def mu_20 : Int → List Int → gH → gH → Nat := fun c xs h0 h => match c.toNat with
  | 12 => (match xs with
    | [a0, a1, x0, x1, x2, x3] => mub_20_12 a0 a1 x0 x1 x2 x3 h0 h
    | _ => 0)
  | 27 => (match xs with
    | [a0, a1, x0, x1, x2, x3, x4] => mub_20_27 a0 a1 x0 x1 x2 x3 x4 h0 h
    | _ => 0)
  | _ => 0
theorem q_20_0 {n0 n1 n2 n3 : Int} {H0 H1 : gH}  : True ∧ ∀ q, none = some q → mub_20_12 n0 n1 n0 n1 n2 n3 H0 H1 < q := by
  exact ⟨trivial, fun q hq => nomatch hq⟩
theorem c_20_s_0 : vOkm T0 (eP e_20 L_20 A_20 mu_20 none) 2 ([], (4000, [0, 1, 4, 5], [1], 12)) := vOk_inI fun ρ η => q_20_0 (n0 := ρ 0) (n1 := ρ 1) (n2 := ρ 4) (n3 := ρ 5) (H0 := η 0) (H1 := η 1)
def p_20_s : List vG := [([], (4000, [0, 1, 4, 5], [1], 12))]
theorem r_20_s : vCovO true (eR0 e_20 L_20 cs_20 2000) p_20_s = true := by decide +kernel
theorem q_20_1 {q0 : Nat} {n0 n1 : Int} {H0 : gH} (f0 : n0 ≤ 2147483647) (f1 : (-2147483648) ≤ n0) (f2 : n1 = 20) (f3 : n0 ≤ n1) : n0 ≤ 2147483646 := by
  omega
theorem c_20_12_0 {q0 : Nat} : vOkm T0 (eP e_20 L_20 A_20 mu_20 (some q0)) 2 ([(45, [5, 6], [], 0), (0, [6], [], 20), (90, [5], [], -2147483648), (91, [5], [], 2147483647)], (91, [5], [], 2147483646)) := vOk_inI fun ρ η f0 f1 f2 f3 => q_20_1 (q0 := q0) (n0 := ρ 5) (n1 := ρ 6) (H0 := η 0) f3 f2 f1 f0
theorem q_20_2 {q0 : Nat} {n0 n1 n2 n3 n4 n5 n6 n7 n8 : Int} {H0 H1 : gH} (f0 : n0 ≤ 2147483647) (f1 : (-2147483648) ≤ n0) (f2 : (hLe T0 H0 H1 ∧ hFr s_20.2.2.2.2 H0 H1 ∧ hWt T0 H1) ∧ (True ∧ True) ∧ some q0 = some (mub_20_12 n1 n2 n3 n4 n5 n0 H0 H1)) (f3 : n6 = 20) (f4 : n0 ≤ n6) (f5 : n7 = 0) : True ∧ ∀ q, some q0 = some q → mub_20_27 n1 n2 n3 n4 n8 n0 n7 H0 H1 < q := by
  have g5 := Option.some.inj f2.2.2
  unfold mub_20_12 at g5
  unfold mub_20_27
  refine ⟨?_, fun q hq => ?_⟩
  · trivial
  · have g6 := Option.some.inj hq
    subst g6
    omega
theorem c_20_12_1 {q0 : Nat} : vOkm T0 (eP e_20 L_20 A_20 mu_20 (some q0)) 2 ([(0, [8], [], 0), (45, [5, 6], [], 0), (0, [6], [], 20), (5000, [0, 1, 2, 3, 4, 5], [0, 1], 12), (90, [5], [], -2147483648), (91, [5], [], 2147483647)], (4000, [2, 3, 7, 5, 8], [1], 27)) := vOk_inI fun ρ η f0 f1 f2 f3 f4 f5 => q_20_2 (q0 := q0) (n0 := ρ 5) (n1 := ρ 0) (n2 := ρ 1) (n3 := ρ 2) (n4 := ρ 3) (n5 := ρ 4) (n6 := ρ 6) (n7 := ρ 8) (n8 := ρ 7) (H0 := η 0) (H1 := η 1) f5 f4 f3 f2 f1 f0
def p_20_12 : List vG := [([(45, [5, 6], [], 0), (0, [6], [], 20), (90, [5], [], -2147483648), (91, [5], [], 2147483647)], (91, [5], [], 2147483646)),
  ([(0, [8], [], 0), (45, [5, 6], [], 0), (0, [6], [], 20), (5000, [0, 1, 2, 3, 4, 5], [0, 1], 12), (90, [5], [], -2147483648), (91, [5], [], 2147483647)], (4000, [2, 3, 7, 5, 8], [1], 27))]
theorem r_20_12 : vCovO true (eRc e_20 L_20 cs_20 2000 (12, [(0, (3, 0, 23, 0)), (1, (0, -2147483648, 2147483647, 0)), (2, (0, -2147483648, 2147483647, 0)), (3, (0, -2147483648, 2147483647, 0))])) p_20_12 = true := by decide +kernel
theorem q_20_3 {q0 : Nat} {n0 n1 n2 n3 n4 n5 n6 n7 n8 : Int} {H0 H1 : gH} (f0 : n0 ≤ 2147483647) (f1 : (-2147483648) ≤ n0) (f2 : n1 ≤ 2147483646) (f3 : (-2147483648) ≤ n1) (f4 : (hLe T0 H0 H1 ∧ hFr s_20.2.2.2.2 H0 H1 ∧ hWt T0 H1) ∧ (True ∧ True) ∧ some q0 = some (mub_20_27 n2 n3 n4 n5 n6 n1 n0 H0 H1)) (f5 : n7 ≤ 20) (f6 : 0 ≤ n7) (f7 : n7 ≤ n0) (f8 : n8 = w32 (n1 + 1)) : True ∧ ∀ q, some q0 = some q → mub_20_12 n2 n3 n4 n5 n6 n8 H0 H1 < q := by
  have g5 := Option.some.inj f4.2.2
  unfold mub_20_27 at g5
  unfold mub_20_12
  unfold w32 at f8
  refine ⟨?_, fun q hq => ?_⟩
  · trivial
  · have g6 := Option.some.inj hq
    subst g6
    omega
theorem c_20_27_0 {q0 : Nat} : vOkm T0 (eP e_20 L_20 A_20 mu_20 (some q0)) 2 ([(10, [8, 5], [], 1), (43, [6, 7], [], 0), (90, [7], [], 0), (91, [7], [], 20), (5000, [0, 1, 2, 3, 4, 5, 6], [0, 1], 27), (90, [5], [], -2147483648), (91, [5], [], 2147483646), (90, [6], [], -2147483648), (91, [6], [], 2147483647)], (4000, [2, 3, 4, 8], [1], 12)) := vOk_inI fun ρ η f0 f1 f2 f3 f4 f5 f6 f7 f8 => q_20_3 (q0 := q0) (n0 := ρ 6) (n1 := ρ 5) (n2 := ρ 0) (n3 := ρ 1) (n4 := ρ 2) (n5 := ρ 3) (n6 := ρ 4) (n7 := ρ 7) (n8 := ρ 8) (H0 := η 0) (H1 := η 1) f8 f7 f6 f5 f4 f3 f2 f1 f0
theorem q_20_4 {q0 : Nat} {n0 n1 n2 n3 n4 n5 n6 n7 n8 n9 : Int} {H0 H1 H2 : gH} (f0 : n0 ≤ 2147483647) (f1 : (-2147483648) ≤ n0) (f2 : n1 ≤ 2147483646) (f3 : (-2147483648) ≤ n1) (f4 : (hLe T0 H0 H1 ∧ hFr s_20.2.2.2.2 H0 H1 ∧ hWt T0 H1) ∧ (True ∧ True) ∧ some q0 = some (mub_20_27 n2 n3 n4 n5 n6 n1 n0 H0 H1)) (f5 : n7 ≤ 20) (f6 : 0 ≤ n7) (f7 : n0 < n7) (f8 : n8 = w32 (n0 + 1)) : True ∧ ∀ q, some q0 = some q → mub_20_27 n2 n3 n4 n5 n9 n1 n8 H0 H2 < q := by
  have g5 := Option.some.inj f4.2.2
  unfold mub_20_27 at g5
  unfold mub_20_27
  unfold w32 at f8
  refine ⟨?_, fun q hq => ?_⟩
  · trivial
  · have g6 := Option.some.inj hq
    subst g6
    omega
theorem c_20_27_1 {q0 : Nat} : vOkm T0 (eP e_20 L_20 A_20 mu_20 (some q0)) 2 ([(10, [15, 6], [], 1), (42, [6, 7], [], 0), (90, [7], [], 0), (91, [7], [], 20), (5000, [0, 1, 2, 3, 4, 5, 6], [0, 1], 27), (90, [5], [], -2147483648), (91, [5], [], 2147483646), (90, [6], [], -2147483648), (91, [6], [], 2147483647)], (4000, [2, 3, 13, 5, 15], [5], 27)) := vOk_inI fun ρ η f0 f1 f2 f3 f4 f5 f6 f7 f8 => q_20_4 (q0 := q0) (n0 := ρ 6) (n1 := ρ 5) (n2 := ρ 0) (n3 := ρ 1) (n4 := ρ 2) (n5 := ρ 3) (n6 := ρ 4) (n7 := ρ 7) (n8 := ρ 15) (n9 := ρ 13) (H0 := η 0) (H1 := η 1) (H2 := η 5) f8 f7 f6 f5 f4 f3 f2 f1 f0
theorem c_20_27_2 {q0 : Nat} : vOkm T0 (eP e_20 L_20 A_20 mu_20 (some q0)) 2 ([(10, [15, 6], [], 1), (42, [6, 7], [], 0), (90, [7], [], 0), (91, [7], [], 20), (5000, [0, 1, 2, 3, 4, 5, 6], [0, 1], 27), (90, [5], [], -2147483648), (91, [5], [], 2147483646), (90, [6], [], -2147483648), (91, [6], [], 2147483647)], (4000, [2, 3, 13, 5, 15], [5], 27)) := vOk_inI fun ρ η f0 f1 f2 f3 f4 f5 f6 f7 f8 => q_20_4 (q0 := q0) (n0 := ρ 6) (n1 := ρ 5) (n2 := ρ 0) (n3 := ρ 1) (n4 := ρ 2) (n5 := ρ 3) (n6 := ρ 4) (n7 := ρ 7) (n8 := ρ 15) (n9 := ρ 13) (H0 := η 0) (H1 := η 1) (H2 := η 5) f8 f7 f6 f5 f4 f3 f2 f1 f0
def p_20_27 : List vG := [([(10, [8, 5], [], 1), (43, [6, 7], [], 0), (90, [7], [], 0), (91, [7], [], 20), (5000, [0, 1, 2, 3, 4, 5, 6], [0, 1], 27), (90, [5], [], -2147483648), (91, [5], [], 2147483646), (90, [6], [], -2147483648), (91, [6], [], 2147483647)], (4000, [2, 3, 4, 8], [1], 12)),
  ([(10, [15, 6], [], 1), (42, [6, 7], [], 0), (90, [7], [], 0), (91, [7], [], 20), (5000, [0, 1, 2, 3, 4, 5, 6], [0, 1], 27), (90, [5], [], -2147483648), (91, [5], [], 2147483646), (90, [6], [], -2147483648), (91, [6], [], 2147483647)], (4000, [2, 3, 13, 5, 15], [5], 27)),
  ([(10, [15, 6], [], 1), (42, [6, 7], [], 0), (90, [7], [], 0), (91, [7], [], 20), (5000, [0, 1, 2, 3, 4, 5, 6], [0, 1], 27), (90, [5], [], -2147483648), (91, [5], [], 2147483646), (90, [6], [], -2147483648), (91, [6], [], 2147483647)], (4000, [2, 3, 13, 5, 15], [5], 27))]
theorem r_20_27 : vCovO true (eRc e_20 L_20 cs_20 2000 (27, [(0, (3, 0, 23, 0)), (1, (0, -2147483648, 2147483647, 0)), (2, (0, -2147483648, 2147483647, 0)), (3, (0, -2147483648, 2147483646, 0)), (4, (0, -2147483648, 2147483647, 0))])) p_20_27 = true := by decide +kernel
theorem m_20 (d : Nat) : eC e_20 (d + 3) := eC_ok (e := e_20) (L := L_20) (cs := cs_20) (n := 2000) (d := d + 2) (A := A_20) (μ := mu_20) (tp := true) (p0 := p_20_s) rfl ⟨m_2 (d + 1), ⟨m_21 d, ⟨m_199k772 (d + 1), ⟨m_201k772 (d + 1), ⟨m_203k772 d, trivial⟩⟩⟩⟩⟩ rfl (.inr pre0_ok) (by decide +kernel) (fun _ => post0_ok) r_20_s (allC c_20_s_0 allN) (allC (.inl ⟨p_20_12, r_20_12, fun q0 => (allC c_20_12_0 (allC c_20_12_1 allN))⟩) (allC (.inl ⟨p_20_27, r_20_27, fun q0 => (allC c_20_27_0 (allC c_20_27_1 (allC c_20_27_2 allN)))⟩) allN))
/- Cue.hasTime ()Z -/
noncomputable def s_23 : vM := ([(3, 1, -1, 0)], (0, 0, 1, 0), 0, 0, [])
noncomputable def e_23 : vE := (23, s_23, pre0, post0)
noncomputable def L_23 : List vE := []
def cs_23 : List vC := []
def A_23 : Int → List Int → gH → gH → Prop := fun c xs h0 h => True
def mu_23 : Int → List Int → gH → gH → Nat := fun c xs h0 h => 0
def p_23_s : List vG := []
theorem r_23_s : vCovO true (eR0 e_23 L_23 cs_23 2000) p_23_s = true := by decide +kernel
theorem m_23 (d : Nat) : eC e_23 (d + 1) := eC_ok (e := e_23) (L := L_23) (cs := cs_23) (n := 2000) (d := d + 0) (A := A_23) (μ := mu_23) (tp := true) (p0 := p_23_s) rfl trivial rfl (.inr pre0_ok) (by decide +kernel) (fun _ => post0_ok) r_23_s allN allN
/- Cue.reset (II)V -/
noncomputable def s_24 : vM := ([(3, 1, -1, 0), (0, -2147483648, 2147483647, 0), (0, -2147483648, 2147483647, 0)], (9, 0, 0, 0), 0, 0, [(1, 0), (1, 1), (1, 2), (1, 3), (1, 4), (1, 5), (1, 6), (1, 7), (1, 8), (1, 9), (1, 10), (1, 11), (1, 12), (1, 13), (1, 14), (1, 15), (1, 16), (1, 18)])
noncomputable def e_24 : vE := (24, s_24, pre0, post0)
noncomputable def L_24 : List vE := []
def cs_24 : List vC := []
def A_24 : Int → List Int → gH → gH → Prop := fun c xs h0 h => True
def mu_24 : Int → List Int → gH → gH → Nat := fun c xs h0 h => 0
def p_24_s : List vG := []
theorem r_24_s : vCovO true (eR0 e_24 L_24 cs_24 2000) p_24_s = true := by decide +kernel
theorem m_24 (d : Nat) : eC e_24 (d + 1) := eC_ok (e := e_24) (L := L_24) (cs := cs_24) (n := 2000) (d := d + 0) (A := A_24) (μ := mu_24) (tp := true) (p0 := p_24_s) rfl trivial rfl (.inr pre0_ok) (by decide +kernel) (fun _ => post0_ok) r_24_s allN allN
/- Cue.copy (LMixStage$Cue;)V -/
noncomputable def s_25 : vM := ([(3, 1, -1, 0), (3, 1, -1, 0)], (9, 0, 0, 0), 0, 0, [(1, 0), (1, 1), (1, 2), (1, 3), (1, 4), (1, 5), (1, 6), (1, 7), (1, 8), (1, 9), (1, 10), (1, 11), (1, 12), (1, 13), (1, 14), (1, 15), (1, 16), (1, 18), (796, 0)])
noncomputable def e_25 : vE := (25, s_25, pre0, post0)
noncomputable def L_25 : List vE := [e_24, e_199k796, e_201k796]
def cs_25 : List vC := [(142, [(0, (3, 1, -1, 0)), (1, (3, 1, -1, 0)), (2, (0, -2147483648, 2147483647, 0))])]
def mub_25_142 (a0 a1 x0 x1 x2 : Int) (h0 h : gH) : Nat := (2147483648 - x2).toNat
def A_25 : Int → List Int → gH → gH → Prop := fun c xs h0 h => True
def mu_25 : Int → List Int → gH → gH → Nat := fun c xs h0 h => match c.toNat with
  | 142 => (match xs with
    | [a0, a1, x0, x1, x2] => mub_25_142 a0 a1 x0 x1 x2 h0 h
    | _ => 0)
  | _ => 0
theorem q_25_0 {n0 n1 n2 : Int} {H0 H1 : gH}  : True ∧ ∀ q, none = some q → mub_25_142 n0 n1 n0 n1 n2 H0 H1 < q := by
  exact ⟨trivial, fun q hq => nomatch hq⟩
theorem c_25_s_0 : vOkm T0 (eP e_25 L_25 A_25 mu_25 none) 2 ([], (4000, [0, 1, 36], [17], 142)) := vOk_inI fun ρ η => q_25_0 (n0 := ρ 0) (n1 := ρ 1) (n2 := ρ 36) (H0 := η 0) (H1 := η 17)
def p_25_s : List vG := [([], (4000, [0, 1, 36], [17], 142))]
theorem r_25_s : vCovO true (eR0 e_25 L_25 cs_25 2000) p_25_s = true := by decide +kernel
theorem q_25_1 {q0 : Nat} {n0 n1 n2 n3 n4 n5 n6 : Int} {H0 H1 H2 : gH} (f0 : n0 ≤ 2147483647) (f1 : (-2147483648) ≤ n0) (f2 : (hLe T0 H0 H1 ∧ hFr s_25.2.2.2.2 H0 H1 ∧ hWt T0 H1) ∧ (True ∧ True) ∧ some q0 = some (mub_25_142 n1 n2 n3 n4 n0 H0 H1)) (f3 : n5 = 4) (f4 : n0 < n5) (f5 : n6 = w32 (n0 + 1)) : True ∧ ∀ q, some q0 = some q → mub_25_142 n1 n2 n3 n4 n6 H0 H2 < q := by
  have g5 := Option.some.inj f2.2.2
  unfold mub_25_142 at g5
  unfold mub_25_142
  unfold w32 at f5
  refine ⟨?_, fun q hq => ?_⟩
  · trivial
  · have g6 := Option.some.inj hq
    subst g6
    omega
theorem c_25_142_0 {q0 : Nat} : vOkm T0 (eP e_25 L_25 A_25 mu_25 (some q0)) 2 ([(10, [9, 4], [], 1), (42, [4, 5], [], 0), (0, [5], [], 4), (5000, [0, 1, 2, 3, 4], [0, 1], 142), (90, [4], [], -2147483648), (91, [4], [], 2147483647)], (4000, [2, 3, 9], [3], 142)) := vOk_inI fun ρ η f0 f1 f2 f3 f4 f5 => q_25_1 (q0 := q0) (n0 := ρ 4) (n1 := ρ 0) (n2 := ρ 1) (n3 := ρ 2) (n4 := ρ 3) (n5 := ρ 5) (n6 := ρ 9) (H0 := η 0) (H1 := η 1) (H2 := η 3) f5 f4 f3 f2 f1 f0
def p_25_142 : List vG := [([(10, [9, 4], [], 1), (42, [4, 5], [], 0), (0, [5], [], 4), (5000, [0, 1, 2, 3, 4], [0, 1], 142), (90, [4], [], -2147483648), (91, [4], [], 2147483647)], (4000, [2, 3, 9], [3], 142))]
theorem r_25_142 : vCovO true (eRc e_25 L_25 cs_25 2000 (142, [(0, (3, 1, -1, 0)), (1, (3, 1, -1, 0)), (2, (0, -2147483648, 2147483647, 0))])) p_25_142 = true := by decide +kernel
theorem m_25 (d : Nat) : eC e_25 (d + 2) := eC_ok (e := e_25) (L := L_25) (cs := cs_25) (n := 2000) (d := d + 1) (A := A_25) (μ := mu_25) (tp := true) (p0 := p_25_s) rfl ⟨m_24 d, ⟨m_199k796 d, ⟨m_201k796 d, trivial⟩⟩⟩ rfl (.inr pre0_ok) (by decide +kernel) (fun _ => post0_ok) r_25_s (allC c_25_s_0 allN) (allC (.inl ⟨p_25_142, r_25_142, fun q0 => (allC c_25_142_0 allN)⟩) allN)
/- Cue.shift (II)V -/
noncomputable def s_26 : vM := ([(3, 1, -1, 0), (0, -2147483648, 2147483647, 0), (0, -2147483648, 2147483647, 0)], (9, 0, 0, 0), 0, 0, [(1, 4), (1, 5), (1, 6), (1, 7)])
noncomputable def e_26 : vE := (26, s_26, pre0, post0)
noncomputable def L_26 : List vE := []
def cs_26 : List vC := []
def A_26 : Int → List Int → gH → gH → Prop := fun c xs h0 h => True
def mu_26 : Int → List Int → gH → gH → Nat := fun c xs h0 h => 0
def p_26_s : List vG := []
theorem r_26_s : vCovO true (eR0 e_26 L_26 cs_26 2000) p_26_s = true := by decide +kernel
theorem m_26 (d : Nat) : eC e_26 (d + 1) := eC_ok (e := e_26) (L := L_26) (cs := cs_26) (n := 2000) (d := d + 0) (A := A_26) (μ := mu_26) (tp := true) (p0 := p_26_s) rfl trivial rfl (.inr pre0_ok) (by decide +kernel) (fun _ => post0_ok) r_26_s allN allN
/- Picture.sizeOf (I)I -/
noncomputable def s_53 : vM := ([(3, 3, 19, 0), (0, -2147483648, 2147483647, 0)], (0, -2147483648, 2147483647, 0), 0, 0, [])
noncomputable def e_53 : vE := (53, s_53, pre0, post0)
noncomputable def L_53 : List vE := [e_199k700]
def cs_53 : List vC := []
def A_53 : Int → List Int → gH → gH → Prop := fun c xs h0 h => True
def mu_53 : Int → List Int → gH → gH → Nat := fun c xs h0 h => 0
def p_53_s : List vG := []
theorem r_53_s : vCovO true (eR0 e_53 L_53 cs_53 2000) p_53_s = true := by decide +kernel
theorem m_53 (d : Nat) : eC e_53 (d + 2) := eC_ok (e := e_53) (L := L_53) (cs := cs_53) (n := 2000) (d := d + 1) (A := A_53) (μ := mu_53) (tp := true) (p0 := p_53_s) rfl ⟨m_199k700 d, trivial⟩ rfl (.inr pre0_ok) (by decide +kernel) (fun _ => post0_ok) r_53_s allN allN
/- Sheet.cueAt (I)LMixStage$Cue; -/
noncomputable def s_115 : vM := ([(3, 6, -1, 0), (0, -2147483648, 2147483647, 0)], (2, 1, -1, 0), 0, 0, [])
noncomputable def e_115 : vE := (115, s_115, pre0, post0)
noncomputable def L_115 : List vE := []
def cs_115 : List vC := []
def A_115 : Int → List Int → gH → gH → Prop := fun c xs h0 h => True
def mu_115 : Int → List Int → gH → gH → Nat := fun c xs h0 h => 0
theorem q_115_0 {n0 n1 n2 n3 n4 n5 : Int} {H0 : gH} (f0 : n0 ≤ 2147483647) (f1 : (-2147483648) ≤ n0) (f2 : 0 ≤ n1) (f3 : hWt T0 H0 ∧ True) (f4 : 0 ≤ n0) (f5 : n2 ≤ 40) (f6 : 0 ≤ n2) (f7 : hK H0 (n1).toNat = 6) (f8 : n2 = hV H0 (n1).toNat 2) (f9 : n0 < n2) (f10 : 0 ≤ n3) (f11 : hK H0 (n1).toNat = 6) (f12 : n3 = hV H0 (n1).toNat 1) (f13 : n4 = (hN H0 (n3).toNat : Int)) (f14 : n4 = 40) (f15 : n0 < n4) (f16 : 0 ≤ n5) (f17 : hK H0 (n1).toNat = 6) (f18 : n5 = hV H0 (n1).toNat 1) : 0 ≤ n0 ∧ n0 < 40 := by
  have e0 : n2 = hV H0 (n1).toNat 2 := f8
  have e1 : n3 = hV H0 (n1).toNat 1 := f12
  have e2 : n5 = hV H0 (n1).toNat 1 := f18
  omega
theorem c_115_s_0 : vOkm T0 (eP e_115 L_115 A_115 mu_115 none) 2 ([(20, [5, 0], [0], 1), (23, [0], [0], 6), (51, [5], [], 0), (42, [1, 4], [], 0), (0, [4], [], 40), (21, [4, 3], [0], 0), (20, [3, 0], [0], 1), (23, [0], [0], 6), (51, [3], [], 0), (42, [1, 2], [], 0), (20, [2, 0], [0], 2), (23, [0], [0], 6), (90, [2], [], 0), (91, [2], [], 40), (33, [1], [], 0), (6000, [0, 1], [0], 0), (51, [0], [], 0), (90, [1], [], -2147483648), (91, [1], [], 2147483647)], (70, [1], [], 40)) := vOk_inI fun ρ η f0 f1 f2 f3 f4 f5 f6 f7 f8 f9 f10 f11 f12 f13 f14 f15 f16 f17 f18 => q_115_0 (n0 := ρ 1) (n1 := ρ 0) (n2 := ρ 2) (n3 := ρ 3) (n4 := ρ 4) (n5 := ρ 5) (H0 := η 0) f18 f17 f16 f15 f14 f13 f12 f11 f10 f9 f8 f7 f6 f5 f4 f3 f2 f1 f0
def p_115_s : List vG := [([(20, [5, 0], [0], 1), (23, [0], [0], 6), (51, [5], [], 0), (42, [1, 4], [], 0), (0, [4], [], 40), (21, [4, 3], [0], 0), (20, [3, 0], [0], 1), (23, [0], [0], 6), (51, [3], [], 0), (42, [1, 2], [], 0), (20, [2, 0], [0], 2), (23, [0], [0], 6), (90, [2], [], 0), (91, [2], [], 40), (33, [1], [], 0), (6000, [0, 1], [0], 0), (51, [0], [], 0), (90, [1], [], -2147483648), (91, [1], [], 2147483647)], (70, [1], [], 40))]
theorem r_115_s : vCovO true (eR0 e_115 L_115 cs_115 2000) p_115_s = true := by decide +kernel
theorem m_115 (d : Nat) : eC e_115 (d + 1) := eC_ok (e := e_115) (L := L_115) (cs := cs_115) (n := 2000) (d := d + 0) (A := A_115) (μ := mu_115) (tp := true) (p0 := p_115_s) rfl trivial rfl (.inr pre0_ok) (by decide +kernel) (fun _ => post0_ok) r_115_s (allC c_115_s_0 allN) allN
/- View.aim (LMixStage$Bank;I)V -/
noncomputable def s_152 : vM := ([(3, 10, -1, 0), (3, 0, 23, 0), (0, -2147483648, 2147483647, 0)], (9, 0, 0, 0), 0, 0, [(10, 0), (10, 1), (10, 2)])
noncomputable def e_152 : vE := (152, s_152, pre0, post0)
noncomputable def L_152 : List vE := [e_2, e_9, e_317, e_319]
def cs_152 : List vC := [(25, [(0, (3, 10, -1, 0)), (1, (3, 0, 23, 0)), (2, (0, -2147483648, 2147483647, 0)), (3, (0, -2147483648, 2147483647, 0)), (4, (0, -2147483648, 2147483647, 0))])]
def mub_152_25 (a0 a1 a2 x0 x1 x2 x3 x4 : Int) (h0 h : gH) : Nat := (2147483648 - x4).toNat
def A_152 : Int → List Int → gH → gH → Prop := fun c xs h0 h => True
def mu_152 : Int → List Int → gH → gH → Nat := fun c xs h0 h => match c.toNat with
  | 25 => (match xs with
    | [a0, a1, a2, x0, x1, x2, x3, x4] => mub_152_25 a0 a1 a2 x0 x1 x2 x3 x4 h0 h
    | _ => 0)
  | _ => 0
theorem q_152_0 {n0 n1 n2 n3 n4 : Int} {H0 H1 : gH}  : True ∧ ∀ q, none = some q → mub_152_25 n0 n1 n2 n0 n1 n2 n3 n4 H0 H1 < q := by
  exact ⟨trivial, fun q hq => nomatch hq⟩
theorem c_152_s_0 : vOkm T0 (eP e_152 L_152 A_152 mu_152 none) 3 ([], (4000, [0, 1, 2, 3, 10], [4], 25)) := vOk_inI fun ρ η => q_152_0 (n0 := ρ 0) (n1 := ρ 1) (n2 := ρ 2) (n3 := ρ 3) (n4 := ρ 10) (H0 := η 0) (H1 := η 4)
def p_152_s : List vG := [([], (4000, [0, 1, 2, 3, 10], [4], 25))]
theorem r_152_s : vCovO true (eR0 e_152 L_152 cs_152 2000) p_152_s = true := by decide +kernel
theorem q_152_1 {q0 : Nat} {n0 n1 n2 n3 n4 n5 n6 n7 n8 n9 n10 : Int} {H0 H1 : gH} (f0 : n0 ≤ 2147483647) (f1 : (-2147483648) ≤ n0) (f2 : n1 ≤ 2147483647) (f3 : (-2147483648) ≤ n1) (f4 : n2 ≤ 2147483647) (f5 : (-2147483648) ≤ n2) (f6 : n3 = 23) (f7 : 0 ≤ n4) (f8 : n5 ≤ 2147483647) (f9 : (-2147483648) ≤ n5) (f10 : n6 = 23) (f11 : 0 ≤ n7) (f12 : (hLe T0 H0 H1 ∧ hFr s_152.2.2.2.2 H0 H1 ∧ hWt T0 H1) ∧ (True ∧ True) ∧ some q0 = some (mub_152_25 n7 n6 n5 n4 n3 n2 n1 n0 H0 H1)) (f13 : n8 = 20) (f14 : n8 ≤ n0) (f15 : hK H1 (n4).toNat = 10) (f16 : n9 = hV H1 (n4).toNat 0) (f17 : 0 ≤ n9) (f18 : hK H1 (n4).toNat = 10) (f19 : n10 = hV H1 (n4).toNat 0) : 0 ≤ n10 := by
  have g5 := Option.some.inj f12.2.2
  unfold mub_152_25 at g5
  have e0 : n9 = hV H1 (n4).toNat 0 := f16
  have e1 : n10 = hV H1 (n4).toNat 0 := f19
  omega
theorem c_152_25_0 {q0 : Nat} : vOkm T0 (eP e_152 L_152 A_152 mu_152 (some q0)) 3 ([(20, [11, 3], [1], 0), (23, [3], [1], 10), (51, [9], [], 0), (20, [9, 3], [1], 0), (23, [3], [1], 10), (43, [7, 8], [], 0), (0, [8], [], 20), (5000, [0, 1, 2, 3, 4, 5, 6, 7], [0, 1], 25), (51, [0], [], 0), (0, [1], [], 23), (90, [2], [], -2147483648), (91, [2], [], 2147483647), (51, [3], [], 0), (0, [4], [], 23), (90, [5], [], -2147483648), (91, [5], [], 2147483647), (90, [6], [], -2147483648), (91, [6], [], 2147483647), (90, [7], [], -2147483648), (91, [7], [], 2147483647)], (51, [11], [], 0)) := vOk_inI fun ρ η f0 f1 f2 f3 f4 f5 f6 f7 f8 f9 f10 f11 f12 f13 f14 f15 f16 f17 f18 f19 => q_152_1 (q0 := q0) (n0 := ρ 7) (n1 := ρ 6) (n2 := ρ 5) (n3 := ρ 4) (n4 := ρ 3) (n5 := ρ 2) (n6 := ρ 1) (n7 := ρ 0) (n8 := ρ 8) (n9 := ρ 9) (n10 := ρ 11) (H0 := η 0) (H1 := η 1) f19 f18 f17 f16 f15 f14 f13 f12 f11 f10 f9 f8 f7 f6 f5 f4 f3 f2 f1 f0
theorem q_152_2 {q0 : Nat} {n0 n1 n2 n3 n4 n5 n6 n7 n8 n9 n10 n11 : Int} {H0 H1 : gH} (f0 : n0 ≤ 2147483647) (f1 : (-2147483648) ≤ n0) (f2 : n1 ≤ 2147483647) (f3 : (-2147483648) ≤ n1) (f4 : n2 ≤ 2147483647) (f5 : (-2147483648) ≤ n2) (f6 : n3 = 23) (f7 : 0 ≤ n4) (f8 : n5 ≤ 2147483647) (f9 : (-2147483648) ≤ n5) (f10 : n6 = 23) (f11 : 0 ≤ n7) (f12 : (hLe T0 H0 H1 ∧ hFr s_152.2.2.2.2 H0 H1 ∧ hWt T0 H1) ∧ (True ∧ True) ∧ some q0 = some (mub_152_25 n7 n6 n5 n4 n3 n2 n1 n0 H0 H1)) (f13 : n8 = 20) (f14 : n0 < n8) (f15 : hK H1 (n4).toNat = 10) (f16 : n9 = hV H1 (n4).toNat 0) (f17 : n9 = -1) (f18 : hK H1 (n4).toNat = 10) (f19 : n10 = hV H1 (n4).toNat 0) (f20 : 0 ≤ n10) (f21 : hK H1 (n4).toNat = 10) (f22 : n11 = hV H1 (n4).toNat 0) : 0 ≤ n11 := by
  have g5 := Option.some.inj f12.2.2
  unfold mub_152_25 at g5
  have e0 : n9 = hV H1 (n4).toNat 0 := f16
  have e1 : n10 = hV H1 (n4).toNat 0 := f19
  have e2 : n11 = hV H1 (n4).toNat 0 := f22
  omega
theorem c_152_25_1 {q0 : Nat} : vOkm T0 (eP e_152 L_152 A_152 mu_152 (some q0)) 3 ([(20, [12, 3], [1], 0), (23, [3], [1], 10), (51, [10], [], 0), (20, [10, 3], [1], 0), (23, [3], [1], 10), (50, [9], [], 0), (20, [9, 3], [1], 0), (23, [3], [1], 10), (42, [7, 8], [], 0), (0, [8], [], 20), (5000, [0, 1, 2, 3, 4, 5, 6, 7], [0, 1], 25), (51, [0], [], 0), (0, [1], [], 23), (90, [2], [], -2147483648), (91, [2], [], 2147483647), (51, [3], [], 0), (0, [4], [], 23), (90, [5], [], -2147483648), (91, [5], [], 2147483647), (90, [6], [], -2147483648), (91, [6], [], 2147483647), (90, [7], [], -2147483648), (91, [7], [], 2147483647)], (51, [12], [], 0)) := vOk_inI fun ρ η f0 f1 f2 f3 f4 f5 f6 f7 f8 f9 f10 f11 f12 f13 f14 f15 f16 f17 f18 f19 f20 f21 f22 => q_152_2 (q0 := q0) (n0 := ρ 7) (n1 := ρ 6) (n2 := ρ 5) (n3 := ρ 4) (n4 := ρ 3) (n5 := ρ 2) (n6 := ρ 1) (n7 := ρ 0) (n8 := ρ 8) (n9 := ρ 9) (n10 := ρ 10) (n11 := ρ 12) (H0 := η 0) (H1 := η 1) f22 f21 f20 f19 f18 f17 f16 f15 f14 f13 f12 f11 f10 f9 f8 f7 f6 f5 f4 f3 f2 f1 f0
theorem q_152_3 {q0 : Nat} {n0 n1 n2 n3 n4 n5 n6 n7 n8 n9 n10 : Int} {H0 H1 : gH} (f0 : n0 ≤ 2147483647) (f1 : (-2147483648) ≤ n0) (f2 : n1 ≤ 2147483647) (f3 : (-2147483648) ≤ n1) (f4 : n2 ≤ 2147483647) (f5 : (-2147483648) ≤ n2) (f6 : n3 = 23) (f7 : 0 ≤ n4) (f8 : n5 ≤ 2147483647) (f9 : (-2147483648) ≤ n5) (f10 : n6 = 23) (f11 : 0 ≤ n7) (f12 : (hLe T0 H0 H1 ∧ hFr s_152.2.2.2.2 H0 H1 ∧ hWt T0 H1) ∧ (True ∧ True) ∧ some q0 = some (mub_152_25 n7 n6 n5 n4 n3 n2 n1 n0 H0 H1)) (f13 : n8 = 20) (f14 : n0 < n8) (f15 : hK H1 (n4).toNat = 10) (f16 : n9 = hV H1 (n4).toNat 0) (f17 : 0 ≤ n9) (f18 : hK H1 (n4).toNat = 10) (f19 : n10 = hV H1 (n4).toNat 0) : 0 ≤ n10 := by
  have g5 := Option.some.inj f12.2.2
  unfold mub_152_25 at g5
  have e0 : n9 = hV H1 (n4).toNat 0 := f16
  have e1 : n10 = hV H1 (n4).toNat 0 := f19
  omega
theorem c_152_25_2 {q0 : Nat} : vOkm T0 (eP e_152 L_152 A_152 mu_152 (some q0)) 3 ([(20, [10, 3], [1], 0), (23, [3], [1], 10), (51, [9], [], 0), (20, [9, 3], [1], 0), (23, [3], [1], 10), (42, [7, 8], [], 0), (0, [8], [], 20), (5000, [0, 1, 2, 3, 4, 5, 6, 7], [0, 1], 25), (51, [0], [], 0), (0, [1], [], 23), (90, [2], [], -2147483648), (91, [2], [], 2147483647), (51, [3], [], 0), (0, [4], [], 23), (90, [5], [], -2147483648), (91, [5], [], 2147483647), (90, [6], [], -2147483648), (91, [6], [], 2147483647), (90, [7], [], -2147483648), (91, [7], [], 2147483647)], (51, [10], [], 0)) := vOk_inI fun ρ η f0 f1 f2 f3 f4 f5 f6 f7 f8 f9 f10 f11 f12 f13 f14 f15 f16 f17 f18 f19 => q_152_3 (q0 := q0) (n0 := ρ 7) (n1 := ρ 6) (n2 := ρ 5) (n3 := ρ 4) (n4 := ρ 3) (n5 := ρ 2) (n6 := ρ 1) (n7 := ρ 0) (n8 := ρ 8) (n9 := ρ 9) (n10 := ρ 10) (H0 := η 0) (H1 := η 1) f19 f18 f17 f16 f15 f14 f13 f12 f11 f10 f9 f8 f7 f6 f5 f4 f3 f2 f1 f0
theorem q_152_4 {q0 : Nat} {n0 n1 n2 n3 n4 n5 n6 n7 n8 n9 n10 n11 n12 : Int} {H0 H1 : gH} (f0 : n0 ≤ 2147483647) (f1 : (-2147483648) ≤ n0) (f2 : n1 ≤ 2147483647) (f3 : (-2147483648) ≤ n1) (f4 : n2 ≤ 2147483647) (f5 : (-2147483648) ≤ n2) (f6 : n3 = 23) (f7 : 0 ≤ n4) (f8 : n5 ≤ 2147483647) (f9 : (-2147483648) ≤ n5) (f10 : n6 = 23) (f11 : 0 ≤ n7) (f12 : (hLe T0 H0 H1 ∧ hFr s_152.2.2.2.2 H0 H1 ∧ hWt T0 H1) ∧ (True ∧ True) ∧ some q0 = some (mub_152_25 n7 n6 n5 n4 n3 n2 n1 n0 H0 H1)) (f13 : n8 = 20) (f14 : n0 < n8) (f15 : hK H1 (n4).toNat = 10) (f16 : n9 = hV H1 (n4).toNat 0) (f17 : 0 ≤ n9) (f18 : hK H1 (n4).toNat = 10) (f19 : n10 = hV H1 (n4).toNat 0) (f20 : hK H1 (n10).toNat = 7) (f21 : hK H1 (n4).toNat = 10) (f22 : n11 = hV H1 (n4).toNat 0) (f23 : 0 ≤ n11) (f24 : hK H1 (n4).toNat = 10) (f25 : n12 = hV H1 (n4).toNat 0) : 0 ≤ n12 := by
  have g5 := Option.some.inj f12.2.2
  unfold mub_152_25 at g5
  have e0 : n9 = hV H1 (n4).toNat 0 := f16
  have e1 : n10 = hV H1 (n4).toNat 0 := f19
  have e2 : n11 = hV H1 (n4).toNat 0 := f22
  have e3 : n12 = hV H1 (n4).toNat 0 := f25
  omega
theorem c_152_25_3 {q0 : Nat} : vOkm T0 (eP e_152 L_152 A_152 mu_152 (some q0)) 3 ([(20, [15, 3], [1], 0), (23, [3], [1], 10), (51, [13], [], 0), (20, [13, 3], [1], 0), (23, [3], [1], 10), (23, [10], [1], 7), (20, [10, 3], [1], 0), (23, [3], [1], 10), (51, [9], [], 0), (20, [9, 3], [1], 0), (23, [3], [1], 10), (42, [7, 8], [], 0), (0, [8], [], 20), (5000, [0, 1, 2, 3, 4, 5, 6, 7], [0, 1], 25), (51, [0], [], 0), (0, [1], [], 23), (90, [2], [], -2147483648), (91, [2], [], 2147483647), (51, [3], [], 0), (0, [4], [], 23), (90, [5], [], -2147483648), (91, [5], [], 2147483647), (90, [6], [], -2147483648), (91, [6], [], 2147483647), (90, [7], [], -2147483648), (91, [7], [], 2147483647)], (51, [15], [], 0)) := vOk_inI fun ρ η f0 f1 f2 f3 f4 f5 f6 f7 f8 f9 f10 f11 f12 f13 f14 f15 f16 f17 f18 f19 f20 f21 f22 f23 f24 f25 => q_152_4 (q0 := q0) (n0 := ρ 7) (n1 := ρ 6) (n2 := ρ 5) (n3 := ρ 4) (n4 := ρ 3) (n5 := ρ 2) (n6 := ρ 1) (n7 := ρ 0) (n8 := ρ 8) (n9 := ρ 9) (n10 := ρ 10) (n11 := ρ 13) (n12 := ρ 15) (H0 := η 0) (H1 := η 1) f25 f24 f23 f22 f21 f20 f19 f18 f17 f16 f15 f14 f13 f12 f11 f10 f9 f8 f7 f6 f5 f4 f3 f2 f1 f0
theorem q_152_5 {q0 : Nat} {n0 n1 n2 n3 n4 n5 n6 n7 n8 n9 n10 n11 : Int} {H0 H1 : gH} (f0 : n0 ≤ 2147483647) (f1 : (-2147483648) ≤ n0) (f2 : n1 ≤ 2147483647) (f3 : (-2147483648) ≤ n1) (f4 : n2 ≤ 2147483647) (f5 : (-2147483648) ≤ n2) (f6 : n3 = 23) (f7 : 0 ≤ n4) (f8 : n5 ≤ 2147483647) (f9 : (-2147483648) ≤ n5) (f10 : n6 = 23) (f11 : 0 ≤ n7) (f12 : (hLe T0 H0 H1 ∧ hFr s_152.2.2.2.2 H0 H1 ∧ hWt T0 H1) ∧ (True ∧ True) ∧ some q0 = some (mub_152_25 n7 n6 n5 n4 n3 n2 n1 n0 H0 H1)) (f13 : n8 = 20) (f14 : n0 < n8) (f15 : hK H1 (n4).toNat = 10) (f16 : n9 = hV H1 (n4).toNat 0) (f17 : 0 ≤ n9) (f18 : hK H1 (n4).toNat = 10) (f19 : n10 = hV H1 (n4).toNat 0) (f20 : hK H1 (n10).toNat = 7) (f21 : hK H1 (n4).toNat = 10) (f22 : hK H1 (n4).toNat = 10) (f23 : n11 = hV H1 (n4).toNat 0) : 0 ≤ n11 := by
  have g5 := Option.some.inj f12.2.2
  unfold mub_152_25 at g5
  have e0 : n9 = hV H1 (n4).toNat 0 := f16
  have e1 : n10 = hV H1 (n4).toNat 0 := f19
  have e2 : n11 = hV H1 (n4).toNat 0 := f23
  omega
theorem c_152_25_4 {q0 : Nat} : vOkm T0 (eP e_152 L_152 A_152 mu_152 (some q0)) 3 ([(20, [14, 3], [1], 0), (23, [3], [1], 10), (23, [3], [1], 10), (23, [10], [1], 7), (20, [10, 3], [1], 0), (23, [3], [1], 10), (51, [9], [], 0), (20, [9, 3], [1], 0), (23, [3], [1], 10), (42, [7, 8], [], 0), (0, [8], [], 20), (5000, [0, 1, 2, 3, 4, 5, 6, 7], [0, 1], 25), (51, [0], [], 0), (0, [1], [], 23), (90, [2], [], -2147483648), (91, [2], [], 2147483647), (51, [3], [], 0), (0, [4], [], 23), (90, [5], [], -2147483648), (91, [5], [], 2147483647), (90, [6], [], -2147483648), (91, [6], [], 2147483647), (90, [7], [], -2147483648), (91, [7], [], 2147483647)], (51, [14], [], 0)) := vOk_inI fun ρ η f0 f1 f2 f3 f4 f5 f6 f7 f8 f9 f10 f11 f12 f13 f14 f15 f16 f17 f18 f19 f20 f21 f22 f23 => q_152_5 (q0 := q0) (n0 := ρ 7) (n1 := ρ 6) (n2 := ρ 5) (n3 := ρ 4) (n4 := ρ 3) (n5 := ρ 2) (n6 := ρ 1) (n7 := ρ 0) (n8 := ρ 8) (n9 := ρ 9) (n10 := ρ 10) (n11 := ρ 14) (H0 := η 0) (H1 := η 1) f23 f22 f21 f20 f19 f18 f17 f16 f15 f14 f13 f12 f11 f10 f9 f8 f7 f6 f5 f4 f3 f2 f1 f0
theorem q_152_6 {q0 : Nat} {n0 n1 n2 n3 n4 n5 n6 n7 n8 n9 n10 n11 n12 n13 n14 n15 n16 : Int} {H0 H1 H2 : gH} (f0 : n0 ≤ 2147483647) (f1 : (-2147483648) ≤ n0) (f2 : n1 ≤ 2147483647) (f3 : (-2147483648) ≤ n1) (f4 : n2 ≤ 2147483647) (f5 : (-2147483648) ≤ n2) (f6 : n3 = 23) (f7 : 0 ≤ n4) (f8 : n5 ≤ 2147483647) (f9 : (-2147483648) ≤ n5) (f10 : n6 = 23) (f11 : 0 ≤ n7) (f12 : (hLe T0 H0 H1 ∧ hFr s_152.2.2.2.2 H0 H1 ∧ hWt T0 H1) ∧ (True ∧ True) ∧ some q0 = some (mub_152_25 n7 n6 n5 n4 n3 n2 n1 n0 H0 H1)) (f13 : n8 = 20) (f14 : n0 < n8) (f15 : hK H1 (n4).toNat = 10) (f16 : n9 = hV H1 (n4).toNat 0) (f17 : 0 ≤ n9) (f18 : hK H1 (n4).toNat = 10) (f19 : n10 = hV H1 (n4).toNat 0) (f20 : hK H1 (n10).toNat = 7) (f21 : n11 ≤ 2147483647) (f22 : (-2147483648) ≤ n11) (f23 : hK H1 (n4).toNat = 10) (f24 : n11 = hV H1 (n4).toNat 1) (f25 : hK H1 (n4).toNat = 10) (f26 : n12 = hV H1 (n4).toNat 0) (f27 : n13 ≤ 2147483647) (f28 : (-2147483648) ≤ n13) (f29 : hK H1 (n12).toNat = 7) (f30 : n13 = hV H1 (n12).toNat 1) (f31 : n14 = w32 (n11 + n13)) (f32 : hK H1 (n4).toNat = 10) (f33 : n15 = 1) (f34 : hUpd H2 H1 n4 n15 n14) (f35 : hK H2 (n4).toNat = 10) (f36 : n16 = hV H2 (n4).toNat 0) : 0 ≤ n16 := by
  have g5 := Option.some.inj f12.2.2
  unfold mub_152_25 at g5
  have e0 : n9 = hV H1 (n4).toNat 0 := f16
  have e1 : n10 = hV H1 (n4).toNat 0 := f19
  have e2 : n11 = hV H1 (n4).toNat 1 := f24
  have e3 : n12 = hV H1 (n4).toNat 0 := f26
  have e4 : n13 = hV H1 (n12).toNat 1 := f30
  have e6 : n16 = hV H1 (n4).toNat 0 := f36.trans ((uSlot f34 ((n4).toNat) 0 (iS (show n15 = ((1 : Nat) : Int) from f33) rfl)))
  unfold w32 at f31
  omega
theorem c_152_25_5 {q0 : Nat} : vOkm T0 (eP e_152 L_152 A_152 mu_152 (some q0)) 3 ([(20, [18, 3], [2], 0), (23, [3], [2], 10), (80, [3, 17, 16], [2, 1], 0), (0, [17], [], 1), (23, [3], [1], 10), (1, [16, 13, 15], [], 0), (20, [15, 14], [1], 1), (23, [14], [1], 7), (90, [15], [], -2147483648), (91, [15], [], 2147483647), (20, [14, 3], [1], 0), (23, [3], [1], 10), (20, [13, 3], [1], 1), (23, [3], [1], 10), (90, [13], [], -2147483648), (91, [13], [], 2147483647), (23, [10], [1], 7), (20, [10, 3], [1], 0), (23, [3], [1], 10), (51, [9], [], 0), (20, [9, 3], [1], 0), (23, [3], [1], 10), (42, [7, 8], [], 0), (0, [8], [], 20), (5000, [0, 1, 2, 3, 4, 5, 6, 7], [0, 1], 25), (51, [0], [], 0), (0, [1], [], 23), (90, [2], [], -2147483648), (91, [2], [], 2147483647), (51, [3], [], 0), (0, [4], [], 23), (90, [5], [], -2147483648), (91, [5], [], 2147483647), (90, [6], [], -2147483648), (91, [6], [], 2147483647), (90, [7], [], -2147483648), (91, [7], [], 2147483647)], (51, [18], [], 0)) := vOk_inI fun ρ η f0 f1 f2 f3 f4 f5 f6 f7 f8 f9 f10 f11 f12 f13 f14 f15 f16 f17 f18 f19 f20 f21 f22 f23 f24 f25 f26 f27 f28 f29 f30 f31 f32 f33 f34 f35 f36 => q_152_6 (q0 := q0) (n0 := ρ 7) (n1 := ρ 6) (n2 := ρ 5) (n3 := ρ 4) (n4 := ρ 3) (n5 := ρ 2) (n6 := ρ 1) (n7 := ρ 0) (n8 := ρ 8) (n9 := ρ 9) (n10 := ρ 10) (n11 := ρ 13) (n12 := ρ 14) (n13 := ρ 15) (n14 := ρ 16) (n15 := ρ 17) (n16 := ρ 18) (H0 := η 0) (H1 := η 1) (H2 := η 2) f36 f35 f34 f33 f32 f31 f30 f29 f28 f27 f26 f25 f24 f23 f22 f21 f20 f19 f18 f17 f16 f15 f14 f13 f12 f11 f10 f9 f8 f7 f6 f5 f4 f3 f2 f1 f0
theorem q_152_7 {q0 : Nat} {n0 n1 n2 n3 n4 n5 n6 n7 n8 n9 n10 n11 n12 n13 n14 n15 n16 n17 : Int} {H0 H1 H2 : gH} (f0 : n0 ≤ 2147483647) (f1 : (-2147483648) ≤ n0) (f2 : n1 ≤ 2147483647) (f3 : (-2147483648) ≤ n1) (f4 : n2 ≤ 2147483647) (f5 : (-2147483648) ≤ n2) (f6 : n3 = 23) (f7 : 0 ≤ n4) (f8 : n5 ≤ 2147483647) (f9 : (-2147483648) ≤ n5) (f10 : n6 = 23) (f11 : 0 ≤ n7) (f12 : (hLe T0 H0 H1 ∧ hFr s_152.2.2.2.2 H0 H1 ∧ hWt T0 H1) ∧ (True ∧ True) ∧ some q0 = some (mub_152_25 n7 n6 n5 n4 n3 n2 n1 n0 H0 H1)) (f13 : n8 = 20) (f14 : n0 < n8) (f15 : hK H1 (n4).toNat = 10) (f16 : n9 = hV H1 (n4).toNat 0) (f17 : 0 ≤ n9) (f18 : hK H1 (n4).toNat = 10) (f19 : n10 = hV H1 (n4).toNat 0) (f20 : hK H1 (n10).toNat = 7) (f21 : n11 ≤ 2147483647) (f22 : (-2147483648) ≤ n11) (f23 : hK H1 (n4).toNat = 10) (f24 : n11 = hV H1 (n4).toNat 1) (f25 : hK H1 (n4).toNat = 10) (f26 : n12 = hV H1 (n4).toNat 0) (f27 : n13 ≤ 2147483647) (f28 : (-2147483648) ≤ n13) (f29 : hK H1 (n12).toNat = 7) (f30 : n13 = hV H1 (n12).toNat 1) (f31 : n14 = w32 (n11 + n13)) (f32 : hK H1 (n4).toNat = 10) (f33 : n15 = 1) (f34 : hUpd H2 H1 n4 n15 n14) (f35 : hK H2 (n4).toNat = 10) (f36 : n16 = hV H2 (n4).toNat 0) (f37 : hK H2 (n16).toNat = 7) (f38 : hK H2 (n4).toNat = 10) (f39 : n17 = hV H2 (n4).toNat 0) : 0 ≤ n17 := by
  have g5 := Option.some.inj f12.2.2
  unfold mub_152_25 at g5
  have e0 : n9 = hV H1 (n4).toNat 0 := f16
  have e1 : n10 = hV H1 (n4).toNat 0 := f19
  have e2 : n11 = hV H1 (n4).toNat 1 := f24
  have e3 : n12 = hV H1 (n4).toNat 0 := f26
  have e4 : n13 = hV H1 (n12).toNat 1 := f30
  have e6 : n16 = hV H1 (n4).toNat 0 := f36.trans ((uSlot f34 ((n4).toNat) 0 (iS (show n15 = ((1 : Nat) : Int) from f33) rfl)))
  have e7 : n17 = hV H1 (n4).toNat 0 := f39.trans ((uSlot f34 ((n4).toNat) 0 (iS (show n15 = ((1 : Nat) : Int) from f33) rfl)))
  unfold w32 at f31
  omega
theorem c_152_25_6 {q0 : Nat} : vOkm T0 (eP e_152 L_152 A_152 mu_152 (some q0)) 3 ([(20, [21, 3], [2], 0), (23, [3], [2], 10), (23, [18], [2], 7), (20, [18, 3], [2], 0), (23, [3], [2], 10), (80, [3, 17, 16], [2, 1], 0), (0, [17], [], 1), (23, [3], [1], 10), (1, [16, 13, 15], [], 0), (20, [15, 14], [1], 1), (23, [14], [1], 7), (90, [15], [], -2147483648), (91, [15], [], 2147483647), (20, [14, 3], [1], 0), (23, [3], [1], 10), (20, [13, 3], [1], 1), (23, [3], [1], 10), (90, [13], [], -2147483648), (91, [13], [], 2147483647), (23, [10], [1], 7), (20, [10, 3], [1], 0), (23, [3], [1], 10), (51, [9], [], 0), (20, [9, 3], [1], 0), (23, [3], [1], 10), (42, [7, 8], [], 0), (0, [8], [], 20), (5000, [0, 1, 2, 3, 4, 5, 6, 7], [0, 1], 25), (51, [0], [], 0), (0, [1], [], 23), (90, [2], [], -2147483648), (91, [2], [], 2147483647), (51, [3], [], 0), (0, [4], [], 23), (90, [5], [], -2147483648), (91, [5], [], 2147483647), (90, [6], [], -2147483648), (91, [6], [], 2147483647), (90, [7], [], -2147483648), (91, [7], [], 2147483647)], (51, [21], [], 0)) := vOk_inI fun ρ η f0 f1 f2 f3 f4 f5 f6 f7 f8 f9 f10 f11 f12 f13 f14 f15 f16 f17 f18 f19 f20 f21 f22 f23 f24 f25 f26 f27 f28 f29 f30 f31 f32 f33 f34 f35 f36 f37 f38 f39 => q_152_7 (q0 := q0) (n0 := ρ 7) (n1 := ρ 6) (n2 := ρ 5) (n3 := ρ 4) (n4 := ρ 3) (n5 := ρ 2) (n6 := ρ 1) (n7 := ρ 0) (n8 := ρ 8) (n9 := ρ 9) (n10 := ρ 10) (n11 := ρ 13) (n12 := ρ 14) (n13 := ρ 15) (n14 := ρ 16) (n15 := ρ 17) (n16 := ρ 18) (n17 := ρ 21) (H0 := η 0) (H1 := η 1) (H2 := η 2) f39 f38 f37 f36 f35 f34 f33 f32 f31 f30 f29 f28 f27 f26 f25 f24 f23 f22 f21 f20 f19 f18 f17 f16 f15 f14 f13 f12 f11 f10 f9 f8 f7 f6 f5 f4 f3 f2 f1 f0
theorem q_152_8 {q0 : Nat} {n0 n1 n2 n3 n4 n5 n6 n7 n8 n9 n10 n11 n12 n13 n14 n15 n16 n17 n18 n19 n20 n21 n22 : Int} {H0 H1 H2 H3 : gH} (f0 : n0 ≤ 2147483647) (f1 : (-2147483648) ≤ n0) (f2 : n1 ≤ 2147483647) (f3 : (-2147483648) ≤ n1) (f4 : n2 ≤ 2147483647) (f5 : (-2147483648) ≤ n2) (f6 : n3 = 23) (f7 : 0 ≤ n4) (f8 : n5 ≤ 2147483647) (f9 : (-2147483648) ≤ n5) (f10 : n6 = 23) (f11 : 0 ≤ n7) (f12 : (hLe T0 H0 H1 ∧ hFr s_152.2.2.2.2 H0 H1 ∧ hWt T0 H1) ∧ (True ∧ True) ∧ some q0 = some (mub_152_25 n7 n6 n5 n4 n3 n2 n1 n0 H0 H1)) (f13 : n8 = 20) (f14 : n0 < n8) (f15 : hK H1 (n4).toNat = 10) (f16 : n9 = hV H1 (n4).toNat 0) (f17 : 0 ≤ n9) (f18 : hK H1 (n4).toNat = 10) (f19 : n10 = hV H1 (n4).toNat 0) (f20 : hK H1 (n10).toNat = 7) (f21 : n11 ≤ 2147483647) (f22 : (-2147483648) ≤ n11) (f23 : hK H1 (n4).toNat = 10) (f24 : n11 = hV H1 (n4).toNat 1) (f25 : hK H1 (n4).toNat = 10) (f26 : n12 = hV H1 (n4).toNat 0) (f27 : n13 ≤ 2147483647) (f28 : (-2147483648) ≤ n13) (f29 : hK H1 (n12).toNat = 7) (f30 : n13 = hV H1 (n12).toNat 1) (f31 : n14 = w32 (n11 + n13)) (f32 : hK H1 (n4).toNat = 10) (f33 : n15 = 1) (f34 : hUpd H2 H1 n4 n15 n14) (f35 : hK H2 (n4).toNat = 10) (f36 : n16 = hV H2 (n4).toNat 0) (f37 : n17 ≤ 2147483647) (f38 : (-2147483648) ≤ n17) (f39 : hK H2 (n16).toNat = 7) (f40 : n17 = hV H2 (n16).toNat 1) (f41 : n18 = w32 (n1 + n17)) (f42 : hK H2 (n4).toNat = 10) (f43 : n19 = hV H2 (n4).toNat 0) (f44 : n20 ≤ 2147483647) (f45 : (-2147483648) ≤ n20) (f46 : hK H2 (n19).toNat = 7) (f47 : n20 = hV H2 (n19).toNat 2) (f48 : n21 ≤ 2147483647) (f49 : (-2147483648) ≤ n21) (f50 : (hLe T0 H2 H3 ∧ hFr s_319.2.2.2.2 H2 H3 ∧ ((0 : Int) = 0 → H3.length = H2.length) ∧ hWt T0 H3) ∧ postb_319 n21 n18 n20 H2 H3) (f51 : hK H3 (n4).toNat = 10) (f52 : n22 = hV H3 (n4).toNat 0) : 0 ≤ n22 := by
  have g5 := Option.some.inj f12.2.2
  unfold mub_152_25 at g5
  unfold postb_319 at f50
  have e0 : n9 = hV H1 (n4).toNat 0 := f16
  have e1 : n10 = hV H1 (n4).toNat 0 := f19
  have e2 : n11 = hV H1 (n4).toNat 1 := f24
  have e3 : n12 = hV H1 (n4).toNat 0 := f26
  have e4 : n13 = hV H1 (n12).toNat 1 := f30
  have e6 : n16 = hV H1 (n4).toNat 0 := f36.trans ((uSlot f34 ((n4).toNat) 0 (iS (show n15 = ((1 : Nat) : Int) from f33) rfl)))
  have e7 : n17 = hV H2 (n16).toNat 1 := f40
  have e8 : n19 = hV H1 (n4).toNat 0 := f43.trans ((uSlot f34 ((n4).toNat) 0 (iS (show n15 = ((1 : Nat) : Int) from f33) rfl)))
  have e10 : n20 = hV H1 (n19).toNat 2 := f47.trans ((uSlot f34 ((n19).toNat) 2 (iS (show n15 = ((1 : Nat) : Int) from f33) rfl)))
  have e11 : hV H3 (n4).toNat 0 = hV H2 (n4).toNat 0 := f50.1.2.1.2.2 _ _ f35 rfl 0 (by decide +kernel)
  have e12 : n22 = hV H1 (n4).toNat 0 := f52.trans ((e11).trans (uSlot f34 ((n4).toNat) 0 (iS (show n15 = ((1 : Nat) : Int) from f33) rfl)))
  unfold w32 at f31 f41
  omega
theorem c_152_25_7 {q0 : Nat} : vOkm T0 (eP e_152 L_152 A_152 mu_152 (some q0)) 3 ([(20, [24, 3], [3], 0), (23, [3], [3], 10), (1319, [23, 20, 22], [2, 3], 0), (90, [23], [], -2147483648), (91, [23], [], 2147483647), (20, [22, 21], [2], 2), (23, [21], [2], 7), (90, [22], [], -2147483648), (91, [22], [], 2147483647), (20, [21, 3], [2], 0), (23, [3], [2], 10), (1, [20, 6, 19], [], 0), (20, [19, 18], [2], 1), (23, [18], [2], 7), (90, [19], [], -2147483648), (91, [19], [], 2147483647), (20, [18, 3], [2], 0), (23, [3], [2], 10), (80, [3, 17, 16], [2, 1], 0), (0, [17], [], 1), (23, [3], [1], 10), (1, [16, 13, 15], [], 0), (20, [15, 14], [1], 1), (23, [14], [1], 7), (90, [15], [], -2147483648), (91, [15], [], 2147483647), (20, [14, 3], [1], 0), (23, [3], [1], 10), (20, [13, 3], [1], 1), (23, [3], [1], 10), (90, [13], [], -2147483648), (91, [13], [], 2147483647), (23, [10], [1], 7), (20, [10, 3], [1], 0), (23, [3], [1], 10), (51, [9], [], 0), (20, [9, 3], [1], 0), (23, [3], [1], 10), (42, [7, 8], [], 0), (0, [8], [], 20), (5000, [0, 1, 2, 3, 4, 5, 6, 7], [0, 1], 25), (51, [0], [], 0), (0, [1], [], 23), (90, [2], [], -2147483648), (91, [2], [], 2147483647), (51, [3], [], 0), (0, [4], [], 23), (90, [5], [], -2147483648), (91, [5], [], 2147483647), (90, [6], [], -2147483648), (91, [6], [], 2147483647), (90, [7], [], -2147483648), (91, [7], [], 2147483647)], (51, [24], [], 0)) := vOk_inI fun ρ η f0 f1 f2 f3 f4 f5 f6 f7 f8 f9 f10 f11 f12 f13 f14 f15 f16 f17 f18 f19 f20 f21 f22 f23 f24 f25 f26 f27 f28 f29 f30 f31 f32 f33 f34 f35 f36 f37 f38 f39 f40 f41 f42 f43 f44 f45 f46 f47 f48 f49 f50 f51 f52 => q_152_8 (q0 := q0) (n0 := ρ 7) (n1 := ρ 6) (n2 := ρ 5) (n3 := ρ 4) (n4 := ρ 3) (n5 := ρ 2) (n6 := ρ 1) (n7 := ρ 0) (n8 := ρ 8) (n9 := ρ 9) (n10 := ρ 10) (n11 := ρ 13) (n12 := ρ 14) (n13 := ρ 15) (n14 := ρ 16) (n15 := ρ 17) (n16 := ρ 18) (n17 := ρ 19) (n18 := ρ 20) (n19 := ρ 21) (n20 := ρ 22) (n21 := ρ 23) (n22 := ρ 24) (H0 := η 0) (H1 := η 1) (H2 := η 2) (H3 := η 3) f52 f51 f50 f49 f48 f47 f46 f45 f44 f43 f42 f41 f40 f39 f38 f37 f36 f35 f34 f33 f32 f31 f30 f29 f28 f27 f26 f25 f24 f23 f22 f21 f20 f19 f18 f17 f16 f15 f14 f13 f12 f11 f10 f9 f8 f7 f6 f5 f4 f3 f2 f1 f0
theorem q_152_9 {q0 : Nat} {n0 n1 n2 n3 n4 n5 n6 n7 n8 n9 n10 : Int} {H0 H1 H2 : gH} (f0 : n0 ≤ 2147483647) (f1 : (-2147483648) ≤ n0) (f2 : (hLe T0 H0 H1 ∧ hFr s_152.2.2.2.2 H0 H1 ∧ hWt T0 H1) ∧ (True ∧ True) ∧ some q0 = some (mub_152_25 n1 n2 n3 n4 n5 n6 n7 n0 H0 H1)) (f3 : n8 = 20) (f4 : n0 < n8) (f5 : n9 = w32 (n0 + 1)) : True ∧ ∀ q, some q0 = some q → mub_152_25 n1 n2 n3 n4 n5 n6 n10 n9 H0 H2 < q := by
  have g5 := Option.some.inj f2.2.2
  unfold mub_152_25 at g5
  unfold mub_152_25
  unfold w32 at f5
  refine ⟨?_, fun q hq => ?_⟩
  · trivial
  · have g6 := Option.some.inj hq
    subst g6
    omega
theorem c_152_25_8 {q0 : Nat} : vOkm T0 (eP e_152 L_152 A_152 mu_152 (some q0)) 3 ([(10, [28, 7], [], 1), (42, [7, 8], [], 0), (0, [8], [], 20), (5000, [0, 1, 2, 3, 4, 5, 6, 7], [0, 1], 25), (90, [7], [], -2147483648), (91, [7], [], 2147483647)], (4000, [3, 4, 5, 23, 28], [5], 25)) := vOk_inI fun ρ η f0 f1 f2 f3 f4 f5 => q_152_9 (q0 := q0) (n0 := ρ 7) (n1 := ρ 0) (n2 := ρ 1) (n3 := ρ 2) (n4 := ρ 3) (n5 := ρ 4) (n6 := ρ 5) (n7 := ρ 6) (n8 := ρ 8) (n9 := ρ 28) (n10 := ρ 23) (H0 := η 0) (H1 := η 1) (H2 := η 5) f5 f4 f3 f2 f1 f0
def p_152_25 : List vG := [([(20, [11, 3], [1], 0), (23, [3], [1], 10), (51, [9], [], 0), (20, [9, 3], [1], 0), (23, [3], [1], 10), (43, [7, 8], [], 0), (0, [8], [], 20), (5000, [0, 1, 2, 3, 4, 5, 6, 7], [0, 1], 25), (51, [0], [], 0), (0, [1], [], 23), (90, [2], [], -2147483648), (91, [2], [], 2147483647), (51, [3], [], 0), (0, [4], [], 23), (90, [5], [], -2147483648), (91, [5], [], 2147483647), (90, [6], [], -2147483648), (91, [6], [], 2147483647), (90, [7], [], -2147483648), (91, [7], [], 2147483647)], (51, [11], [], 0)),
  ([(20, [12, 3], [1], 0), (23, [3], [1], 10), (51, [10], [], 0), (20, [10, 3], [1], 0), (23, [3], [1], 10), (50, [9], [], 0), (20, [9, 3], [1], 0), (23, [3], [1], 10), (42, [7, 8], [], 0), (0, [8], [], 20), (5000, [0, 1, 2, 3, 4, 5, 6, 7], [0, 1], 25), (51, [0], [], 0), (0, [1], [], 23), (90, [2], [], -2147483648), (91, [2], [], 2147483647), (51, [3], [], 0), (0, [4], [], 23), (90, [5], [], -2147483648), (91, [5], [], 2147483647), (90, [6], [], -2147483648), (91, [6], [], 2147483647), (90, [7], [], -2147483648), (91, [7], [], 2147483647)], (51, [12], [], 0)),
  ([(20, [10, 3], [1], 0), (23, [3], [1], 10), (51, [9], [], 0), (20, [9, 3], [1], 0), (23, [3], [1], 10), (42, [7, 8], [], 0), (0, [8], [], 20), (5000, [0, 1, 2, 3, 4, 5, 6, 7], [0, 1], 25), (51, [0], [], 0), (0, [1], [], 23), (90, [2], [], -2147483648), (91, [2], [], 2147483647), (51, [3], [], 0), (0, [4], [], 23), (90, [5], [], -2147483648), (91, [5], [], 2147483647), (90, [6], [], -2147483648), (91, [6], [], 2147483647), (90, [7], [], -2147483648), (91, [7], [], 2147483647)], (51, [10], [], 0)),
  ([(20, [15, 3], [1], 0), (23, [3], [1], 10), (51, [13], [], 0), (20, [13, 3], [1], 0), (23, [3], [1], 10), (23, [10], [1], 7), (20, [10, 3], [1], 0), (23, [3], [1], 10), (51, [9], [], 0), (20, [9, 3], [1], 0), (23, [3], [1], 10), (42, [7, 8], [], 0), (0, [8], [], 20), (5000, [0, 1, 2, 3, 4, 5, 6, 7], [0, 1], 25), (51, [0], [], 0), (0, [1], [], 23), (90, [2], [], -2147483648), (91, [2], [], 2147483647), (51, [3], [], 0), (0, [4], [], 23), (90, [5], [], -2147483648), (91, [5], [], 2147483647), (90, [6], [], -2147483648), (91, [6], [], 2147483647), (90, [7], [], -2147483648), (91, [7], [], 2147483647)], (51, [15], [], 0)),
  ([(20, [14, 3], [1], 0), (23, [3], [1], 10), (23, [3], [1], 10), (23, [10], [1], 7), (20, [10, 3], [1], 0), (23, [3], [1], 10), (51, [9], [], 0), (20, [9, 3], [1], 0), (23, [3], [1], 10), (42, [7, 8], [], 0), (0, [8], [], 20), (5000, [0, 1, 2, 3, 4, 5, 6, 7], [0, 1], 25), (51, [0], [], 0), (0, [1], [], 23), (90, [2], [], -2147483648), (91, [2], [], 2147483647), (51, [3], [], 0), (0, [4], [], 23), (90, [5], [], -2147483648), (91, [5], [], 2147483647), (90, [6], [], -2147483648), (91, [6], [], 2147483647), (90, [7], [], -2147483648), (91, [7], [], 2147483647)], (51, [14], [], 0)),
  ([(20, [18, 3], [2], 0), (23, [3], [2], 10), (80, [3, 17, 16], [2, 1], 0), (0, [17], [], 1), (23, [3], [1], 10), (1, [16, 13, 15], [], 0), (20, [15, 14], [1], 1), (23, [14], [1], 7), (90, [15], [], -2147483648), (91, [15], [], 2147483647), (20, [14, 3], [1], 0), (23, [3], [1], 10), (20, [13, 3], [1], 1), (23, [3], [1], 10), (90, [13], [], -2147483648), (91, [13], [], 2147483647), (23, [10], [1], 7), (20, [10, 3], [1], 0), (23, [3], [1], 10), (51, [9], [], 0), (20, [9, 3], [1], 0), (23, [3], [1], 10), (42, [7, 8], [], 0), (0, [8], [], 20), (5000, [0, 1, 2, 3, 4, 5, 6, 7], [0, 1], 25), (51, [0], [], 0), (0, [1], [], 23), (90, [2], [], -2147483648), (91, [2], [], 2147483647), (51, [3], [], 0), (0, [4], [], 23), (90, [5], [], -2147483648), (91, [5], [], 2147483647), (90, [6], [], -2147483648), (91, [6], [], 2147483647), (90, [7], [], -2147483648), (91, [7], [], 2147483647)], (51, [18], [], 0)),
  ([(20, [21, 3], [2], 0), (23, [3], [2], 10), (23, [18], [2], 7), (20, [18, 3], [2], 0), (23, [3], [2], 10), (80, [3, 17, 16], [2, 1], 0), (0, [17], [], 1), (23, [3], [1], 10), (1, [16, 13, 15], [], 0), (20, [15, 14], [1], 1), (23, [14], [1], 7), (90, [15], [], -2147483648), (91, [15], [], 2147483647), (20, [14, 3], [1], 0), (23, [3], [1], 10), (20, [13, 3], [1], 1), (23, [3], [1], 10), (90, [13], [], -2147483648), (91, [13], [], 2147483647), (23, [10], [1], 7), (20, [10, 3], [1], 0), (23, [3], [1], 10), (51, [9], [], 0), (20, [9, 3], [1], 0), (23, [3], [1], 10), (42, [7, 8], [], 0), (0, [8], [], 20), (5000, [0, 1, 2, 3, 4, 5, 6, 7], [0, 1], 25), (51, [0], [], 0), (0, [1], [], 23), (90, [2], [], -2147483648), (91, [2], [], 2147483647), (51, [3], [], 0), (0, [4], [], 23), (90, [5], [], -2147483648), (91, [5], [], 2147483647), (90, [6], [], -2147483648), (91, [6], [], 2147483647), (90, [7], [], -2147483648), (91, [7], [], 2147483647)], (51, [21], [], 0)),
  ([(20, [24, 3], [3], 0), (23, [3], [3], 10), (1319, [23, 20, 22], [2, 3], 0), (90, [23], [], -2147483648), (91, [23], [], 2147483647), (20, [22, 21], [2], 2), (23, [21], [2], 7), (90, [22], [], -2147483648), (91, [22], [], 2147483647), (20, [21, 3], [2], 0), (23, [3], [2], 10), (1, [20, 6, 19], [], 0), (20, [19, 18], [2], 1), (23, [18], [2], 7), (90, [19], [], -2147483648), (91, [19], [], 2147483647), (20, [18, 3], [2], 0), (23, [3], [2], 10), (80, [3, 17, 16], [2, 1], 0), (0, [17], [], 1), (23, [3], [1], 10), (1, [16, 13, 15], [], 0), (20, [15, 14], [1], 1), (23, [14], [1], 7), (90, [15], [], -2147483648), (91, [15], [], 2147483647), (20, [14, 3], [1], 0), (23, [3], [1], 10), (20, [13, 3], [1], 1), (23, [3], [1], 10), (90, [13], [], -2147483648), (91, [13], [], 2147483647), (23, [10], [1], 7), (20, [10, 3], [1], 0), (23, [3], [1], 10), (51, [9], [], 0), (20, [9, 3], [1], 0), (23, [3], [1], 10), (42, [7, 8], [], 0), (0, [8], [], 20), (5000, [0, 1, 2, 3, 4, 5, 6, 7], [0, 1], 25), (51, [0], [], 0), (0, [1], [], 23), (90, [2], [], -2147483648), (91, [2], [], 2147483647), (51, [3], [], 0), (0, [4], [], 23), (90, [5], [], -2147483648), (91, [5], [], 2147483647), (90, [6], [], -2147483648), (91, [6], [], 2147483647), (90, [7], [], -2147483648), (91, [7], [], 2147483647)], (51, [24], [], 0)),
  ([(10, [28, 7], [], 1), (42, [7, 8], [], 0), (0, [8], [], 20), (5000, [0, 1, 2, 3, 4, 5, 6, 7], [0, 1], 25), (90, [7], [], -2147483648), (91, [7], [], 2147483647)], (4000, [3, 4, 5, 23, 28], [5], 25))]
theorem r_152_25 : vCovO true (eRc e_152 L_152 cs_152 2000 (25, [(0, (3, 10, -1, 0)), (1, (3, 0, 23, 0)), (2, (0, -2147483648, 2147483647, 0)), (3, (0, -2147483648, 2147483647, 0)), (4, (0, -2147483648, 2147483647, 0))])) p_152_25 = true := by decide +kernel
theorem m_152 (d : Nat) : eC e_152 (d + 3) := eC_ok (e := e_152) (L := L_152) (cs := cs_152) (n := 2000) (d := d + 2) (A := A_152) (μ := mu_152) (tp := true) (p0 := p_152_s) rfl ⟨m_2 (d + 1), ⟨m_9 d, ⟨m_317 (d + 1), ⟨m_319 (d + 1), trivial⟩⟩⟩⟩ rfl (.inr pre0_ok) (by decide +kernel) (fun _ => post0_ok) r_152_s (allC c_152_s_0 allN) (allC (.inl ⟨p_152_25, r_152_25, fun q0 => (allC c_152_25_0 (allC c_152_25_1 (allC c_152_25_2 (allC c_152_25_3 (allC c_152_25_4 (allC c_152_25_5 (allC c_152_25_6 (allC c_152_25_7 (allC c_152_25_8 allN)))))))))⟩) allN)
/- Mixer.aroundLoop (LMixStage$Sound;I)I -/
noncomputable def s_38 : vM := ([(3, 7, -1, 0), (0, -2147483648, 2147483647, 0)], (0, -2147483648, 2147483647, 0), 0, 0, [])
noncomputable def e_38 : vE := (38, s_38, pre0, post0)
noncomputable def L_38 : List vE := []
def cs_38 : List vC := []
def A_38 : Int → List Int → gH → gH → Prop := fun c xs h0 h => True
def mu_38 : Int → List Int → gH → gH → Nat := fun c xs h0 h => 0
theorem q_38_0 {n0 n1 n2 n3 n4 n5 n6 n7 n8 : Int} {H0 : gH} (f0 : n0 ≤ 2147483647) (f1 : (-2147483648) ≤ n0) (f2 : 0 ≤ n1) (f3 : hWt T0 H0 ∧ True) (f4 : n2 ≤ 2147483647) (f5 : (-2147483648) ≤ n2) (f6 : hK H0 (n1).toNat = 7) (f7 : n2 = hV H0 (n1).toNat 2) (f8 : n3 ≤ 2147483647) (f9 : (-2147483648) ≤ n3) (f10 : hK H0 (n1).toNat = 7) (f11 : n3 = hV H0 (n1).toNat 1) (f12 : n4 = w32 (n2 - n3)) (f13 : n5 ≤ 2147483647) (f14 : (-2147483648) ≤ n5) (f15 : hK H0 (n1).toNat = 7) (f16 : n5 = hV H0 (n1).toNat 2) (f17 : n5 ≤ n0) (f18 : 0 < n4) (f19 : n6 ≤ 2147483647) (f20 : (-2147483648) ≤ n6) (f21 : hK H0 (n1).toNat = 7) (f22 : n6 = hV H0 (n1).toNat 1) (f23 : n7 ≤ 2147483647) (f24 : (-2147483648) ≤ n7) (f25 : hK H0 (n1).toNat = 7) (f26 : n7 = hV H0 (n1).toNat 1) (f27 : n8 = w32 (n0 - n7)) : n4 ≠ 0 := by
  have e0 : n2 = hV H0 (n1).toNat 2 := f7
  have e1 : n3 = hV H0 (n1).toNat 1 := f11
  have e2 : n5 = hV H0 (n1).toNat 2 := f16
  have e3 : n6 = hV H0 (n1).toNat 1 := f22
  have e4 : n7 = hV H0 (n1).toNat 1 := f26
  unfold w32 at f12 f27
  omega
theorem c_38_s_0 : vOkm T0 (eP e_38 L_38 A_38 mu_38 none) 2 ([(2, [8, 1, 7], [], 0), (20, [7, 0], [0], 1), (23, [0], [0], 7), (90, [7], [], -2147483648), (91, [7], [], 2147483647), (20, [6, 0], [0], 1), (23, [0], [0], 7), (90, [6], [], -2147483648), (91, [6], [], 2147483647), (34, [4], [], 0), (43, [1, 5], [], 0), (20, [5, 0], [0], 2), (23, [0], [0], 7), (90, [5], [], -2147483648), (91, [5], [], 2147483647), (2, [4, 2, 3], [], 0), (20, [3, 0], [0], 1), (23, [0], [0], 7), (90, [3], [], -2147483648), (91, [3], [], 2147483647), (20, [2, 0], [0], 2), (23, [0], [0], 7), (90, [2], [], -2147483648), (91, [2], [], 2147483647), (6000, [0, 1], [0], 0), (51, [0], [], 0), (90, [1], [], -2147483648), (91, [1], [], 2147483647)], (72, [4], [], 0)) := vOk_inI fun ρ η f0 f1 f2 f3 f4 f5 f6 f7 f8 f9 f10 f11 f12 f13 f14 f15 f16 f17 f18 f19 f20 f21 f22 f23 f24 f25 f26 f27 => q_38_0 (n0 := ρ 1) (n1 := ρ 0) (n2 := ρ 2) (n3 := ρ 3) (n4 := ρ 4) (n5 := ρ 5) (n6 := ρ 6) (n7 := ρ 7) (n8 := ρ 8) (H0 := η 0) f27 f26 f25 f24 f23 f22 f21 f20 f19 f18 f17 f16 f15 f14 f13 f12 f11 f10 f9 f8 f7 f6 f5 f4 f3 f2 f1 f0
def p_38_s : List vG := [([(2, [8, 1, 7], [], 0), (20, [7, 0], [0], 1), (23, [0], [0], 7), (90, [7], [], -2147483648), (91, [7], [], 2147483647), (20, [6, 0], [0], 1), (23, [0], [0], 7), (90, [6], [], -2147483648), (91, [6], [], 2147483647), (34, [4], [], 0), (43, [1, 5], [], 0), (20, [5, 0], [0], 2), (23, [0], [0], 7), (90, [5], [], -2147483648), (91, [5], [], 2147483647), (2, [4, 2, 3], [], 0), (20, [3, 0], [0], 1), (23, [0], [0], 7), (90, [3], [], -2147483648), (91, [3], [], 2147483647), (20, [2, 0], [0], 2), (23, [0], [0], 7), (90, [2], [], -2147483648), (91, [2], [], 2147483647), (6000, [0, 1], [0], 0), (51, [0], [], 0), (90, [1], [], -2147483648), (91, [1], [], 2147483647)], (72, [4], [], 0))]
theorem r_38_s : vCovO true (eR0 e_38 L_38 cs_38 2000) p_38_s = true := by decide +kernel
theorem m_38 (d : Nat) : eC e_38 (d + 1) := eC_ok (e := e_38) (L := L_38) (cs := cs_38) (n := 2000) (d := d + 0) (A := A_38) (μ := mu_38) (tp := true) (p0 := p_38_s) rfl trivial rfl (.inr pre0_ok) (by decide +kernel) (fun _ => post0_ok) r_38_s (allC c_38_s_0 allN) allN
/- View.sampleAt (I)I -/
noncomputable def s_153 : vM := ([(3, 10, -1, 0), (0, -2147483648, 2147483647, 0)], (0, -2147483648, 2147483647, 0), 0, 0, [])
noncomputable def e_153 : vE := (153, s_153, pre0, post0)
noncomputable def L_153 : List vE := [e_199k780]
def cs_153 : List vC := []
def A_153 : Int → List Int → gH → gH → Prop := fun c xs h0 h => True
def mu_153 : Int → List Int → gH → gH → Nat := fun c xs h0 h => 0
theorem q_153_0 {n0 n1 n2 n3 : Int} {H0 : gH} (f0 : n0 ≤ 2147483647) (f1 : (-2147483648) ≤ n0) (f2 : 0 ≤ n1) (f3 : hWt T0 H0 ∧ True) (f4 : hK H0 (n1).toNat = 10) (f5 : n2 = hV H0 (n1).toNat 0) (f6 : 0 ≤ n2) (f7 : hK H0 (n1).toNat = 10) (f8 : n3 = hV H0 (n1).toNat 0) : 0 ≤ n3 := by
  have e0 : n2 = hV H0 (n1).toNat 0 := f5
  have e1 : n3 = hV H0 (n1).toNat 0 := f8
  omega
theorem c_153_s_0 : vOkm T0 (eP e_153 L_153 A_153 mu_153 none) 2 ([(20, [3, 0], [0], 0), (23, [0], [0], 10), (51, [2], [], 0), (20, [2, 0], [0], 0), (23, [0], [0], 10), (6000, [0, 1], [0], 0), (51, [0], [], 0), (90, [1], [], -2147483648), (91, [1], [], 2147483647)], (51, [3], [], 0)) := vOk_inI fun ρ η f0 f1 f2 f3 f4 f5 f6 f7 f8 => q_153_0 (n0 := ρ 1) (n1 := ρ 0) (n2 := ρ 2) (n3 := ρ 3) (H0 := η 0) f8 f7 f6 f5 f4 f3 f2 f1 f0
theorem q_153_1 {n0 n1 n2 n3 n4 n5 : Int} {H0 : gH} (f0 : n0 ≤ 2147483647) (f1 : (-2147483648) ≤ n0) (f2 : 0 ≤ n1) (f3 : hWt T0 H0 ∧ True) (f4 : hK H0 (n1).toNat = 10) (f5 : n2 = hV H0 (n1).toNat 0) (f6 : 0 ≤ n2) (f7 : hK H0 (n1).toNat = 10) (f8 : n3 = hV H0 (n1).toNat 0) (f9 : hK H0 (n3).toNat = 7) (f10 : 0 ≤ n0) (f11 : n4 ≤ 2147483647) (f12 : (-2147483648) ≤ n4) (f13 : hK H0 (n1).toNat = 10) (f14 : n4 = hV H0 (n1).toNat 2) (f15 : n0 < n4) (f16 : hK H0 (n1).toNat = 10) (f17 : n5 = hV H0 (n1).toNat 0) : 0 ≤ n5 := by
  have e0 : n2 = hV H0 (n1).toNat 0 := f5
  have e1 : n3 = hV H0 (n1).toNat 0 := f8
  have e2 : n4 = hV H0 (n1).toNat 2 := f14
  have e3 : n5 = hV H0 (n1).toNat 0 := f17
  omega
theorem c_153_s_1 : vOkm T0 (eP e_153 L_153 A_153 mu_153 none) 2 ([(20, [7, 0], [0], 0), (23, [0], [0], 10), (42, [1, 6], [], 0), (20, [6, 0], [0], 2), (23, [0], [0], 10), (90, [6], [], -2147483648), (91, [6], [], 2147483647), (33, [1], [], 0), (23, [3], [0], 7), (20, [3, 0], [0], 0), (23, [0], [0], 10), (51, [2], [], 0), (20, [2, 0], [0], 0), (23, [0], [0], 10), (6000, [0, 1], [0], 0), (51, [0], [], 0), (90, [1], [], -2147483648), (91, [1], [], 2147483647)], (51, [7], [], 0)) := vOk_inI fun ρ η f0 f1 f2 f3 f4 f5 f6 f7 f8 f9 f10 f11 f12 f13 f14 f15 f16 f17 => q_153_1 (n0 := ρ 1) (n1 := ρ 0) (n2 := ρ 2) (n3 := ρ 3) (n4 := ρ 6) (n5 := ρ 7) (H0 := η 0) f17 f16 f15 f14 f13 f12 f11 f10 f9 f8 f7 f6 f5 f4 f3 f2 f1 f0
def p_153_s : List vG := [([(20, [3, 0], [0], 0), (23, [0], [0], 10), (51, [2], [], 0), (20, [2, 0], [0], 0), (23, [0], [0], 10), (6000, [0, 1], [0], 0), (51, [0], [], 0), (90, [1], [], -2147483648), (91, [1], [], 2147483647)], (51, [3], [], 0)),
  ([(20, [7, 0], [0], 0), (23, [0], [0], 10), (42, [1, 6], [], 0), (20, [6, 0], [0], 2), (23, [0], [0], 10), (90, [6], [], -2147483648), (91, [6], [], 2147483647), (33, [1], [], 0), (23, [3], [0], 7), (20, [3, 0], [0], 0), (23, [0], [0], 10), (51, [2], [], 0), (20, [2, 0], [0], 0), (23, [0], [0], 10), (6000, [0, 1], [0], 0), (51, [0], [], 0), (90, [1], [], -2147483648), (91, [1], [], 2147483647)], (51, [7], [], 0))]
theorem r_153_s : vCovO true (eR0 e_153 L_153 cs_153 2000) p_153_s = true := by decide +kernel
theorem m_153 (d : Nat) : eC e_153 (d + 2) := eC_ok (e := e_153) (L := L_153) (cs := cs_153) (n := 2000) (d := d + 1) (A := A_153) (μ := mu_153) (tp := true) (p0 := p_153_s) rfl ⟨m_199k780 d, trivial⟩ rfl (.inr pre0_ok) (by decide +kernel) (fun _ => post0_ok) r_153_s (allC c_153_s_0 (allC c_153_s_1 allN)) allN
/- Mixer.spread (LMixStage$Cue;II)V -/
noncomputable def s_37 : vM := ([(3, 2, 274, 0), (3, 1, -1, 0), (0, -2147483648, 2147483647, 0), (0, -2147483648, 2147483647, 0)], (9, 0, 0, 0), 0, 0, [(10, 0), (10, 1), (10, 2), (748, 0)])
noncomputable def e_37 : vE := (37, s_37, pre0, post0)
noncomputable def L_37 : List vE := [e_2, e_8, e_38, e_152, e_153, e_201k748]
def cs_37 : List vC := [(92, [(0, (3, 2, 274, 0)), (1, (3, 1, -1, 0)), (2, (0, -2147483648, 2147483647, 0)), (3, (0, -2147483648, 2147483647, 0)), (4, (2, 7, -1, 0)), (5, (0, -2147483648, 2147483647, 0)), (6, (0, -2147483648, 2147483647, 0)), (7, (0, -2147483648, 2147483647, 0)), (8, (0, -2147483648, 2147483647, 0))])]
def Ab_37_92 (a0 a1 a2 a3 x0 x1 x2 x3 x4 x5 x6 x7 x8 : Int) (h0 h : gH) : Prop := x5 ≠ 0 → 0 ≤ x4
def mub_37_92 (a0 a1 a2 a3 x0 x1 x2 x3 x4 x5 x6 x7 x8 : Int) (h0 h : gH) : Nat := (2147483648 - x8).toNat
def A_37 : Int → List Int → gH → gH → Prop := fun c xs h0 h => match c.toNat with
  | 92 => (match xs with
    | [a0, a1, a2, a3, x0, x1, x2, x3, x4, x5, x6, x7, x8] => Ab_37_92 a0 a1 a2 a3 x0 x1 x2 x3 x4 x5 x6 x7 x8 h0 h
    | _ => False)
  | _ => True
def mu_37 : Int → List Int → gH → gH → Nat := fun c xs h0 h => match c.toNat with
  | 92 => (match xs with
    | [a0, a1, a2, a3, x0, x1, x2, x3, x4, x5, x6, x7, x8] => mub_37_92 a0 a1 a2 a3 x0 x1 x2 x3 x4 x5 x6 x7 x8 h0 h
    | _ => 0)
  | _ => 0
theorem q_37_0 {n0 n1 n2 n3 n4 n5 n6 n7 n8 : Int} {H0 H1 : gH} (f0 : n0 = -1) (f1 : n1 = 0) (f2 : n2 = 0) : Ab_37_92 n3 n4 n5 n6 n3 n4 n5 n6 n0 n1 n7 n8 n2 H0 H1 ∧ ∀ q, none = some q → mub_37_92 n3 n4 n5 n6 n3 n4 n5 n6 n0 n1 n7 n8 n2 H0 H1 < q := by
  unfold Ab_37_92
  refine ⟨?_, fun q hq => ?_⟩
  · omega
  · exact nomatch hq
theorem c_37_s_0 : vOkm T0 (eP e_37 L_37 A_37 mu_37 none) 4 ([(0, [22], [], 0), (0, [10], [], 0), (50, [6], [], 0)], (4000, [0, 1, 2, 3, 6, 10, 16, 21, 22], [3], 92)) := vOk_inI fun ρ η f0 f1 f2 => q_37_0 (n0 := ρ 6) (n1 := ρ 10) (n2 := ρ 22) (n3 := ρ 0) (n4 := ρ 1) (n5 := ρ 2) (n6 := ρ 3) (n7 := ρ 16) (n8 := ρ 21) (H0 := η 0) (H1 := η 3) f2 f1 f0
theorem c_37_s_1 : vOkm T0 (eP e_37 L_37 A_37 mu_37 none) 4 ([(0, [20], [], 0), (0, [10], [], 0), (50, [6], [], 0)], (4000, [0, 1, 2, 3, 6, 10, 16, 19, 20], [3], 92)) := vOk_inI fun ρ η f0 f1 f2 => q_37_0 (n0 := ρ 6) (n1 := ρ 10) (n2 := ρ 20) (n3 := ρ 0) (n4 := ρ 1) (n5 := ρ 2) (n6 := ρ 3) (n7 := ρ 16) (n8 := ρ 19) (H0 := η 0) (H1 := η 3) f2 f1 f0
theorem q_37_1 {n0 n1 n2 n3 n4 n5 n6 n7 n8 : Int} {H0 H1 : gH} (f0 : 0 ≤ n0) (f1 : n1 = 0) (f2 : n2 = 0) : Ab_37_92 n3 n4 n5 n6 n3 n4 n5 n6 n0 n1 n7 n8 n2 H0 H1 ∧ ∀ q, none = some q → mub_37_92 n3 n4 n5 n6 n3 n4 n5 n6 n0 n1 n7 n8 n2 H0 H1 < q := by
  unfold Ab_37_92
  refine ⟨?_, fun q hq => ?_⟩
  · omega
  · exact nomatch hq
theorem c_37_s_2 : vOkm T0 (eP e_37 L_37 A_37 mu_37 none) 4 ([(0, [24], [], 0), (0, [12], [], 0), (51, [6], [], 0)], (4000, [0, 1, 2, 3, 6, 12, 18, 23, 24], [3], 92)) := vOk_inI fun ρ η f0 f1 f2 => q_37_1 (n0 := ρ 6) (n1 := ρ 12) (n2 := ρ 24) (n3 := ρ 0) (n4 := ρ 1) (n5 := ρ 2) (n6 := ρ 3) (n7 := ρ 18) (n8 := ρ 23) (H0 := η 0) (H1 := η 3) f2 f1 f0
theorem c_37_s_3 : vOkm T0 (eP e_37 L_37 A_37 mu_37 none) 4 ([(0, [22], [], 0), (0, [12], [], 0), (51, [6], [], 0)], (4000, [0, 1, 2, 3, 6, 12, 18, 21, 22], [3], 92)) := vOk_inI fun ρ η f0 f1 f2 => q_37_1 (n0 := ρ 6) (n1 := ρ 12) (n2 := ρ 22) (n3 := ρ 0) (n4 := ρ 1) (n5 := ρ 2) (n6 := ρ 3) (n7 := ρ 18) (n8 := ρ 21) (H0 := η 0) (H1 := η 3) f2 f1 f0
theorem q_37_2 {n0 n1 n2 n3 n4 n5 n6 n7 n8 : Int} {H0 H1 : gH} (f0 : 0 ≤ n0) (f1 : n1 = 1) (f2 : n2 = 0) : Ab_37_92 n3 n4 n5 n6 n3 n4 n5 n6 n0 n1 n7 n8 n2 H0 H1 ∧ ∀ q, none = some q → mub_37_92 n3 n4 n5 n6 n3 n4 n5 n6 n0 n1 n7 n8 n2 H0 H1 < q := by
  unfold Ab_37_92
  refine ⟨?_, fun q hq => ?_⟩
  · omega
  · exact nomatch hq
theorem c_37_s_4 : vOkm T0 (eP e_37 L_37 A_37 mu_37 none) 4 ([(0, [24], [], 0), (0, [12], [], 1), (51, [6], [], 0)], (4000, [0, 1, 2, 3, 6, 12, 18, 23, 24], [3], 92)) := vOk_inI fun ρ η f0 f1 f2 => q_37_2 (n0 := ρ 6) (n1 := ρ 12) (n2 := ρ 24) (n3 := ρ 0) (n4 := ρ 1) (n5 := ρ 2) (n6 := ρ 3) (n7 := ρ 18) (n8 := ρ 23) (H0 := η 0) (H1 := η 3) f2 f1 f0
theorem c_37_s_5 : vOkm T0 (eP e_37 L_37 A_37 mu_37 none) 4 ([(0, [22], [], 0), (0, [12], [], 1), (51, [6], [], 0)], (4000, [0, 1, 2, 3, 6, 12, 18, 21, 22], [3], 92)) := vOk_inI fun ρ η f0 f1 f2 => q_37_2 (n0 := ρ 6) (n1 := ρ 12) (n2 := ρ 22) (n3 := ρ 0) (n4 := ρ 1) (n5 := ρ 2) (n6 := ρ 3) (n7 := ρ 18) (n8 := ρ 21) (H0 := η 0) (H1 := η 3) f2 f1 f0
def p_37_s : List vG := [([(0, [22], [], 0), (0, [10], [], 0), (50, [6], [], 0)], (4000, [0, 1, 2, 3, 6, 10, 16, 21, 22], [3], 92)),
  ([(0, [20], [], 0), (0, [10], [], 0), (50, [6], [], 0)], (4000, [0, 1, 2, 3, 6, 10, 16, 19, 20], [3], 92)),
  ([(0, [24], [], 0), (0, [12], [], 0), (51, [6], [], 0)], (4000, [0, 1, 2, 3, 6, 12, 18, 23, 24], [3], 92)),
  ([(0, [22], [], 0), (0, [12], [], 0), (51, [6], [], 0)], (4000, [0, 1, 2, 3, 6, 12, 18, 21, 22], [3], 92)),
  ([(0, [24], [], 0), (0, [12], [], 1), (51, [6], [], 0)], (4000, [0, 1, 2, 3, 6, 12, 18, 23, 24], [3], 92)),
  ([(0, [22], [], 0), (0, [12], [], 1), (51, [6], [], 0)], (4000, [0, 1, 2, 3, 6, 12, 18, 21, 22], [3], 92))]
theorem r_37_s : vCovO true (eR0 e_37 L_37 cs_37 2000) p_37_s = true := by decide +kernel
theorem q_37_3 {q0 : Nat} {n0 n1 n2 n3 n4 n5 n6 n7 n8 n9 n10 n11 n12 n13 : Int} {H0 H1 H2 : gH} (f0 : n0 ≤ 2147483647) (f1 : (-2147483648) ≤ n0) (f2 : n1 ≤ 2147483647) (f3 : (-2147483648) ≤ n1) (f4 : n2 ≤ 2147483647) (f5 : (-2147483648) ≤ n2) (f6 : n3 ≤ 2147483647) (f7 : (-2147483648) ≤ n3) (f8 : (hLe T0 H0 H1 ∧ hFr s_37.2.2.2.2 H0 H1 ∧ hWt T0 H1) ∧ (Ab_37_92 n4 n5 n6 n7 n8 n9 n10 n3 n11 n2 n1 n12 n0 H0 H1 ∧ True) ∧ some q0 = some (mub_37_92 n4 n5 n6 n7 n8 n9 n10 n3 n11 n2 n1 n12 n0 H0 H1)) (f9 : n0 < n3) (f10 : n0 < n1) (f11 : n13 = w32 (n0 + 1)) : Ab_37_92 n4 n5 n6 n7 n8 n9 n10 n3 n11 n2 n1 n12 n13 H0 H2 ∧ ∀ q, some q0 = some q → mub_37_92 n4 n5 n6 n7 n8 n9 n10 n3 n11 n2 n1 n12 n13 H0 H2 < q := by
  have g4 := f8.2.1.1
  unfold Ab_37_92 at g4
  have g5 := Option.some.inj f8.2.2
  unfold mub_37_92 at g5
  unfold Ab_37_92
  unfold mub_37_92
  unfold w32 at f11
  refine ⟨?_, fun q hq => ?_⟩
  · omega
  · have g6 := Option.some.inj hq
    subst g6
    omega
theorem c_37_92_0 {q0 : Nat} : vOkm T0 (eP e_37 L_37 A_37 mu_37 (some q0)) 4 ([(10, [18, 12], [], 1), (42, [12, 10], [], 0), (42, [12, 7], [], 0), (5000, [0, 1, 2, 3, 4, 5, 6, 7, 8, 9, 10, 11, 12], [0, 1], 92), (90, [7], [], -2147483648), (91, [7], [], 2147483647), (90, [9], [], -2147483648), (91, [9], [], 2147483647), (90, [10], [], -2147483648), (91, [10], [], 2147483647), (90, [12], [], -2147483648), (91, [12], [], 2147483647)], (4000, [4, 5, 6, 7, 8, 9, 10, 11, 18], [2], 92)) := vOk_inI fun ρ η f0 f1 f2 f3 f4 f5 f6 f7 f8 f9 f10 f11 => q_37_3 (q0 := q0) (n0 := ρ 12) (n1 := ρ 10) (n2 := ρ 9) (n3 := ρ 7) (n4 := ρ 0) (n5 := ρ 1) (n6 := ρ 2) (n7 := ρ 3) (n8 := ρ 4) (n9 := ρ 5) (n10 := ρ 6) (n11 := ρ 8) (n12 := ρ 11) (n13 := ρ 18) (H0 := η 0) (H1 := η 1) (H2 := η 2) f11 f10 f9 f8 f7 f6 f5 f4 f3 f2 f1 f0
theorem q_37_4 {q0 : Nat} {n0 n1 n2 n3 n4 n5 n6 n7 n8 n9 n10 n11 n12 n13 : Int} {H0 H1 H2 : gH} (f0 : n0 ≤ 2147483647) (f1 : (-2147483648) ≤ n0) (f2 : n1 ≤ 2147483647) (f3 : (-2147483648) ≤ n1) (f4 : n2 ≤ 2147483647) (f5 : (-2147483648) ≤ n2) (f6 : n3 ≤ 2147483647) (f7 : (-2147483648) ≤ n3) (f8 : (hLe T0 H0 H1 ∧ hFr s_37.2.2.2.2 H0 H1 ∧ hWt T0 H1) ∧ (Ab_37_92 n4 n5 n6 n7 n8 n9 n10 n3 n11 n2 n1 n12 n0 H0 H1 ∧ True) ∧ some q0 = some (mub_37_92 n4 n5 n6 n7 n8 n9 n10 n3 n11 n2 n1 n12 n0 H0 H1)) (f9 : n0 < n3) (f10 : n1 ≤ n0) (f11 : n13 = w32 (n0 + 1)) : Ab_37_92 n4 n5 n6 n7 n8 n9 n10 n3 n11 n2 n1 n12 n13 H0 H2 ∧ ∀ q, some q0 = some q → mub_37_92 n4 n5 n6 n7 n8 n9 n10 n3 n11 n2 n1 n12 n13 H0 H2 < q := by
  have g4 := f8.2.1.1
  unfold Ab_37_92 at g4
  have g5 := Option.some.inj f8.2.2
  unfold mub_37_92 at g5
  unfold Ab_37_92
  unfold mub_37_92
  unfold w32 at f11
  refine ⟨?_, fun q hq => ?_⟩
  · omega
  · have g6 := Option.some.inj hq
    subst g6
    omega
theorem c_37_92_1 {q0 : Nat} : vOkm T0 (eP e_37 L_37 A_37 mu_37 (some q0)) 4 ([(10, [19, 12], [], 1), (43, [12, 10], [], 0), (42, [12, 7], [], 0), (5000, [0, 1, 2, 3, 4, 5, 6, 7, 8, 9, 10, 11, 12], [0, 1], 92), (90, [7], [], -2147483648), (91, [7], [], 2147483647), (90, [9], [], -2147483648), (91, [9], [], 2147483647), (90, [10], [], -2147483648), (91, [10], [], 2147483647), (90, [12], [], -2147483648), (91, [12], [], 2147483647)], (4000, [4, 5, 6, 7, 8, 9, 10, 11, 19], [2], 92)) := vOk_inI fun ρ η f0 f1 f2 f3 f4 f5 f6 f7 f8 f9 f10 f11 => q_37_4 (q0 := q0) (n0 := ρ 12) (n1 := ρ 10) (n2 := ρ 9) (n3 := ρ 7) (n4 := ρ 0) (n5 := ρ 1) (n6 := ρ 2) (n7 := ρ 3) (n8 := ρ 4) (n9 := ρ 5) (n10 := ρ 6) (n11 := ρ 8) (n12 := ρ 11) (n13 := ρ 19) (H0 := η 0) (H1 := η 1) (H2 := η 2) f11 f10 f9 f8 f7 f6 f5 f4 f3 f2 f1 f0
theorem c_37_92_2 {q0 : Nat} : vOkm T0 (eP e_37 L_37 A_37 mu_37 (some q0)) 4 ([(10, [20, 12], [], 1), (43, [12, 10], [], 0), (42, [12, 7], [], 0), (5000, [0, 1, 2, 3, 4, 5, 6, 7, 8, 9, 10, 11, 12], [0, 1], 92), (90, [7], [], -2147483648), (91, [7], [], 2147483647), (90, [9], [], -2147483648), (91, [9], [], 2147483647), (90, [10], [], -2147483648), (91, [10], [], 2147483647), (90, [12], [], -2147483648), (91, [12], [], 2147483647)], (4000, [4, 5, 6, 7, 8, 9, 10, 11, 20], [2], 92)) := vOk_inI fun ρ η f0 f1 f2 f3 f4 f5 f6 f7 f8 f9 f10 f11 => q_37_4 (q0 := q0) (n0 := ρ 12) (n1 := ρ 10) (n2 := ρ 9) (n3 := ρ 7) (n4 := ρ 0) (n5 := ρ 1) (n6 := ρ 2) (n7 := ρ 3) (n8 := ρ 4) (n9 := ρ 5) (n10 := ρ 6) (n11 := ρ 8) (n12 := ρ 11) (n13 := ρ 20) (H0 := η 0) (H1 := η 1) (H2 := η 2) f11 f10 f9 f8 f7 f6 f5 f4 f3 f2 f1 f0
theorem q_37_5 {q0 : Nat} {n0 n1 n2 n3 n4 n5 n6 n7 n8 n9 n10 n11 n12 n13 n14 n15 n16 : Int} {H0 H1 : gH} (f0 : n0 ≤ 2147483647) (f1 : (-2147483648) ≤ n0) (f2 : n1 ≤ 2147483647) (f3 : (-2147483648) ≤ n1) (f4 : n2 ≤ 2147483647) (f5 : (-2147483648) ≤ n2) (f6 : n3 ≤ 2147483647) (f7 : (-2147483648) ≤ n3) (f8 : n4 ≤ 2147483647) (f9 : (-2147483648) ≤ n4) (f10 : n5 ≤ 2147483647) (f11 : (-2147483648) ≤ n5) (f12 : 0 ≤ n6) (f13 : n7 = 274) (f14 : n8 ≤ 2147483647) (f15 : (-2147483648) ≤ n8) (f16 : n9 ≤ 2147483647) (f17 : (-2147483648) ≤ n9) (f18 : 0 ≤ n10) (f19 : n11 = 274) (f20 : (hLe T0 H0 H1 ∧ hFr s_37.2.2.2.2 H0 H1 ∧ hWt T0 H1) ∧ (Ab_37_92 n11 n10 n9 n8 n7 n6 n5 n4 n12 n3 n2 n1 n0 H0 H1 ∧ True) ∧ some q0 = some (mub_37_92 n11 n10 n9 n8 n7 n6 n5 n4 n12 n3 n2 n1 n0 H0 H1)) (f21 : n0 < n4) (f22 : n2 ≤ n0) (f23 : n13 = w32 (n0 - n2)) (f24 : n13 < n1) (f25 : n14 ≤ 2147483647) (f26 : (-2147483648) ≤ n14) (f27 : hK H1 (n6).toNat = 1) (f28 : n14 = hV H1 (n6).toNat 13) (f29 : 0 < n14) (f30 : hK H1 (n6).toNat = 1) (f31 : n15 = w32 (n0 - n2)) (f32 : hK H1 (n6).toNat = 1) (f33 : n16 ≤ 2147483647) (f34 : (-2147483648) ≤ n16) (f35 : hK H1 (n6).toNat = 1) (f36 : n16 = hV H1 (n6).toNat 13) : n16 ≠ 0 := by
  have g4 := f20.2.1.1
  unfold Ab_37_92 at g4
  have g5 := Option.some.inj f20.2.2
  unfold mub_37_92 at g5
  have e0 : n14 = hV H1 (n6).toNat 13 := f28
  have e1 : n16 = hV H1 (n6).toNat 13 := f36
  unfold w32 at f23 f31
  omega
theorem c_37_92_3 {q0 : Nat} : vOkm T0 (eP e_37 L_37 A_37 mu_37 (some q0)) 4 ([(20, [22, 5], [1], 13), (23, [5], [1], 1), (90, [22], [], -2147483648), (91, [22], [], 2147483647), (23, [5], [1], 1), (2, [19, 12, 10], [], 0), (23, [5], [1], 1), (34, [15], [], 0), (20, [15, 5], [1], 13), (23, [5], [1], 1), (90, [15], [], -2147483648), (91, [15], [], 2147483647), (42, [14, 11], [], 0), (2, [14, 12, 10], [], 0), (43, [12, 10], [], 0), (42, [12, 7], [], 0), (5000, [0, 1, 2, 3, 4, 5, 6, 7, 8, 9, 10, 11, 12], [0, 1], 92), (0, [0], [], 274), (51, [1], [], 0), (90, [2], [], -2147483648), (91, [2], [], 2147483647), (90, [3], [], -2147483648), (91, [3], [], 2147483647), (0, [4], [], 274), (51, [5], [], 0), (90, [6], [], -2147483648), (91, [6], [], 2147483647), (90, [7], [], -2147483648), (91, [7], [], 2147483647), (90, [9], [], -2147483648), (91, [9], [], 2147483647), (90, [10], [], -2147483648), (91, [10], [], 2147483647), (90, [11], [], -2147483648), (91, [11], [], 2147483647), (90, [12], [], -2147483648), (91, [12], [], 2147483647)], (72, [22], [], 0)) := vOk_inI fun ρ η f0 f1 f2 f3 f4 f5 f6 f7 f8 f9 f10 f11 f12 f13 f14 f15 f16 f17 f18 f19 f20 f21 f22 f23 f24 f25 f26 f27 f28 f29 f30 f31 f32 f33 f34 f35 f36 => q_37_5 (q0 := q0) (n0 := ρ 12) (n1 := ρ 11) (n2 := ρ 10) (n3 := ρ 9) (n4 := ρ 7) (n5 := ρ 6) (n6 := ρ 5) (n7 := ρ 4) (n8 := ρ 3) (n9 := ρ 2) (n10 := ρ 1) (n11 := ρ 0) (n12 := ρ 8) (n13 := ρ 14) (n14 := ρ 15) (n15 := ρ 19) (n16 := ρ 22) (H0 := η 0) (H1 := η 1) f36 f35 f34 f33 f32 f31 f30 f29 f28 f27 f26 f25 f24 f23 f22 f21 f20 f19 f18 f17 f16 f15 f14 f13 f12 f11 f10 f9 f8 f7 f6 f5 f4 f3 f2 f1 f0
theorem q_37_6 {q0 : Nat} {n0 n1 n2 n3 n4 n5 n6 n7 n8 n9 n10 n11 n12 n13 : Int} {H0 H1 H2 : gH} (f0 : n0 ≤ 2147483647) (f1 : (-2147483648) ≤ n0) (f2 : n1 ≤ 2147483647) (f3 : (-2147483648) ≤ n1) (f4 : n2 ≤ 2147483647) (f5 : (-2147483648) ≤ n2) (f6 : n3 ≤ 2147483647) (f7 : (-2147483648) ≤ n3) (f8 : (hLe T0 H0 H1 ∧ hFr s_37.2.2.2.2 H0 H1 ∧ hWt T0 H1) ∧ (Ab_37_92 n4 n5 n6 n7 n8 n9 n10 n3 n11 n2 n1 n12 n0 H0 H1 ∧ True) ∧ some q0 = some (mub_37_92 n4 n5 n6 n7 n8 n9 n10 n3 n11 n2 n1 n12 n0 H0 H1)) (f9 : n0 < n3) (f10 : n1 ≤ n0) (f11 : n2 = 0) (f12 : n13 = w32 (n0 + 1)) : Ab_37_92 n4 n5 n6 n7 n8 n9 n10 n3 n11 n2 n1 n12 n13 H0 H2 ∧ ∀ q, some q0 = some q → mub_37_92 n4 n5 n6 n7 n8 n9 n10 n3 n11 n2 n1 n12 n13 H0 H2 < q := by
  have g4 := f8.2.1.1
  unfold Ab_37_92 at g4
  have g5 := Option.some.inj f8.2.2
  unfold mub_37_92 at g5
  unfold Ab_37_92
  unfold mub_37_92
  unfold w32 at f12
  refine ⟨?_, fun q hq => ?_⟩
  · omega
  · have g6 := Option.some.inj hq
    subst g6
    omega
theorem c_37_92_4 {q0 : Nat} : vOkm T0 (eP e_37 L_37 A_37 mu_37 (some q0)) 4 ([(10, [32, 12], [], 1), (30, [9], [], 0), (43, [12, 10], [], 0), (42, [12, 7], [], 0), (5000, [0, 1, 2, 3, 4, 5, 6, 7, 8, 9, 10, 11, 12], [0, 1], 92), (90, [7], [], -2147483648), (91, [7], [], 2147483647), (90, [9], [], -2147483648), (91, [9], [], 2147483647), (90, [10], [], -2147483648), (91, [10], [], 2147483647), (90, [12], [], -2147483648), (91, [12], [], 2147483647)], (4000, [4, 5, 6, 7, 8, 9, 10, 11, 32], [2], 92)) := vOk_inI fun ρ η f0 f1 f2 f3 f4 f5 f6 f7 f8 f9 f10 f11 f12 => q_37_6 (q0 := q0) (n0 := ρ 12) (n1 := ρ 10) (n2 := ρ 9) (n3 := ρ 7) (n4 := ρ 0) (n5 := ρ 1) (n6 := ρ 2) (n7 := ρ 3) (n8 := ρ 4) (n9 := ρ 5) (n10 := ρ 6) (n11 := ρ 8) (n12 := ρ 11) (n13 := ρ 32) (H0 := η 0) (H1 := η 1) (H2 := η 2) f12 f11 f10 f9 f8 f7 f6 f5 f4 f3 f2 f1 f0
theorem c_37_92_5 {q0 : Nat} : vOkm T0 (eP e_37 L_37 A_37 mu_37 (some q0)) 4 ([(10, [33, 12], [], 1), (30, [9], [], 0), (43, [12, 10], [], 0), (42, [12, 7], [], 0), (5000, [0, 1, 2, 3, 4, 5, 6, 7, 8, 9, 10, 11, 12], [0, 1], 92), (90, [7], [], -2147483648), (91, [7], [], 2147483647), (90, [9], [], -2147483648), (91, [9], [], 2147483647), (90, [10], [], -2147483648), (91, [10], [], 2147483647), (90, [12], [], -2147483648), (91, [12], [], 2147483647)], (4000, [4, 5, 6, 7, 8, 9, 10, 11, 33], [3], 92)) := vOk_inI fun ρ η f0 f1 f2 f3 f4 f5 f6 f7 f8 f9 f10 f11 f12 => q_37_6 (q0 := q0) (n0 := ρ 12) (n1 := ρ 10) (n2 := ρ 9) (n3 := ρ 7) (n4 := ρ 0) (n5 := ρ 1) (n6 := ρ 2) (n7 := ρ 3) (n8 := ρ 4) (n9 := ρ 5) (n10 := ρ 6) (n11 := ρ 8) (n12 := ρ 11) (n13 := ρ 33) (H0 := η 0) (H1 := η 1) (H2 := η 3) f12 f11 f10 f9 f8 f7 f6 f5 f4 f3 f2 f1 f0
theorem q_37_7 {q0 : Nat} {n0 n1 n2 n3 n4 n5 n6 n7 n8 n9 n10 n11 n12 n13 n14 : Int} {H0 H1 : gH} (f0 : n0 ≤ 2147483647) (f1 : (-2147483648) ≤ n0) (f2 : n1 ≤ 2147483647) (f3 : (-2147483648) ≤ n1) (f4 : n2 ≤ 2147483647) (f5 : (-2147483648) ≤ n2) (f6 : n3 ≤ 2147483647) (f7 : (-2147483648) ≤ n3) (f8 : n4 ≤ 2147483647) (f9 : (-2147483648) ≤ n4) (f10 : n5 ≤ 2147483647) (f11 : (-2147483648) ≤ n5) (f12 : 0 ≤ n6) (f13 : n7 = 274) (f14 : n8 ≤ 2147483647) (f15 : (-2147483648) ≤ n8) (f16 : n9 ≤ 2147483647) (f17 : (-2147483648) ≤ n9) (f18 : 0 ≤ n10) (f19 : n11 = 274) (f20 : (hLe T0 H0 H1 ∧ hFr s_37.2.2.2.2 H0 H1 ∧ hWt T0 H1) ∧ (Ab_37_92 n11 n10 n9 n8 n7 n6 n5 n4 n12 n3 n2 n1 n0 H0 H1 ∧ True) ∧ some q0 = some (mub_37_92 n11 n10 n9 n8 n7 n6 n5 n4 n12 n3 n2 n1 n0 H0 H1)) (f21 : n0 < n4) (f22 : n2 ≤ n0) (f23 : n13 = w32 (n0 - n2)) (f24 : n13 < n1) (f25 : hK H1 (n6).toNat = 1) (f26 : hK H1 (n6).toNat = 1) (f27 : n14 = w32 (n0 - n2)) (f28 : hK H1 (n6).toNat = 1) (f29 : hK H1 (n6).toNat = 1) (f30 : n3 ≠ 0) : 0 ≤ n12 := by
  have g4 := f20.2.1.1
  unfold Ab_37_92 at g4
  have g5 := Option.some.inj f20.2.2
  unfold mub_37_92 at g5
  unfold w32 at f23 f27
  omega
theorem c_37_92_6 {q0 : Nat} : vOkm T0 (eP e_37 L_37 A_37 mu_37 (some q0)) 4 ([(31, [9], [], 0), (23, [5], [1], 1), (23, [5], [1], 1), (2, [19, 12, 10], [], 0), (23, [5], [1], 1), (23, [5], [1], 1), (42, [14, 11], [], 0), (2, [14, 12, 10], [], 0), (43, [12, 10], [], 0), (42, [12, 7], [], 0), (5000, [0, 1, 2, 3, 4, 5, 6, 7, 8, 9, 10, 11, 12], [0, 1], 92), (0, [0], [], 274), (51, [1], [], 0), (90, [2], [], -2147483648), (91, [2], [], 2147483647), (90, [3], [], -2147483648), (91, [3], [], 2147483647), (0, [4], [], 274), (51, [5], [], 0), (90, [6], [], -2147483648), (91, [6], [], 2147483647), (90, [7], [], -2147483648), (91, [7], [], 2147483647), (90, [9], [], -2147483648), (91, [9], [], 2147483647), (90, [10], [], -2147483648), (91, [10], [], 2147483647), (90, [11], [], -2147483648), (91, [11], [], 2147483647), (90, [12], [], -2147483648), (91, [12], [], 2147483647)], (51, [8], [], 0)) := vOk_inI fun ρ η f0 f1 f2 f3 f4 f5 f6 f7 f8 f9 f10 f11 f12 f13 f14 f15 f16 f17 f18 f19 f20 f21 f22 f23 f24 f25 f26 f27 f28 f29 f30 => q_37_7 (q0 := q0) (n0 := ρ 12) (n1 := ρ 11) (n2 := ρ 10) (n3 := ρ 9) (n4 := ρ 7) (n5 := ρ 6) (n6 := ρ 5) (n7 := ρ 4) (n8 := ρ 3) (n9 := ρ 2) (n10 := ρ 1) (n11 := ρ 0) (n12 := ρ 8) (n13 := ρ 14) (n14 := ρ 19) (H0 := η 0) (H1 := η 1) f30 f29 f28 f27 f26 f25 f24 f23 f22 f21 f20 f19 f18 f17 f16 f15 f14 f13 f12 f11 f10 f9 f8 f7 f6 f5 f4 f3 f2 f1 f0
theorem q_37_8 {q0 : Nat} {n0 n1 n2 n3 n4 n5 n6 n7 n8 n9 n10 n11 n12 n13 : Int} {H0 H1 H2 : gH} (f0 : n0 ≤ 2147483647) (f1 : (-2147483648) ≤ n0) (f2 : n1 ≤ 2147483647) (f3 : (-2147483648) ≤ n1) (f4 : n2 ≤ 2147483647) (f5 : (-2147483648) ≤ n2) (f6 : n3 ≤ 2147483647) (f7 : (-2147483648) ≤ n3) (f8 : (hLe T0 H0 H1 ∧ hFr s_37.2.2.2.2 H0 H1 ∧ hWt T0 H1) ∧ (Ab_37_92 n4 n5 n6 n7 n8 n9 n10 n3 n11 n2 n1 n12 n0 H0 H1 ∧ True) ∧ some q0 = some (mub_37_92 n4 n5 n6 n7 n8 n9 n10 n3 n11 n2 n1 n12 n0 H0 H1)) (f9 : n0 < n3) (f10 : n1 ≤ n0) (f11 : n2 ≠ 0) (f12 : n13 = w32 (n0 + 1)) : Ab_37_92 n4 n5 n6 n7 n8 n9 n10 n3 n11 n2 n1 n12 n13 H0 H2 ∧ ∀ q, some q0 = some q → mub_37_92 n4 n5 n6 n7 n8 n9 n10 n3 n11 n2 n1 n12 n13 H0 H2 < q := by
  have g4 := f8.2.1.1
  unfold Ab_37_92 at g4
  have g5 := Option.some.inj f8.2.2
  unfold mub_37_92 at g5
  unfold Ab_37_92
  unfold mub_37_92
  unfold w32 at f12
  refine ⟨?_, fun q hq => ?_⟩
  · omega
  · have g6 := Option.some.inj hq
    subst g6
    omega
theorem c_37_92_7 {q0 : Nat} : vOkm T0 (eP e_37 L_37 A_37 mu_37 (some q0)) 4 ([(10, [33, 12], [], 1), (31, [9], [], 0), (43, [12, 10], [], 0), (42, [12, 7], [], 0), (5000, [0, 1, 2, 3, 4, 5, 6, 7, 8, 9, 10, 11, 12], [0, 1], 92), (90, [7], [], -2147483648), (91, [7], [], 2147483647), (90, [9], [], -2147483648), (91, [9], [], 2147483647), (90, [10], [], -2147483648), (91, [10], [], 2147483647), (90, [12], [], -2147483648), (91, [12], [], 2147483647)], (4000, [4, 5, 6, 7, 8, 9, 10, 11, 33], [3], 92)) := vOk_inI fun ρ η f0 f1 f2 f3 f4 f5 f6 f7 f8 f9 f10 f11 f12 => q_37_8 (q0 := q0) (n0 := ρ 12) (n1 := ρ 10) (n2 := ρ 9) (n3 := ρ 7) (n4 := ρ 0) (n5 := ρ 1) (n6 := ρ 2) (n7 := ρ 3) (n8 := ρ 4) (n9 := ρ 5) (n10 := ρ 6) (n11 := ρ 8) (n12 := ρ 11) (n13 := ρ 33) (H0 := η 0) (H1 := η 1) (H2 := η 3) f12 f11 f10 f9 f8 f7 f6 f5 f4 f3 f2 f1 f0
theorem c_37_92_8 {q0 : Nat} : vOkm T0 (eP e_37 L_37 A_37 mu_37 (some q0)) 4 ([(10, [34, 12], [], 1), (31, [9], [], 0), (43, [12, 10], [], 0), (42, [12, 7], [], 0), (5000, [0, 1, 2, 3, 4, 5, 6, 7, 8, 9, 10, 11, 12], [0, 1], 92), (90, [7], [], -2147483648), (91, [7], [], 2147483647), (90, [9], [], -2147483648), (91, [9], [], 2147483647), (90, [10], [], -2147483648), (91, [10], [], 2147483647), (90, [12], [], -2147483648), (91, [12], [], 2147483647)], (4000, [4, 5, 6, 7, 8, 9, 10, 11, 34], [4], 92)) := vOk_inI fun ρ η f0 f1 f2 f3 f4 f5 f6 f7 f8 f9 f10 f11 f12 => q_37_8 (q0 := q0) (n0 := ρ 12) (n1 := ρ 10) (n2 := ρ 9) (n3 := ρ 7) (n4 := ρ 0) (n5 := ρ 1) (n6 := ρ 2) (n7 := ρ 3) (n8 := ρ 4) (n9 := ρ 5) (n10 := ρ 6) (n11 := ρ 8) (n12 := ρ 11) (n13 := ρ 34) (H0 := η 0) (H1 := η 1) (H2 := η 4) f12 f11 f10 f9 f8 f7 f6 f5 f4 f3 f2 f1 f0
def p_37_92 : List vG := [([(10, [18, 12], [], 1), (42, [12, 10], [], 0), (42, [12, 7], [], 0), (5000, [0, 1, 2, 3, 4, 5, 6, 7, 8, 9, 10, 11, 12], [0, 1], 92), (90, [7], [], -2147483648), (91, [7], [], 2147483647), (90, [9], [], -2147483648), (91, [9], [], 2147483647), (90, [10], [], -2147483648), (91, [10], [], 2147483647), (90, [12], [], -2147483648), (91, [12], [], 2147483647)], (4000, [4, 5, 6, 7, 8, 9, 10, 11, 18], [2], 92)),
  ([(10, [19, 12], [], 1), (43, [12, 10], [], 0), (42, [12, 7], [], 0), (5000, [0, 1, 2, 3, 4, 5, 6, 7, 8, 9, 10, 11, 12], [0, 1], 92), (90, [7], [], -2147483648), (91, [7], [], 2147483647), (90, [9], [], -2147483648), (91, [9], [], 2147483647), (90, [10], [], -2147483648), (91, [10], [], 2147483647), (90, [12], [], -2147483648), (91, [12], [], 2147483647)], (4000, [4, 5, 6, 7, 8, 9, 10, 11, 19], [2], 92)),
  ([(10, [20, 12], [], 1), (43, [12, 10], [], 0), (42, [12, 7], [], 0), (5000, [0, 1, 2, 3, 4, 5, 6, 7, 8, 9, 10, 11, 12], [0, 1], 92), (90, [7], [], -2147483648), (91, [7], [], 2147483647), (90, [9], [], -2147483648), (91, [9], [], 2147483647), (90, [10], [], -2147483648), (91, [10], [], 2147483647), (90, [12], [], -2147483648), (91, [12], [], 2147483647)], (4000, [4, 5, 6, 7, 8, 9, 10, 11, 20], [2], 92)),
  ([(20, [22, 5], [1], 13), (23, [5], [1], 1), (90, [22], [], -2147483648), (91, [22], [], 2147483647), (23, [5], [1], 1), (2, [19, 12, 10], [], 0), (23, [5], [1], 1), (34, [15], [], 0), (20, [15, 5], [1], 13), (23, [5], [1], 1), (90, [15], [], -2147483648), (91, [15], [], 2147483647), (42, [14, 11], [], 0), (2, [14, 12, 10], [], 0), (43, [12, 10], [], 0), (42, [12, 7], [], 0), (5000, [0, 1, 2, 3, 4, 5, 6, 7, 8, 9, 10, 11, 12], [0, 1], 92), (0, [0], [], 274), (51, [1], [], 0), (90, [2], [], -2147483648), (91, [2], [], 2147483647), (90, [3], [], -2147483648), (91, [3], [], 2147483647), (0, [4], [], 274), (51, [5], [], 0), (90, [6], [], -2147483648), (91, [6], [], 2147483647), (90, [7], [], -2147483648), (91, [7], [], 2147483647), (90, [9], [], -2147483648), (91, [9], [], 2147483647), (90, [10], [], -2147483648), (91, [10], [], 2147483647), (90, [11], [], -2147483648), (91, [11], [], 2147483647), (90, [12], [], -2147483648), (91, [12], [], 2147483647)], (72, [22], [], 0)),
  ([(10, [32, 12], [], 1), (30, [9], [], 0), (43, [12, 10], [], 0), (42, [12, 7], [], 0), (5000, [0, 1, 2, 3, 4, 5, 6, 7, 8, 9, 10, 11, 12], [0, 1], 92), (90, [7], [], -2147483648), (91, [7], [], 2147483647), (90, [9], [], -2147483648), (91, [9], [], 2147483647), (90, [10], [], -2147483648), (91, [10], [], 2147483647), (90, [12], [], -2147483648), (91, [12], [], 2147483647)], (4000, [4, 5, 6, 7, 8, 9, 10, 11, 32], [2], 92)),
  ([(10, [33, 12], [], 1), (30, [9], [], 0), (43, [12, 10], [], 0), (42, [12, 7], [], 0), (5000, [0, 1, 2, 3, 4, 5, 6, 7, 8, 9, 10, 11, 12], [0, 1], 92), (90, [7], [], -2147483648), (91, [7], [], 2147483647), (90, [9], [], -2147483648), (91, [9], [], 2147483647), (90, [10], [], -2147483648), (91, [10], [], 2147483647), (90, [12], [], -2147483648), (91, [12], [], 2147483647)], (4000, [4, 5, 6, 7, 8, 9, 10, 11, 33], [3], 92)),
  ([(31, [9], [], 0), (23, [5], [1], 1), (23, [5], [1], 1), (2, [19, 12, 10], [], 0), (23, [5], [1], 1), (23, [5], [1], 1), (42, [14, 11], [], 0), (2, [14, 12, 10], [], 0), (43, [12, 10], [], 0), (42, [12, 7], [], 0), (5000, [0, 1, 2, 3, 4, 5, 6, 7, 8, 9, 10, 11, 12], [0, 1], 92), (0, [0], [], 274), (51, [1], [], 0), (90, [2], [], -2147483648), (91, [2], [], 2147483647), (90, [3], [], -2147483648), (91, [3], [], 2147483647), (0, [4], [], 274), (51, [5], [], 0), (90, [6], [], -2147483648), (91, [6], [], 2147483647), (90, [7], [], -2147483648), (91, [7], [], 2147483647), (90, [9], [], -2147483648), (91, [9], [], 2147483647), (90, [10], [], -2147483648), (91, [10], [], 2147483647), (90, [11], [], -2147483648), (91, [11], [], 2147483647), (90, [12], [], -2147483648), (91, [12], [], 2147483647)], (51, [8], [], 0)),
  ([(10, [33, 12], [], 1), (31, [9], [], 0), (43, [12, 10], [], 0), (42, [12, 7], [], 0), (5000, [0, 1, 2, 3, 4, 5, 6, 7, 8, 9, 10, 11, 12], [0, 1], 92), (90, [7], [], -2147483648), (91, [7], [], 2147483647), (90, [9], [], -2147483648), (91, [9], [], 2147483647), (90, [10], [], -2147483648), (91, [10], [], 2147483647), (90, [12], [], -2147483648), (91, [12], [], 2147483647)], (4000, [4, 5, 6, 7, 8, 9, 10, 11, 33], [3], 92)),
  ([(10, [34, 12], [], 1), (31, [9], [], 0), (43, [12, 10], [], 0), (42, [12, 7], [], 0), (5000, [0, 1, 2, 3, 4, 5, 6, 7, 8, 9, 10, 11, 12], [0, 1], 92), (90, [7], [], -2147483648), (91, [7], [], 2147483647), (90, [9], [], -2147483648), (91, [9], [], 2147483647), (90, [10], [], -2147483648), (91, [10], [], 2147483647), (90, [12], [], -2147483648), (91, [12], [], 2147483647)], (4000, [4, 5, 6, 7, 8, 9, 10, 11, 34], [4], 92))]
theorem r_37_92 : vCovO true (eRc e_37 L_37 cs_37 2000 (92, [(0, (3, 2, 274, 0)), (1, (3, 1, -1, 0)), (2, (0, -2147483648, 2147483647, 0)), (3, (0, -2147483648, 2147483647, 0)), (4, (2, 7, -1, 0)), (5, (0, -2147483648, 2147483647, 0)), (6, (0, -2147483648, 2147483647, 0)), (7, (0, -2147483648, 2147483647, 0)), (8, (0, -2147483648, 2147483647, 0))])) p_37_92 = true := by decide +kernel
theorem m_37 (d : Nat) : eC e_37 (d + 4) := eC_ok (e := e_37) (L := L_37) (cs := cs_37) (n := 2000) (d := d + 3) (A := A_37) (μ := mu_37) (tp := true) (p0 := p_37_s) rfl ⟨m_2 (d + 2), ⟨m_8 (d + 1), ⟨m_38 (d + 2), ⟨m_152 d, ⟨m_153 (d + 1), ⟨m_201k748 (d + 2), trivial⟩⟩⟩⟩⟩⟩ rfl (.inr pre0_ok) (by decide +kernel) (fun _ => post0_ok) r_37_s (allC c_37_s_0 (allC c_37_s_1 (allC c_37_s_2 (allC c_37_s_3 (allC c_37_s_4 (allC c_37_s_5 allN)))))) (allC (.inl ⟨p_37_92, r_37_92, fun q0 => (allC c_37_92_0 (allC c_37_92_1 (allC c_37_92_2 (allC c_37_92_3 (allC c_37_92_4 (allC c_37_92_5 (allC c_37_92_6 (allC c_37_92_7 (allC c_37_92_8 allN)))))))))⟩) allN)
/- Mixer.noteHeard (LMixStage$Cue;I)V -/
noncomputable def s_36 : vM := ([(3, 2, 274, 0), (3, 1, -1, 0), (0, -2147483648, 2147483647, 0)], (9, 0, 0, 0), 0, 0, [(748, 0)])
noncomputable def e_36 : vE := (36, s_36, pre0, post0)
noncomputable def L_36 : List vE := [e_199k748, e_201k748]
def cs_36 : List vC := [(2, [(0, (3, 2, 274, 0)), (1, (3, 1, -1, 0)), (2, (0, -2147483648, 2147483647, 0)), (3, (0, -2147483648, 2147483647, 0))])]
def mub_36_2 (a0 a1 a2 x0 x1 x2 x3 : Int) (h0 h : gH) : Nat := (2147483648 - x3).toNat
def A_36 : Int → List Int → gH → gH → Prop := fun c xs h0 h => True
def mu_36 : Int → List Int → gH → gH → Nat := fun c xs h0 h => match c.toNat with
  | 2 => (match xs with
    | [a0, a1, a2, x0, x1, x2, x3] => mub_36_2 a0 a1 a2 x0 x1 x2 x3 h0 h
    | _ => 0)
  | _ => 0
theorem q_36_0 {n0 n1 n2 n3 : Int} {H0 : gH}  : True ∧ ∀ q, none = some q → mub_36_2 n0 n1 n2 n0 n1 n2 n3 H0 H0 < q := by
  exact ⟨trivial, fun q hq => nomatch hq⟩
theorem c_36_s_0 : vOkm T0 (eP e_36 L_36 A_36 mu_36 none) 3 ([], (4000, [0, 1, 2, 3], [0], 2)) := vOk_inI fun ρ η => q_36_0 (n0 := ρ 0) (n1 := ρ 1) (n2 := ρ 2) (n3 := ρ 3) (H0 := η 0)
def p_36_s : List vG := [([], (4000, [0, 1, 2, 3], [0], 2))]
theorem r_36_s : vCovO true (eR0 e_36 L_36 cs_36 2000) p_36_s = true := by decide +kernel
theorem q_36_1 {q0 : Nat} {n0 n1 n2 n3 n4 n5 n6 n7 n8 : Int} {H0 H1 H2 : gH} (f0 : n0 ≤ 2147483647) (f1 : (-2147483648) ≤ n0) (f2 : (hLe T0 H0 H1 ∧ hFr s_36.2.2.2.2 H0 H1 ∧ hWt T0 H1) ∧ (True ∧ True) ∧ some q0 = some (mub_36_2 n1 n2 n3 n4 n5 n6 n0 H0 H1)) (f3 : n7 ≤ 2147483647) (f4 : (-2147483648) ≤ n7) (f5 : n0 < n7) (f6 : n8 = w32 (n0 + 1)) : True ∧ ∀ q, some q0 = some q → mub_36_2 n1 n2 n3 n4 n5 n6 n8 H0 H2 < q := by
  have g5 := Option.some.inj f2.2.2
  unfold mub_36_2 at g5
  unfold mub_36_2
  unfold w32 at f6
  refine ⟨?_, fun q hq => ?_⟩
  · trivial
  · have g6 := Option.some.inj hq
    subst g6
    omega
theorem c_36_2_0 {q0 : Nat} : vOkm T0 (eP e_36 L_36 A_36 mu_36 (some q0)) 3 ([(10, [14, 6], [], 1), (42, [6, 7], [], 0), (90, [7], [], -2147483648), (91, [7], [], 2147483647), (5000, [0, 1, 2, 3, 4, 5, 6], [0, 1], 2), (90, [6], [], -2147483648), (91, [6], [], 2147483647)], (4000, [3, 4, 5, 14], [2], 2)) := vOk_inI fun ρ η f0 f1 f2 f3 f4 f5 f6 => q_36_1 (q0 := q0) (n0 := ρ 6) (n1 := ρ 0) (n2 := ρ 1) (n3 := ρ 2) (n4 := ρ 3) (n5 := ρ 4) (n6 := ρ 5) (n7 := ρ 7) (n8 := ρ 14) (H0 := η 0) (H1 := η 1) (H2 := η 2) f6 f5 f4 f3 f2 f1 f0
theorem c_36_2_1 {q0 : Nat} : vOkm T0 (eP e_36 L_36 A_36 mu_36 (some q0)) 3 ([(10, [21, 6], [], 1), (42, [6, 7], [], 0), (90, [7], [], -2147483648), (91, [7], [], 2147483647), (5000, [0, 1, 2, 3, 4, 5, 6], [0, 1], 2), (90, [6], [], -2147483648), (91, [6], [], 2147483647)], (4000, [3, 4, 5, 21], [4], 2)) := vOk_inI fun ρ η f0 f1 f2 f3 f4 f5 f6 => q_36_1 (q0 := q0) (n0 := ρ 6) (n1 := ρ 0) (n2 := ρ 1) (n3 := ρ 2) (n4 := ρ 3) (n5 := ρ 4) (n6 := ρ 5) (n7 := ρ 7) (n8 := ρ 21) (H0 := η 0) (H1 := η 1) (H2 := η 4) f6 f5 f4 f3 f2 f1 f0
def p_36_2 : List vG := [([(10, [14, 6], [], 1), (42, [6, 7], [], 0), (90, [7], [], -2147483648), (91, [7], [], 2147483647), (5000, [0, 1, 2, 3, 4, 5, 6], [0, 1], 2), (90, [6], [], -2147483648), (91, [6], [], 2147483647)], (4000, [3, 4, 5, 14], [2], 2)),
  ([(10, [21, 6], [], 1), (42, [6, 7], [], 0), (90, [7], [], -2147483648), (91, [7], [], 2147483647), (5000, [0, 1, 2, 3, 4, 5, 6], [0, 1], 2), (90, [6], [], -2147483648), (91, [6], [], 2147483647)], (4000, [3, 4, 5, 21], [4], 2))]
theorem r_36_2 : vCovO true (eRc e_36 L_36 cs_36 2000 (2, [(0, (3, 2, 274, 0)), (1, (3, 1, -1, 0)), (2, (0, -2147483648, 2147483647, 0)), (3, (0, -2147483648, 2147483647, 0))])) p_36_2 = true := by decide +kernel
theorem m_36 (d : Nat) : eC e_36 (d + 2) := eC_ok (e := e_36) (L := L_36) (cs := cs_36) (n := 2000) (d := d + 1) (A := A_36) (μ := mu_36) (tp := true) (p0 := p_36_s) rfl ⟨m_199k748 d, ⟨m_201k748 d, trivial⟩⟩ rfl (.inr pre0_ok) (by decide +kernel) (fun _ => post0_ok) r_36_s (allC c_36_s_0 allN) (allC (.inl ⟨p_36_2, r_36_2, fun q0 => (allC c_36_2_0 (allC c_36_2_1 allN))⟩) allN)
/- Mixer.turnFader (LMixStage$Cue;)V -/
noncomputable def s_42 : vM := ([(3, 2, 274, 0), (3, 1, -1, 0)], (9, 0, 0, 0), 0, 0, [(748, 0)])
noncomputable def e_42 : vE := (42, s_42, pre0, post0)
noncomputable def L_42 : List vE := [e_8, e_201k748, e_317]
def cs_42 : List vC := [(48, [(0, (3, 2, 274, 0)), (1, (3, 1, -1, 0)), (2, (0, -2147483648, 2147483647, 0)), (3, (0, -2147483648, 2147483647, 0)), (4, (0, -2147483648, 2147483647, 0)), (5, (0, -2147483648, 2147483647, 0))])]
def mub_42_48 (a0 a1 x0 x1 x2 x3 x4 x5 : Int) (h0 h : gH) : Nat := (2147483648 - x5).toNat
def A_42 : Int → List Int → gH → gH → Prop := fun c xs h0 h => True
def mu_42 : Int → List Int → gH → gH → Nat := fun c xs h0 h => match c.toNat with
  | 48 => (match xs with
    | [a0, a1, x0, x1, x2, x3, x4, x5] => mub_42_48 a0 a1 x0 x1 x2 x3 x4 x5 h0 h
    | _ => 0)
  | _ => 0
theorem q_42_0 {n0 n1 n2 n3 n4 n5 : Int} {H0 H1 : gH}  : True ∧ ∀ q, none = some q → mub_42_48 n0 n1 n0 n1 n2 n3 n4 n5 H0 H1 < q := by
  exact ⟨trivial, fun q hq => nomatch hq⟩
theorem c_42_s_0 : vOkm T0 (eP e_42 L_42 A_42 mu_42 none) 2 ([], (4000, [0, 1, 7, 13, 14, 16], [3], 48)) := vOk_inI fun ρ η => q_42_0 (n0 := ρ 0) (n1 := ρ 1) (n2 := ρ 7) (n3 := ρ 13) (n4 := ρ 14) (n5 := ρ 16) (H0 := η 0) (H1 := η 3)
def p_42_s : List vG := [([], (4000, [0, 1, 7, 13, 14, 16], [3], 48))]
theorem r_42_s : vCovO true (eR0 e_42 L_42 cs_42 2000) p_42_s = true := by decide +kernel
theorem q_42_1 {q0 : Nat} {n0 n1 n2 n3 n4 n5 n6 n7 n8 n9 : Int} {H0 H1 H2 : gH} (f0 : n0 ≤ 2147483647) (f1 : (-2147483648) ≤ n0) (f2 : (hLe T0 H0 H1 ∧ hFr s_42.2.2.2.2 H0 H1 ∧ hWt T0 H1) ∧ (True ∧ True) ∧ some q0 = some (mub_42_48 n1 n2 n3 n4 n5 n6 n7 n0 H0 H1)) (f3 : n8 ≤ 2147483647) (f4 : (-2147483648) ≤ n8) (f5 : n0 < n8) (f6 : n9 = w32 (n0 + 1)) : True ∧ ∀ q, some q0 = some q → mub_42_48 n1 n2 n3 n4 n5 n6 n7 n9 H0 H2 < q := by
  have g5 := Option.some.inj f2.2.2
  unfold mub_42_48 at g5
  unfold mub_42_48
  unfold w32 at f6
  refine ⟨?_, fun q hq => ?_⟩
  · trivial
  · have g6 := Option.some.inj hq
    subst g6
    omega
theorem c_42_48_0 {q0 : Nat} : vOkm T0 (eP e_42 L_42 A_42 mu_42 (some q0)) 2 ([(10, [15, 7], [], 1), (42, [7, 8], [], 0), (90, [8], [], -2147483648), (91, [8], [], 2147483647), (5000, [0, 1, 2, 3, 4, 5, 6, 7], [0, 1], 48), (90, [7], [], -2147483648), (91, [7], [], 2147483647)], (4000, [2, 3, 4, 5, 6, 15], [2], 48)) := vOk_inI fun ρ η f0 f1 f2 f3 f4 f5 f6 => q_42_1 (q0 := q0) (n0 := ρ 7) (n1 := ρ 0) (n2 := ρ 1) (n3 := ρ 2) (n4 := ρ 3) (n5 := ρ 4) (n6 := ρ 5) (n7 := ρ 6) (n8 := ρ 8) (n9 := ρ 15) (H0 := η 0) (H1 := η 1) (H2 := η 2) f6 f5 f4 f3 f2 f1 f0
theorem q_42_2 {q0 : Nat} {n0 n1 n2 n3 n4 n5 n6 n7 n8 n9 : Int} {H0 H1 H2 : gH} (f0 : n0 ≤ 2147483647) (f1 : (-2147483648) ≤ n0) (f2 : n1 ≤ 2147483647) (f3 : (-2147483648) ≤ n1) (f4 : (hLe T0 H0 H1 ∧ hFr s_42.2.2.2.2 H0 H1 ∧ hWt T0 H1) ∧ (True ∧ True) ∧ some q0 = some (mub_42_48 n2 n3 n4 n5 n6 n1 n7 n0 H0 H1)) (f5 : n8 ≤ 2147483647) (f6 : (-2147483648) ≤ n8) (f7 : n0 < n8) (f8 : n1 ≤ n0) (f9 : n9 = w32 (n0 + 1)) : True ∧ ∀ q, some q0 = some q → mub_42_48 n2 n3 n4 n5 n6 n1 n7 n9 H0 H2 < q := by
  have g5 := Option.some.inj f4.2.2
  unfold mub_42_48 at g5
  unfold mub_42_48
  unfold w32 at f9
  refine ⟨?_, fun q hq => ?_⟩
  · trivial
  · have g6 := Option.some.inj hq
    subst g6
    omega
theorem c_42_48_1 {q0 : Nat} : vOkm T0 (eP e_42 L_42 A_42 mu_42 (some q0)) 2 ([(10, [15, 7], [], 1), (43, [7, 5], [], 0), (42, [7, 8], [], 0), (90, [8], [], -2147483648), (91, [8], [], 2147483647), (5000, [0, 1, 2, 3, 4, 5, 6, 7], [0, 1], 48), (90, [5], [], -2147483648), (91, [5], [], 2147483647), (90, [7], [], -2147483648), (91, [7], [], 2147483647)], (4000, [2, 3, 4, 5, 6, 15], [2], 48)) := vOk_inI fun ρ η f0 f1 f2 f3 f4 f5 f6 f7 f8 f9 => q_42_2 (q0 := q0) (n0 := ρ 7) (n1 := ρ 5) (n2 := ρ 0) (n3 := ρ 1) (n4 := ρ 2) (n5 := ρ 3) (n6 := ρ 4) (n7 := ρ 6) (n8 := ρ 8) (n9 := ρ 15) (H0 := η 0) (H1 := η 1) (H2 := η 2) f9 f8 f7 f6 f5 f4 f3 f2 f1 f0
theorem q_42_3 {q0 : Nat} {n0 : Int} {H0 : gH} (f0 : n0 ≤ 2147483647) (f1 : (-2147483648) ≤ n0) (f2 : 0 < n0) : n0 ≠ 0 := by
  omega
theorem c_42_48_2 {q0 : Nat} : vOkm T0 (eP e_42 L_42 A_42 mu_42 (some q0)) 2 ([(34, [6], [], 0), (90, [6], [], -2147483648), (91, [6], [], 2147483647)], (72, [6], [], 0)) := vOk_inI fun ρ η f0 f1 f2 => q_42_3 (q0 := q0) (n0 := ρ 6) (H0 := η 0) f2 f1 f0
theorem q_42_4 {q0 : Nat} {n0 n1 n2 n3 n4 n5 n6 n7 n8 n9 : Int} {H0 H1 H2 : gH} (f0 : n0 ≤ 2147483647) (f1 : (-2147483648) ≤ n0) (f2 : n1 ≤ 2147483647) (f3 : (-2147483648) ≤ n1) (f4 : (hLe T0 H0 H1 ∧ hFr s_42.2.2.2.2 H0 H1 ∧ hWt T0 H1) ∧ (True ∧ True) ∧ some q0 = some (mub_42_48 n2 n3 n4 n5 n6 n1 n7 n0 H0 H1)) (f5 : n8 ≤ 2147483647) (f6 : (-2147483648) ≤ n8) (f7 : n0 < n8) (f8 : n0 < n1) (f9 : n9 = w32 (n0 + 1)) : True ∧ ∀ q, some q0 = some q → mub_42_48 n2 n3 n4 n5 n6 n1 n7 n9 H0 H2 < q := by
  have g5 := Option.some.inj f4.2.2
  unfold mub_42_48 at g5
  unfold mub_42_48
  unfold w32 at f9
  refine ⟨?_, fun q hq => ?_⟩
  · trivial
  · have g6 := Option.some.inj hq
    subst g6
    omega
theorem c_42_48_3 {q0 : Nat} : vOkm T0 (eP e_42 L_42 A_42 mu_42 (some q0)) 2 ([(10, [23, 7], [], 1), (42, [7, 5], [], 0), (42, [7, 8], [], 0), (90, [8], [], -2147483648), (91, [8], [], 2147483647), (5000, [0, 1, 2, 3, 4, 5, 6, 7], [0, 1], 48), (90, [5], [], -2147483648), (91, [5], [], 2147483647), (90, [7], [], -2147483648), (91, [7], [], 2147483647)], (4000, [2, 3, 4, 5, 6, 23], [2], 48)) := vOk_inI fun ρ η f0 f1 f2 f3 f4 f5 f6 f7 f8 f9 => q_42_4 (q0 := q0) (n0 := ρ 7) (n1 := ρ 5) (n2 := ρ 0) (n3 := ρ 1) (n4 := ρ 2) (n5 := ρ 3) (n6 := ρ 4) (n7 := ρ 6) (n8 := ρ 8) (n9 := ρ 23) (H0 := η 0) (H1 := η 1) (H2 := η 2) f9 f8 f7 f6 f5 f4 f3 f2 f1 f0
def p_42_48 : List vG := [([(10, [15, 7], [], 1), (42, [7, 8], [], 0), (90, [8], [], -2147483648), (91, [8], [], 2147483647), (5000, [0, 1, 2, 3, 4, 5, 6, 7], [0, 1], 48), (90, [7], [], -2147483648), (91, [7], [], 2147483647)], (4000, [2, 3, 4, 5, 6, 15], [2], 48)),
  ([(10, [15, 7], [], 1), (43, [7, 5], [], 0), (42, [7, 8], [], 0), (90, [8], [], -2147483648), (91, [8], [], 2147483647), (5000, [0, 1, 2, 3, 4, 5, 6, 7], [0, 1], 48), (90, [5], [], -2147483648), (91, [5], [], 2147483647), (90, [7], [], -2147483648), (91, [7], [], 2147483647)], (4000, [2, 3, 4, 5, 6, 15], [2], 48)),
  ([(34, [6], [], 0), (90, [6], [], -2147483648), (91, [6], [], 2147483647)], (72, [6], [], 0)),
  ([(10, [23, 7], [], 1), (42, [7, 5], [], 0), (42, [7, 8], [], 0), (90, [8], [], -2147483648), (91, [8], [], 2147483647), (5000, [0, 1, 2, 3, 4, 5, 6, 7], [0, 1], 48), (90, [5], [], -2147483648), (91, [5], [], 2147483647), (90, [7], [], -2147483648), (91, [7], [], 2147483647)], (4000, [2, 3, 4, 5, 6, 23], [2], 48))]
theorem r_42_48 : vCovO true (eRc e_42 L_42 cs_42 2000 (48, [(0, (3, 2, 274, 0)), (1, (3, 1, -1, 0)), (2, (0, -2147483648, 2147483647, 0)), (3, (0, -2147483648, 2147483647, 0)), (4, (0, -2147483648, 2147483647, 0)), (5, (0, -2147483648, 2147483647, 0))])) p_42_48 = true := by decide +kernel
theorem m_42 (d : Nat) : eC e_42 (d + 3) := eC_ok (e := e_42) (L := L_42) (cs := cs_42) (n := 2000) (d := d + 2) (A := A_42) (μ := mu_42) (tp := true) (p0 := p_42_s) rfl ⟨m_8 d, ⟨m_201k748 (d + 1), ⟨m_317 (d + 1), trivial⟩⟩⟩ rfl (.inr pre0_ok) (by decide +kernel) (fun _ => post0_ok) r_42_s (allC c_42_s_0 allN) (allC (.inl ⟨p_42_48, r_42_48, fun q0 => (allC c_42_48_0 (allC c_42_48_1 (allC c_42_48_2 (allC c_42_48_3 allN))))⟩) allN)
/- Mixer.prepare (LMixStage$Sheet;)V -/
noncomputable def s_35 : vM := ([(3, 2, 274, 0), (3, 6, -1, 0)], (9, 0, 0, 0), 0, 0, [(2, 8), (10, 0), (10, 1), (10, 2), (748, 0)])
noncomputable def e_35 : vE := (35, s_35, pre0, post0)
noncomputable def L_35 : List vE := [e_36, e_37, e_42, e_53, e_115, e_203k748]
def cs_35 : List vC := [(36, [(0, (3, 2, 274, 0)), (1, (3, 6, -1, 0)), (2, (0, -2147483648, 2147483647, 0))])]
def mub_35_36 (a0 a1 x0 x1 x2 : Int) (h0 h : gH) : Nat := (2147483648 - x2).toNat
def A_35 : Int → List Int → gH → gH → Prop := fun c xs h0 h => True
def mu_35 : Int → List Int → gH → gH → Nat := fun c xs h0 h => match c.toNat with
  | 36 => (match xs with
    | [a0, a1, x0, x1, x2] => mub_35_36 a0 a1 x0 x1 x2 h0 h
    | _ => 0)
  | _ => 0
theorem q_35_0 {n0 n1 n2 : Int} {H0 H1 : gH}  : True ∧ ∀ q, none = some q → mub_35_36 n0 n1 n0 n1 n2 H0 H1 < q := by
  exact ⟨trivial, fun q hq => nomatch hq⟩
theorem c_35_s_0 : vOkm T0 (eP e_35 L_35 A_35 mu_35 none) 2 ([], (4000, [0, 1, 12], [4], 36)) := vOk_inI fun ρ η => q_35_0 (n0 := ρ 0) (n1 := ρ 1) (n2 := ρ 12) (H0 := η 0) (H1 := η 4)
def p_35_s : List vG := [([], (4000, [0, 1, 12], [4], 36))]
theorem r_35_s : vCovO true (eR0 e_35 L_35 cs_35 2000) p_35_s = true := by decide +kernel
theorem q_35_1 {q0 : Nat} {n0 n1 n2 n3 n4 n5 n6 : Int} {H0 H1 H2 : gH} (f0 : n0 ≤ 2147483647) (f1 : (-2147483648) ≤ n0) (f2 : (hLe T0 H0 H1 ∧ hFr s_35.2.2.2.2 H0 H1 ∧ hWt T0 H1) ∧ (True ∧ True) ∧ some q0 = some (mub_35_36 n1 n2 n3 n4 n0 H0 H1)) (f3 : n5 ≤ 40) (f4 : 0 ≤ n5) (f5 : n0 < n5) (f6 : n6 = w32 (n0 + 1)) : True ∧ ∀ q, some q0 = some q → mub_35_36 n1 n2 n3 n4 n6 H0 H2 < q := by
  have g5 := Option.some.inj f2.2.2
  unfold mub_35_36 at g5
  unfold mub_35_36
  unfold w32 at f6
  refine ⟨?_, fun q hq => ?_⟩
  · trivial
  · have g6 := Option.some.inj hq
    subst g6
    omega
theorem c_35_36_0 {q0 : Nat} : vOkm T0 (eP e_35 L_35 A_35 mu_35 (some q0)) 2 ([(10, [7, 4], [], 1), (42, [4, 5], [], 0), (90, [5], [], 0), (91, [5], [], 40), (5000, [0, 1, 2, 3, 4], [0, 1], 36), (90, [4], [], -2147483648), (91, [4], [], 2147483647)], (4000, [2, 3, 7], [2], 36)) := vOk_inI fun ρ η f0 f1 f2 f3 f4 f5 f6 => q_35_1 (q0 := q0) (n0 := ρ 4) (n1 := ρ 0) (n2 := ρ 1) (n3 := ρ 2) (n4 := ρ 3) (n5 := ρ 5) (n6 := ρ 7) (H0 := η 0) (H1 := η 1) (H2 := η 2) f6 f5 f4 f3 f2 f1 f0
theorem c_35_36_1 {q0 : Nat} : vOkm T0 (eP e_35 L_35 A_35 mu_35 (some q0)) 2 ([(10, [9, 4], [], 1), (42, [4, 5], [], 0), (90, [5], [], 0), (91, [5], [], 40), (5000, [0, 1, 2, 3, 4], [0, 1], 36), (90, [4], [], -2147483648), (91, [4], [], 2147483647)], (4000, [2, 3, 9], [2], 36)) := vOk_inI fun ρ η f0 f1 f2 f3 f4 f5 f6 => q_35_1 (q0 := q0) (n0 := ρ 4) (n1 := ρ 0) (n2 := ρ 1) (n3 := ρ 2) (n4 := ρ 3) (n5 := ρ 5) (n6 := ρ 9) (H0 := η 0) (H1 := η 1) (H2 := η 2) f6 f5 f4 f3 f2 f1 f0
theorem c_35_36_2 {q0 : Nat} : vOkm T0 (eP e_35 L_35 A_35 mu_35 (some q0)) 2 ([(10, [9, 4], [], 1), (42, [4, 5], [], 0), (90, [5], [], 0), (91, [5], [], 40), (5000, [0, 1, 2, 3, 4], [0, 1], 36), (90, [4], [], -2147483648), (91, [4], [], 2147483647)], (4000, [2, 3, 9], [3], 36)) := vOk_inI fun ρ η f0 f1 f2 f3 f4 f5 f6 => q_35_1 (q0 := q0) (n0 := ρ 4) (n1 := ρ 0) (n2 := ρ 1) (n3 := ρ 2) (n4 := ρ 3) (n5 := ρ 5) (n6 := ρ 9) (H0 := η 0) (H1 := η 1) (H2 := η 3) f6 f5 f4 f3 f2 f1 f0
theorem c_35_36_3 {q0 : Nat} : vOkm T0 (eP e_35 L_35 A_35 mu_35 (some q0)) 2 ([(10, [10, 4], [], 1), (42, [4, 5], [], 0), (90, [5], [], 0), (91, [5], [], 40), (5000, [0, 1, 2, 3, 4], [0, 1], 36), (90, [4], [], -2147483648), (91, [4], [], 2147483647)], (4000, [2, 3, 10], [2], 36)) := vOk_inI fun ρ η f0 f1 f2 f3 f4 f5 f6 => q_35_1 (q0 := q0) (n0 := ρ 4) (n1 := ρ 0) (n2 := ρ 1) (n3 := ρ 2) (n4 := ρ 3) (n5 := ρ 5) (n6 := ρ 10) (H0 := η 0) (H1 := η 1) (H2 := η 2) f6 f5 f4 f3 f2 f1 f0
theorem c_35_36_4 {q0 : Nat} : vOkm T0 (eP e_35 L_35 A_35 mu_35 (some q0)) 2 ([(10, [10, 4], [], 1), (42, [4, 5], [], 0), (90, [5], [], 0), (91, [5], [], 40), (5000, [0, 1, 2, 3, 4], [0, 1], 36), (90, [4], [], -2147483648), (91, [4], [], 2147483647)], (4000, [2, 3, 10], [3], 36)) := vOk_inI fun ρ η f0 f1 f2 f3 f4 f5 f6 => q_35_1 (q0 := q0) (n0 := ρ 4) (n1 := ρ 0) (n2 := ρ 1) (n3 := ρ 2) (n4 := ρ 3) (n5 := ρ 5) (n6 := ρ 10) (H0 := η 0) (H1 := η 1) (H2 := η 3) f6 f5 f4 f3 f2 f1 f0
theorem c_35_36_5 {q0 : Nat} : vOkm T0 (eP e_35 L_35 A_35 mu_35 (some q0)) 2 ([(10, [9, 4], [], 1), (42, [4, 5], [], 0), (90, [5], [], 0), (91, [5], [], 40), (5000, [0, 1, 2, 3, 4], [0, 1], 36), (90, [4], [], -2147483648), (91, [4], [], 2147483647)], (4000, [2, 3, 9], [4], 36)) := vOk_inI fun ρ η f0 f1 f2 f3 f4 f5 f6 => q_35_1 (q0 := q0) (n0 := ρ 4) (n1 := ρ 0) (n2 := ρ 1) (n3 := ρ 2) (n4 := ρ 3) (n5 := ρ 5) (n6 := ρ 9) (H0 := η 0) (H1 := η 1) (H2 := η 4) f6 f5 f4 f3 f2 f1 f0
def p_35_36 : List vG := [([(10, [7, 4], [], 1), (42, [4, 5], [], 0), (90, [5], [], 0), (91, [5], [], 40), (5000, [0, 1, 2, 3, 4], [0, 1], 36), (90, [4], [], -2147483648), (91, [4], [], 2147483647)], (4000, [2, 3, 7], [2], 36)),
  ([(10, [9, 4], [], 1), (42, [4, 5], [], 0), (90, [5], [], 0), (91, [5], [], 40), (5000, [0, 1, 2, 3, 4], [0, 1], 36), (90, [4], [], -2147483648), (91, [4], [], 2147483647)], (4000, [2, 3, 9], [2], 36)),
  ([(10, [9, 4], [], 1), (42, [4, 5], [], 0), (90, [5], [], 0), (91, [5], [], 40), (5000, [0, 1, 2, 3, 4], [0, 1], 36), (90, [4], [], -2147483648), (91, [4], [], 2147483647)], (4000, [2, 3, 9], [3], 36)),
  ([(10, [10, 4], [], 1), (42, [4, 5], [], 0), (90, [5], [], 0), (91, [5], [], 40), (5000, [0, 1, 2, 3, 4], [0, 1], 36), (90, [4], [], -2147483648), (91, [4], [], 2147483647)], (4000, [2, 3, 10], [2], 36)),
  ([(10, [10, 4], [], 1), (42, [4, 5], [], 0), (90, [5], [], 0), (91, [5], [], 40), (5000, [0, 1, 2, 3, 4], [0, 1], 36), (90, [4], [], -2147483648), (91, [4], [], 2147483647)], (4000, [2, 3, 10], [3], 36)),
  ([(10, [9, 4], [], 1), (42, [4, 5], [], 0), (90, [5], [], 0), (91, [5], [], 40), (5000, [0, 1, 2, 3, 4], [0, 1], 36), (90, [4], [], -2147483648), (91, [4], [], 2147483647)], (4000, [2, 3, 9], [4], 36))]
theorem r_35_36 : vCovO true (eRc e_35 L_35 cs_35 2000 (36, [(0, (3, 2, 274, 0)), (1, (3, 6, -1, 0)), (2, (0, -2147483648, 2147483647, 0))])) p_35_36 = true := by decide +kernel
theorem m_35 (d : Nat) : eC e_35 (d + 5) := eC_ok (e := e_35) (L := L_35) (cs := cs_35) (n := 2000) (d := d + 4) (A := A_35) (μ := mu_35) (tp := true) (p0 := p_35_s) rfl ⟨m_36 (d + 2), ⟨m_37 d, ⟨m_42 (d + 1), ⟨m_53 (d + 2), ⟨m_115 (d + 3), ⟨m_203k748 (d + 2), trivial⟩⟩⟩⟩⟩⟩ rfl (.inr pre0_ok) (by decide +kernel) (fun _ => post0_ok) r_35_s (allC c_35_s_0 allN) (allC (.inl ⟨p_35_36, r_35_36, fun q0 => (allC c_35_36_0 (allC c_35_36_1 (allC c_35_36_2 (allC c_35_36_3 (allC c_35_36_4 (allC c_35_36_5 allN))))))⟩) allN)
/- MixStage.put ([JIJ)V -/
noncomputable def s_202k757 : vM := ([(2, 757, -1, 0), (0, -2147483648, 2147483647, 0), (1, 0, 0, 0)], (9, 0, 0, 0), 0, 0, [(757, 0)])
noncomputable def e_202k757 : vE := (202, s_202k757, pre0, post0)
noncomputable def L_202k757 : List vE := []
def cs_202k757 : List vC := []
def A_202k757 : Int → List Int → gH → gH → Prop := fun c xs h0 h => True
def mu_202k757 : Int → List Int → gH → gH → Nat := fun c xs h0 h => 0
def p_202k757_s : List vG := []
theorem r_202k757_s : vCovO true (eR0 e_202k757 L_202k757 cs_202k757 2000) p_202k757_s = true := by decide +kernel
theorem m_202k757 (d : Nat) : eC e_202k757 (d + 1) := eC_ok (e := e_202k757) (L := L_202k757) (cs := cs_202k757) (n := 2000) (d := d + 0) (A := A_202k757) (μ := mu_202k757) (tp := true) (p0 := p_202k757_s) rfl trivial rfl (.inr pre0_ok) (by decide +kernel) (fun _ => post0_ok) r_202k757_s allN allN
/- MixStage.put ([JIJ)V -/
noncomputable def s_202k733 : vM := ([(2, 733, -1, 0), (0, -2147483648, 2147483647, 0), (1, 0, 0, 0)], (9, 0, 0, 0), 0, 0, [(733, 0)])
noncomputable def e_202k733 : vE := (202, s_202k733, pre0, post0)
noncomputable def L_202k733 : List vE := []
def cs_202k733 : List vC := []
def A_202k733 : Int → List Int → gH → gH → Prop := fun c xs h0 h => True
def mu_202k733 : Int → List Int → gH → gH → Nat := fun c xs h0 h => 0
def p_202k733_s : List vG := []
theorem r_202k733_s : vCovO true (eR0 e_202k733 L_202k733 cs_202k733 2000) p_202k733_s = true := by decide +kernel
theorem m_202k733 (d : Nat) : eC e_202k733 (d + 1) := eC_ok (e := e_202k733) (L := L_202k733) (cs := cs_202k733) (n := 2000) (d := d + 0) (A := A_202k733) (μ := mu_202k733) (tp := true) (p0 := p_202k733_s) rfl trivial rfl (.inr pre0_ok) (by decide +kernel) (fun _ => post0_ok) r_202k733_s allN allN
/- MixStage.put ([JIJ)V -/
noncomputable def s_202k725 : vM := ([(2, 725, -1, 0), (0, -2147483648, 2147483647, 0), (1, 0, 0, 0)], (9, 0, 0, 0), 0, 0, [(725, 0)])
noncomputable def e_202k725 : vE := (202, s_202k725, pre0, post0)
noncomputable def L_202k725 : List vE := []
def cs_202k725 : List vC := []
def A_202k725 : Int → List Int → gH → gH → Prop := fun c xs h0 h => True
def mu_202k725 : Int → List Int → gH → gH → Nat := fun c xs h0 h => 0
def p_202k725_s : List vG := []
theorem r_202k725_s : vCovO true (eR0 e_202k725 L_202k725 cs_202k725 2000) p_202k725_s = true := by decide +kernel
theorem m_202k725 (d : Nat) : eC e_202k725 (d + 1) := eC_ok (e := e_202k725) (L := L_202k725) (cs := cs_202k725) (n := 2000) (d := d + 0) (A := A_202k725) (μ := mu_202k725) (tp := true) (p0 := p_202k725_s) rfl trivial rfl (.inr pre0_ok) (by decide +kernel) (fun _ => post0_ok) r_202k725_s allN allN
/- Mixer.clearStem (I)V -/
noncomputable def s_44 : vM := ([(3, 2, 274, 0), (0, -2147483648, 2147483647, 0)], (9, 0, 0, 0), 0, 0, [(757, 0)])
noncomputable def e_44 : vE := (44, s_44, pre0, post0)
noncomputable def L_44 : List vE := [e_202k757]
def cs_44 : List vC := [(2, [(0, (3, 2, 274, 0)), (1, (0, -2147483648, 2147483647, 0)), (2, (0, -2147483648, 2147483647, 0))])]
def mub_44_2 (a0 a1 x0 x1 x2 : Int) (h0 h : gH) : Nat := (2147483648 - x2).toNat
def A_44 : Int → List Int → gH → gH → Prop := fun c xs h0 h => True
def mu_44 : Int → List Int → gH → gH → Nat := fun c xs h0 h => match c.toNat with
  | 2 => (match xs with
    | [a0, a1, x0, x1, x2] => mub_44_2 a0 a1 x0 x1 x2 h0 h
    | _ => 0)
  | _ => 0
theorem q_44_0 {n0 n1 n2 : Int} {H0 : gH}  : True ∧ ∀ q, none = some q → mub_44_2 n0 n1 n0 n1 n2 H0 H0 < q := by
  exact ⟨trivial, fun q hq => nomatch hq⟩
theorem c_44_s_0 : vOkm T0 (eP e_44 L_44 A_44 mu_44 none) 2 ([], (4000, [0, 1, 2], [0], 2)) := vOk_inI fun ρ η => q_44_0 (n0 := ρ 0) (n1 := ρ 1) (n2 := ρ 2) (H0 := η 0)
def p_44_s : List vG := [([], (4000, [0, 1, 2], [0], 2))]
theorem r_44_s : vCovO true (eR0 e_44 L_44 cs_44 2000) p_44_s = true := by decide +kernel
theorem q_44_1 {q0 : Nat} {n0 n1 n2 n3 n4 n5 n6 : Int} {H0 H1 H2 : gH} (f0 : n0 ≤ 2147483647) (f1 : (-2147483648) ≤ n0) (f2 : (hLe T0 H0 H1 ∧ hFr s_44.2.2.2.2 H0 H1 ∧ hWt T0 H1) ∧ (True ∧ True) ∧ some q0 = some (mub_44_2 n1 n2 n3 n4 n0 H0 H1)) (f3 : n5 ≤ 2147483647) (f4 : (-2147483648) ≤ n5) (f5 : n0 < n5) (f6 : n6 = w32 (n0 + 1)) : True ∧ ∀ q, some q0 = some q → mub_44_2 n1 n2 n3 n4 n6 H0 H2 < q := by
  have g5 := Option.some.inj f2.2.2
  unfold mub_44_2 at g5
  unfold mub_44_2
  unfold w32 at f6
  refine ⟨?_, fun q hq => ?_⟩
  · trivial
  · have g6 := Option.some.inj hq
    subst g6
    omega
theorem c_44_2_0 {q0 : Nat} : vOkm T0 (eP e_44 L_44 A_44 mu_44 (some q0)) 2 ([(10, [9, 4], [], 1), (42, [4, 5], [], 0), (90, [5], [], -2147483648), (91, [5], [], 2147483647), (5000, [0, 1, 2, 3, 4], [0, 1], 2), (90, [4], [], -2147483648), (91, [4], [], 2147483647)], (4000, [2, 3, 9], [2], 2)) := vOk_inI fun ρ η f0 f1 f2 f3 f4 f5 f6 => q_44_1 (q0 := q0) (n0 := ρ 4) (n1 := ρ 0) (n2 := ρ 1) (n3 := ρ 2) (n4 := ρ 3) (n5 := ρ 5) (n6 := ρ 9) (H0 := η 0) (H1 := η 1) (H2 := η 2) f6 f5 f4 f3 f2 f1 f0
def p_44_2 : List vG := [([(10, [9, 4], [], 1), (42, [4, 5], [], 0), (90, [5], [], -2147483648), (91, [5], [], 2147483647), (5000, [0, 1, 2, 3, 4], [0, 1], 2), (90, [4], [], -2147483648), (91, [4], [], 2147483647)], (4000, [2, 3, 9], [2], 2))]
theorem r_44_2 : vCovO true (eRc e_44 L_44 cs_44 2000 (2, [(0, (3, 2, 274, 0)), (1, (0, -2147483648, 2147483647, 0)), (2, (0, -2147483648, 2147483647, 0))])) p_44_2 = true := by decide +kernel
theorem m_44 (d : Nat) : eC e_44 (d + 2) := eC_ok (e := e_44) (L := L_44) (cs := cs_44) (n := 2000) (d := d + 1) (A := A_44) (μ := mu_44) (tp := true) (p0 := p_44_s) rfl ⟨m_202k757 d, trivial⟩ rfl (.inr pre0_ok) (by decide +kernel) (fun _ => post0_ok) r_44_s (allC c_44_s_0 allN) (allC (.inl ⟨p_44_2, r_44_2, fun q0 => (allC c_44_2_0 allN)⟩) allN)
/- MixStage.at ([JI)J -/
noncomputable def s_200k757 : vM := ([(2, 757, -1, 0), (0, -2147483648, 2147483647, 0)], (1, 0, 0, 0), 0, 0, [])
noncomputable def e_200k757 : vE := (200, s_200k757, pre0, post0)
noncomputable def L_200k757 : List vE := []
def cs_200k757 : List vC := []
def A_200k757 : Int → List Int → gH → gH → Prop := fun c xs h0 h => True
def mu_200k757 : Int → List Int → gH → gH → Nat := fun c xs h0 h => 0
def p_200k757_s : List vG := []
theorem r_200k757_s : vCovO true (eR0 e_200k757 L_200k757 cs_200k757 2000) p_200k757_s = true := by decide +kernel
theorem m_200k757 (d : Nat) : eC e_200k757 (d + 1) := eC_ok (e := e_200k757) (L := L_200k757) (cs := cs_200k757) (n := 2000) (d := d + 0) (A := A_200k757) (μ := mu_200k757) (tp := true) (p0 := p_200k757_s) rfl trivial rfl (.inr pre0_ok) (by decide +kernel) (fun _ => post0_ok) r_200k757_s allN allN
/- MixStage.at ([JI)J -/
noncomputable def s_200k733 : vM := ([(2, 733, -1, 0), (0, -2147483648, 2147483647, 0)], (1, 0, 0, 0), 0, 0, [])
noncomputable def e_200k733 : vE := (200, s_200k733, pre0, post0)
noncomputable def L_200k733 : List vE := []
def cs_200k733 : List vC := []
def A_200k733 : Int → List Int → gH → gH → Prop := fun c xs h0 h => True
def mu_200k733 : Int → List Int → gH → gH → Nat := fun c xs h0 h => 0
def p_200k733_s : List vG := []
theorem r_200k733_s : vCovO true (eR0 e_200k733 L_200k733 cs_200k733 2000) p_200k733_s = true := by decide +kernel
theorem m_200k733 (d : Nat) : eC e_200k733 (d + 1) := eC_ok (e := e_200k733) (L := L_200k733) (cs := cs_200k733) (n := 2000) (d := d + 0) (A := A_200k733) (μ := mu_200k733) (tp := true) (p0 := p_200k733_s) rfl trivial rfl (.inr pre0_ok) (by decide +kernel) (fun _ => post0_ok) r_200k733_s allN allN
/- MixStage.at ([JI)J -/
noncomputable def s_200k725 : vM := ([(2, 725, -1, 0), (0, -2147483648, 2147483647, 0)], (1, 0, 0, 0), 0, 0, [])
noncomputable def e_200k725 : vE := (200, s_200k725, pre0, post0)
noncomputable def L_200k725 : List vE := []
def cs_200k725 : List vC := []
def A_200k725 : Int → List Int → gH → gH → Prop := fun c xs h0 h => True
def mu_200k725 : Int → List Int → gH → gH → Nat := fun c xs h0 h => 0
def p_200k725_s : List vG := []
theorem r_200k725_s : vCovO true (eR0 e_200k725 L_200k725 cs_200k725 2000) p_200k725_s = true := by decide +kernel
theorem m_200k725 (d : Nat) : eC e_200k725 (d + 1) := eC_ok (e := e_200k725) (L := L_200k725) (cs := cs_200k725) (n := 2000) (d := d + 0) (A := A_200k725) (μ := mu_200k725) (tp := true) (p0 := p_200k725_s) rfl trivial rfl (.inr pre0_ok) (by decide +kernel) (fun _ => post0_ok) r_200k725_s allN allN
/- Mixer.taken (II)I -/
noncomputable def s_39 : vM := ([(3, 2, 274, 0), (0, -2147483648, 2147483647, 0), (0, -2147483648, 2147483647, 0)], (0, -2147483648, 2147483647, 0), 0, 0, [])
noncomputable def e_39 : vE := (39, s_39, pre0, post0)
noncomputable def L_39 : List vE := [e_199k748]
def cs_39 : List vC := []
def A_39 : Int → List Int → gH → gH → Prop := fun c xs h0 h => True
def mu_39 : Int → List Int → gH → gH → Nat := fun c xs h0 h => 0
def p_39_s : List vG := []
theorem r_39_s : vCovO true (eR0 e_39 L_39 cs_39 2000) p_39_s = true := by decide +kernel
theorem m_39 (d : Nat) : eC e_39 (d + 2) := eC_ok (e := e_39) (L := L_39) (cs := cs_39) (n := 2000) (d := d + 1) (A := A_39) (μ := mu_39) (tp := true) (p0 := p_39_s) rfl ⟨m_199k748 d, trivial⟩ rfl (.inr pre0_ok) (by decide +kernel) (fun _ => post0_ok) r_39_s allN allN
/- Mixer.given (II)I -/
noncomputable def s_41 : vM := ([(0, -2147483648, 2147483647, 0), (0, -2147483648, 2147483647, 0)], (0, -2147483648, 2147483647, 0), 0, 0, [])
noncomputable def e_41 : vE := (41, s_41, pre0, post0)
noncomputable def L_41 : List vE := []
def cs_41 : List vC := []
def A_41 : Int → List Int → gH → gH → Prop := fun c xs h0 h => True
def mu_41 : Int → List Int → gH → gH → Nat := fun c xs h0 h => 0
def p_41_s : List vG := []
theorem r_41_s : vCovO true (eR0 e_41 L_41 cs_41 2000) p_41_s = true := by decide +kernel
theorem m_41 (d : Nat) : eC e_41 (d + 1) := eC_ok (e := e_41) (L := L_41) (cs := cs_41) (n := 2000) (d := d + 0) (A := A_41) (μ := mu_41) (tp := true) (p0 := p_41_s) rfl trivial rfl (.inr pre0_ok) (by decide +kernel) (fun _ => post0_ok) r_41_s allN allN
/- Mixer.addLay (III)V -/
noncomputable def s_47 : vM := ([(3, 2, 274, 0), (0, -2147483648, 2147483647, 0), (0, -2147483648, 2147483647, 0), (0, -2147483648, 2147483647, 0)], (9, 0, 0, 0), 0, 0, [(757, 0)])
noncomputable def e_47 : vE := (47, s_47, pre0, post0)
noncomputable def L_47 : List vE := [e_39, e_41, e_200k757, e_202k757]
def cs_47 : List vC := [(3, [(0, (3, 2, 274, 0)), (1, (0, -2147483648, 2147483647, 0)), (2, (0, -2147483648, 2147483647, 0)), (3, (0, -2147483648, 2147483647, 0)), (4, (0, -2147483648, 2147483647, 0))])]
def mub_47_3 (a0 a1 a2 a3 x0 x1 x2 x3 x4 : Int) (h0 h : gH) : Nat := (2147483648 - x4).toNat
def A_47 : Int → List Int → gH → gH → Prop := fun c xs h0 h => True
def mu_47 : Int → List Int → gH → gH → Nat := fun c xs h0 h => match c.toNat with
  | 3 => (match xs with
    | [a0, a1, a2, a3, x0, x1, x2, x3, x4] => mub_47_3 a0 a1 a2 a3 x0 x1 x2 x3 x4 h0 h
    | _ => 0)
  | _ => 0
theorem q_47_0 {n0 n1 n2 n3 n4 : Int} {H0 : gH}  : True ∧ ∀ q, none = some q → mub_47_3 n0 n1 n2 n3 n0 n1 n2 n3 n4 H0 H0 < q := by
  exact ⟨trivial, fun q hq => nomatch hq⟩
theorem c_47_s_0 : vOkm T0 (eP e_47 L_47 A_47 mu_47 none) 4 ([], (4000, [0, 1, 2, 3, 4], [0], 3)) := vOk_inI fun ρ η => q_47_0 (n0 := ρ 0) (n1 := ρ 1) (n2 := ρ 2) (n3 := ρ 3) (n4 := ρ 4) (H0 := η 0)
def p_47_s : List vG := [([], (4000, [0, 1, 2, 3, 4], [0], 3))]
theorem r_47_s : vCovO true (eR0 e_47 L_47 cs_47 2000) p_47_s = true := by decide +kernel
theorem q_47_1 {q0 : Nat} {n0 n1 n2 n3 n4 n5 n6 n7 n8 n9 n10 : Int} {H0 H1 H2 : gH} (f0 : n0 ≤ 2147483647) (f1 : (-2147483648) ≤ n0) (f2 : (hLe T0 H0 H1 ∧ hFr s_47.2.2.2.2 H0 H1 ∧ hWt T0 H1) ∧ (True ∧ True) ∧ some q0 = some (mub_47_3 n1 n2 n3 n4 n5 n6 n7 n8 n0 H0 H1)) (f3 : n9 ≤ 2147483647) (f4 : (-2147483648) ≤ n9) (f5 : n0 < n9) (f6 : n10 = w32 (n0 + 1)) : True ∧ ∀ q, some q0 = some q → mub_47_3 n1 n2 n3 n4 n5 n6 n7 n8 n10 H0 H2 < q := by
  have g5 := Option.some.inj f2.2.2
  unfold mub_47_3 at g5
  unfold mub_47_3
  unfold w32 at f6
  refine ⟨?_, fun q hq => ?_⟩
  · trivial
  · have g6 := Option.some.inj hq
    subst g6
    omega
theorem c_47_3_0 {q0 : Nat} : vOkm T0 (eP e_47 L_47 A_47 mu_47 (some q0)) 4 ([(10, [19, 8], [], 1), (42, [8, 9], [], 0), (90, [9], [], -2147483648), (91, [9], [], 2147483647), (5000, [0, 1, 2, 3, 4, 5, 6, 7, 8], [0, 1], 3), (90, [8], [], -2147483648), (91, [8], [], 2147483647)], (4000, [4, 5, 6, 7, 19], [5], 3)) := vOk_inI fun ρ η f0 f1 f2 f3 f4 f5 f6 => q_47_1 (q0 := q0) (n0 := ρ 8) (n1 := ρ 0) (n2 := ρ 1) (n3 := ρ 2) (n4 := ρ 3) (n5 := ρ 4) (n6 := ρ 5) (n7 := ρ 6) (n8 := ρ 7) (n9 := ρ 9) (n10 := ρ 19) (H0 := η 0) (H1 := η 1) (H2 := η 5) f6 f5 f4 f3 f2 f1 f0
def p_47_3 : List vG := [([(10, [19, 8], [], 1), (42, [8, 9], [], 0), (90, [9], [], -2147483648), (91, [9], [], 2147483647), (5000, [0, 1, 2, 3, 4, 5, 6, 7, 8], [0, 1], 3), (90, [8], [], -2147483648), (91, [8], [], 2147483647)], (4000, [4, 5, 6, 7, 19], [5], 3))]
theorem r_47_3 : vCovO true (eRc e_47 L_47 cs_47 2000 (3, [(0, (3, 2, 274, 0)), (1, (0, -2147483648, 2147483647, 0)), (2, (0, -2147483648, 2147483647, 0)), (3, (0, -2147483648, 2147483647, 0)), (4, (0, -2147483648, 2147483647, 0))])) p_47_3 = true := by decide +kernel
theorem m_47 (d : Nat) : eC e_47 (d + 3) := eC_ok (e := e_47) (L := L_47) (cs := cs_47) (n := 2000) (d := d + 2) (A := A_47) (μ := mu_47) (tp := true) (p0 := p_47_s) rfl ⟨m_39 d, ⟨m_41 (d + 1), ⟨m_200k757 (d + 1), ⟨m_202k757 (d + 1), trivial⟩⟩⟩⟩ rfl (.inr pre0_ok) (by decide +kernel) (fun _ => post0_ok) r_47_s (allC c_47_s_0 allN) (allC (.inl ⟨p_47_3, r_47_3, fun q0 => (allC c_47_3_0 allN)⟩) allN)
/- Mixer.addLays (LMixStage$Sheet;I)V -/
noncomputable def s_46 : vM := ([(3, 2, 274, 0), (3, 6, -1, 0), (0, -2147483648, 2147483647, 0)], (9, 0, 0, 0), 0, 0, [(757, 0)])
noncomputable def e_46 : vE := (46, s_46, pre0, post0)
noncomputable def L_46 : List vE := [e_47, e_115]
def cs_46 : List vC := [(5, [(0, (3, 2, 274, 0)), (1, (3, 6, -1, 0)), (2, (0, -2147483648, 2147483647, 0)), (3, (0, -2147483648, 2147483647, 0)), (4, (0, -2147483648, 2147483647, 0))])]
def mub_46_5 (a0 a1 a2 x0 x1 x2 x3 x4 : Int) (h0 h : gH) : Nat := (2147483648 - x4).toNat
def A_46 : Int → List Int → gH → gH → Prop := fun c xs h0 h => True
def mu_46 : Int → List Int → gH → gH → Nat := fun c xs h0 h => match c.toNat with
  | 5 => (match xs with
    | [a0, a1, a2, x0, x1, x2, x3, x4] => mub_46_5 a0 a1 a2 x0 x1 x2 x3 x4 h0 h
    | _ => 0)
  | _ => 0
theorem q_46_0 {n0 n1 n2 n3 n4 : Int} {H0 : gH}  : True ∧ ∀ q, none = some q → mub_46_5 n0 n1 n2 n0 n1 n2 n3 n4 H0 H0 < q := by
  exact ⟨trivial, fun q hq => nomatch hq⟩
theorem c_46_s_0 : vOkm T0 (eP e_46 L_46 A_46 mu_46 none) 3 ([], (4000, [0, 1, 2, 3, 4], [0], 5)) := vOk_inI fun ρ η => q_46_0 (n0 := ρ 0) (n1 := ρ 1) (n2 := ρ 2) (n3 := ρ 3) (n4 := ρ 4) (H0 := η 0)
def p_46_s : List vG := [([], (4000, [0, 1, 2, 3, 4], [0], 5))]
theorem r_46_s : vCovO true (eR0 e_46 L_46 cs_46 2000) p_46_s = true := by decide +kernel
theorem q_46_1 {q0 : Nat} {n0 n1 n2 n3 n4 n5 n6 n7 n8 n9 : Int} {H0 H1 H2 : gH} (f0 : n0 ≤ 2147483647) (f1 : (-2147483648) ≤ n0) (f2 : (hLe T0 H0 H1 ∧ hFr s_46.2.2.2.2 H0 H1 ∧ hWt T0 H1) ∧ (True ∧ True) ∧ some q0 = some (mub_46_5 n1 n2 n3 n4 n5 n6 n7 n0 H0 H1)) (f3 : n8 ≤ 40) (f4 : 0 ≤ n8) (f5 : n0 < n8) (f6 : n9 = w32 (n0 + 1)) : True ∧ ∀ q, some q0 = some q → mub_46_5 n1 n2 n3 n4 n5 n6 n7 n9 H0 H2 < q := by
  have g5 := Option.some.inj f2.2.2
  unfold mub_46_5 at g5
  unfold mub_46_5
  unfold w32 at f6
  refine ⟨?_, fun q hq => ?_⟩
  · trivial
  · have g6 := Option.some.inj hq
    subst g6
    omega
theorem c_46_5_0 {q0 : Nat} : vOkm T0 (eP e_46 L_46 A_46 mu_46 (some q0)) 3 ([(10, [10, 7], [], 1), (42, [7, 8], [], 0), (90, [8], [], 0), (91, [8], [], 40), (5000, [0, 1, 2, 3, 4, 5, 6, 7], [0, 1], 5), (90, [7], [], -2147483648), (91, [7], [], 2147483647)], (4000, [3, 4, 5, 6, 10], [2], 5)) := vOk_inI fun ρ η f0 f1 f2 f3 f4 f5 f6 => q_46_1 (q0 := q0) (n0 := ρ 7) (n1 := ρ 0) (n2 := ρ 1) (n3 := ρ 2) (n4 := ρ 3) (n5 := ρ 4) (n6 := ρ 5) (n7 := ρ 6) (n8 := ρ 8) (n9 := ρ 10) (H0 := η 0) (H1 := η 1) (H2 := η 2) f6 f5 f4 f3 f2 f1 f0
theorem c_46_5_1 {q0 : Nat} : vOkm T0 (eP e_46 L_46 A_46 mu_46 (some q0)) 3 ([(10, [11, 7], [], 1), (42, [7, 8], [], 0), (90, [8], [], 0), (91, [8], [], 40), (5000, [0, 1, 2, 3, 4, 5, 6, 7], [0, 1], 5), (90, [7], [], -2147483648), (91, [7], [], 2147483647)], (4000, [3, 4, 5, 6, 11], [2], 5)) := vOk_inI fun ρ η f0 f1 f2 f3 f4 f5 f6 => q_46_1 (q0 := q0) (n0 := ρ 7) (n1 := ρ 0) (n2 := ρ 1) (n3 := ρ 2) (n4 := ρ 3) (n5 := ρ 4) (n6 := ρ 5) (n7 := ρ 6) (n8 := ρ 8) (n9 := ρ 11) (H0 := η 0) (H1 := η 1) (H2 := η 2) f6 f5 f4 f3 f2 f1 f0
theorem q_46_2 {q0 : Nat} {n0 n1 n2 n3 n4 n5 n6 n7 n8 n9 n10 : Int} {H0 H1 H2 : gH} (f0 : n0 ≤ 2147483647) (f1 : (-2147483648) ≤ n0) (f2 : (hLe T0 H0 H1 ∧ hFr s_46.2.2.2.2 H0 H1 ∧ hWt T0 H1) ∧ (True ∧ True) ∧ some q0 = some (mub_46_5 n1 n2 n3 n4 n5 n6 n7 n0 H0 H1)) (f3 : n8 ≤ 40) (f4 : 0 ≤ n8) (f5 : n0 < n8) (f6 : n9 = w32 (n0 + 1)) : True ∧ ∀ q, some q0 = some q → mub_46_5 n1 n2 n3 n4 n5 n6 n10 n9 H0 H2 < q := by
  have g5 := Option.some.inj f2.2.2
  unfold mub_46_5 at g5
  unfold mub_46_5
  unfold w32 at f6
  refine ⟨?_, fun q hq => ?_⟩
  · trivial
  · have g6 := Option.some.inj hq
    subst g6
    omega
theorem c_46_5_2 {q0 : Nat} : vOkm T0 (eP e_46 L_46 A_46 mu_46 (some q0)) 3 ([(10, [18, 7], [], 1), (42, [7, 8], [], 0), (90, [8], [], 0), (91, [8], [], 40), (5000, [0, 1, 2, 3, 4, 5, 6, 7], [0, 1], 5), (90, [7], [], -2147483648), (91, [7], [], 2147483647)], (4000, [3, 4, 5, 17, 18], [3], 5)) := vOk_inI fun ρ η f0 f1 f2 f3 f4 f5 f6 => q_46_2 (q0 := q0) (n0 := ρ 7) (n1 := ρ 0) (n2 := ρ 1) (n3 := ρ 2) (n4 := ρ 3) (n5 := ρ 4) (n6 := ρ 5) (n7 := ρ 6) (n8 := ρ 8) (n9 := ρ 18) (n10 := ρ 17) (H0 := η 0) (H1 := η 1) (H2 := η 3) f6 f5 f4 f3 f2 f1 f0
theorem c_46_5_3 {q0 : Nat} : vOkm T0 (eP e_46 L_46 A_46 mu_46 (some q0)) 3 ([(10, [20, 7], [], 1), (42, [7, 8], [], 0), (90, [8], [], 0), (91, [8], [], 40), (5000, [0, 1, 2, 3, 4, 5, 6, 7], [0, 1], 5), (90, [7], [], -2147483648), (91, [7], [], 2147483647)], (4000, [3, 4, 5, 19, 20], [3], 5)) := vOk_inI fun ρ η f0 f1 f2 f3 f4 f5 f6 => q_46_2 (q0 := q0) (n0 := ρ 7) (n1 := ρ 0) (n2 := ρ 1) (n3 := ρ 2) (n4 := ρ 3) (n5 := ρ 4) (n6 := ρ 5) (n7 := ρ 6) (n8 := ρ 8) (n9 := ρ 20) (n10 := ρ 19) (H0 := η 0) (H1 := η 1) (H2 := η 3) f6 f5 f4 f3 f2 f1 f0
theorem c_46_5_4 {q0 : Nat} : vOkm T0 (eP e_46 L_46 A_46 mu_46 (some q0)) 3 ([(10, [21, 7], [], 1), (42, [7, 8], [], 0), (90, [8], [], 0), (91, [8], [], 40), (5000, [0, 1, 2, 3, 4, 5, 6, 7], [0, 1], 5), (90, [7], [], -2147483648), (91, [7], [], 2147483647)], (4000, [3, 4, 5, 20, 21], [3], 5)) := vOk_inI fun ρ η f0 f1 f2 f3 f4 f5 f6 => q_46_2 (q0 := q0) (n0 := ρ 7) (n1 := ρ 0) (n2 := ρ 1) (n3 := ρ 2) (n4 := ρ 3) (n5 := ρ 4) (n6 := ρ 5) (n7 := ρ 6) (n8 := ρ 8) (n9 := ρ 21) (n10 := ρ 20) (H0 := η 0) (H1 := η 1) (H2 := η 3) f6 f5 f4 f3 f2 f1 f0
theorem c_46_5_5 {q0 : Nat} : vOkm T0 (eP e_46 L_46 A_46 mu_46 (some q0)) 3 ([(10, [23, 7], [], 1), (42, [7, 8], [], 0), (90, [8], [], 0), (91, [8], [], 40), (5000, [0, 1, 2, 3, 4, 5, 6, 7], [0, 1], 5), (90, [7], [], -2147483648), (91, [7], [], 2147483647)], (4000, [3, 4, 5, 22, 23], [3], 5)) := vOk_inI fun ρ η f0 f1 f2 f3 f4 f5 f6 => q_46_2 (q0 := q0) (n0 := ρ 7) (n1 := ρ 0) (n2 := ρ 1) (n3 := ρ 2) (n4 := ρ 3) (n5 := ρ 4) (n6 := ρ 5) (n7 := ρ 6) (n8 := ρ 8) (n9 := ρ 23) (n10 := ρ 22) (H0 := η 0) (H1 := η 1) (H2 := η 3) f6 f5 f4 f3 f2 f1 f0
theorem c_46_5_6 {q0 : Nat} : vOkm T0 (eP e_46 L_46 A_46 mu_46 (some q0)) 3 ([(10, [21, 7], [], 1), (42, [7, 8], [], 0), (90, [8], [], 0), (91, [8], [], 40), (5000, [0, 1, 2, 3, 4, 5, 6, 7], [0, 1], 5), (90, [7], [], -2147483648), (91, [7], [], 2147483647)], (4000, [3, 4, 5, 20, 21], [3], 5)) := vOk_inI fun ρ η f0 f1 f2 f3 f4 f5 f6 => q_46_2 (q0 := q0) (n0 := ρ 7) (n1 := ρ 0) (n2 := ρ 1) (n3 := ρ 2) (n4 := ρ 3) (n5 := ρ 4) (n6 := ρ 5) (n7 := ρ 6) (n8 := ρ 8) (n9 := ρ 21) (n10 := ρ 20) (H0 := η 0) (H1 := η 1) (H2 := η 3) f6 f5 f4 f3 f2 f1 f0
theorem c_46_5_7 {q0 : Nat} : vOkm T0 (eP e_46 L_46 A_46 mu_46 (some q0)) 3 ([(10, [23, 7], [], 1), (42, [7, 8], [], 0), (90, [8], [], 0), (91, [8], [], 40), (5000, [0, 1, 2, 3, 4, 5, 6, 7], [0, 1], 5), (90, [7], [], -2147483648), (91, [7], [], 2147483647)], (4000, [3, 4, 5, 22, 23], [3], 5)) := vOk_inI fun ρ η f0 f1 f2 f3 f4 f5 f6 => q_46_2 (q0 := q0) (n0 := ρ 7) (n1 := ρ 0) (n2 := ρ 1) (n3 := ρ 2) (n4 := ρ 3) (n5 := ρ 4) (n6 := ρ 5) (n7 := ρ 6) (n8 := ρ 8) (n9 := ρ 23) (n10 := ρ 22) (H0 := η 0) (H1 := η 1) (H2 := η 3) f6 f5 f4 f3 f2 f1 f0
def p_46_5 : List vG := [([(10, [10, 7], [], 1), (42, [7, 8], [], 0), (90, [8], [], 0), (91, [8], [], 40), (5000, [0, 1, 2, 3, 4, 5, 6, 7], [0, 1], 5), (90, [7], [], -2147483648), (91, [7], [], 2147483647)], (4000, [3, 4, 5, 6, 10], [2], 5)),
  ([(10, [11, 7], [], 1), (42, [7, 8], [], 0), (90, [8], [], 0), (91, [8], [], 40), (5000, [0, 1, 2, 3, 4, 5, 6, 7], [0, 1], 5), (90, [7], [], -2147483648), (91, [7], [], 2147483647)], (4000, [3, 4, 5, 6, 11], [2], 5)),
  ([(10, [18, 7], [], 1), (42, [7, 8], [], 0), (90, [8], [], 0), (91, [8], [], 40), (5000, [0, 1, 2, 3, 4, 5, 6, 7], [0, 1], 5), (90, [7], [], -2147483648), (91, [7], [], 2147483647)], (4000, [3, 4, 5, 17, 18], [3], 5)),
  ([(10, [20, 7], [], 1), (42, [7, 8], [], 0), (90, [8], [], 0), (91, [8], [], 40), (5000, [0, 1, 2, 3, 4, 5, 6, 7], [0, 1], 5), (90, [7], [], -2147483648), (91, [7], [], 2147483647)], (4000, [3, 4, 5, 19, 20], [3], 5)),
  ([(10, [21, 7], [], 1), (42, [7, 8], [], 0), (90, [8], [], 0), (91, [8], [], 40), (5000, [0, 1, 2, 3, 4, 5, 6, 7], [0, 1], 5), (90, [7], [], -2147483648), (91, [7], [], 2147483647)], (4000, [3, 4, 5, 20, 21], [3], 5)),
  ([(10, [23, 7], [], 1), (42, [7, 8], [], 0), (90, [8], [], 0), (91, [8], [], 40), (5000, [0, 1, 2, 3, 4, 5, 6, 7], [0, 1], 5), (90, [7], [], -2147483648), (91, [7], [], 2147483647)], (4000, [3, 4, 5, 22, 23], [3], 5)),
  ([(10, [21, 7], [], 1), (42, [7, 8], [], 0), (90, [8], [], 0), (91, [8], [], 40), (5000, [0, 1, 2, 3, 4, 5, 6, 7], [0, 1], 5), (90, [7], [], -2147483648), (91, [7], [], 2147483647)], (4000, [3, 4, 5, 20, 21], [3], 5)),
  ([(10, [23, 7], [], 1), (42, [7, 8], [], 0), (90, [8], [], 0), (91, [8], [], 40), (5000, [0, 1, 2, 3, 4, 5, 6, 7], [0, 1], 5), (90, [7], [], -2147483648), (91, [7], [], 2147483647)], (4000, [3, 4, 5, 22, 23], [3], 5))]
theorem r_46_5 : vCovO true (eRc e_46 L_46 cs_46 2000 (5, [(0, (3, 2, 274, 0)), (1, (3, 6, -1, 0)), (2, (0, -2147483648, 2147483647, 0)), (3, (0, -2147483648, 2147483647, 0)), (4, (0, -2147483648, 2147483647, 0))])) p_46_5 = true := by decide +kernel
theorem m_46 (d : Nat) : eC e_46 (d + 4) := eC_ok (e := e_46) (L := L_46) (cs := cs_46) (n := 2000) (d := d + 3) (A := A_46) (μ := mu_46) (tp := true) (p0 := p_46_s) rfl ⟨m_47 d, ⟨m_115 (d + 2), trivial⟩⟩ rfl (.inr pre0_ok) (by decide +kernel) (fun _ => post0_ok) r_46_s (allC c_46_s_0 allN) (allC (.inl ⟨p_46_5, r_46_5, fun q0 => (allC c_46_5_0 (allC c_46_5_1 (allC c_46_5_2 (allC c_46_5_3 (allC c_46_5_4 (allC c_46_5_5 (allC c_46_5_6 (allC c_46_5_7 allN))))))))⟩) allN)
/- Mixer.turnDown (I)V -/
noncomputable def s_45 : vM := ([(3, 2, 274, 0), (0, -2147483648, 2147483647, 0)], (9, 0, 0, 0), 0, 0, [(757, 0)])
noncomputable def e_45 : vE := (45, s_45, pre0, post0)
noncomputable def L_45 : List vE := [e_199k748, e_200k757, e_202k757]
def cs_45 : List vC := [(2, [(0, (3, 2, 274, 0)), (1, (0, -2147483648, 2147483647, 0)), (2, (0, -2147483648, 2147483647, 0))])]
def mub_45_2 (a0 a1 x0 x1 x2 : Int) (h0 h : gH) : Nat := (2147483648 - x2).toNat
def A_45 : Int → List Int → gH → gH → Prop := fun c xs h0 h => True
def mu_45 : Int → List Int → gH → gH → Nat := fun c xs h0 h => match c.toNat with
  | 2 => (match xs with
    | [a0, a1, x0, x1, x2] => mub_45_2 a0 a1 x0 x1 x2 h0 h
    | _ => 0)
  | _ => 0
theorem q_45_0 {n0 n1 n2 : Int} {H0 : gH}  : True ∧ ∀ q, none = some q → mub_45_2 n0 n1 n0 n1 n2 H0 H0 < q := by
  exact ⟨trivial, fun q hq => nomatch hq⟩
theorem c_45_s_0 : vOkm T0 (eP e_45 L_45 A_45 mu_45 none) 2 ([], (4000, [0, 1, 2], [0], 2)) := vOk_inI fun ρ η => q_45_0 (n0 := ρ 0) (n1 := ρ 1) (n2 := ρ 2) (H0 := η 0)
def p_45_s : List vG := [([], (4000, [0, 1, 2], [0], 2))]
theorem r_45_s : vCovO true (eR0 e_45 L_45 cs_45 2000) p_45_s = true := by decide +kernel
theorem q_45_1 {q0 : Nat} {n0 n1 n2 n3 n4 n5 n6 : Int} {H0 H1 H2 : gH} (f0 : n0 ≤ 2147483647) (f1 : (-2147483648) ≤ n0) (f2 : (hLe T0 H0 H1 ∧ hFr s_45.2.2.2.2 H0 H1 ∧ hWt T0 H1) ∧ (True ∧ True) ∧ some q0 = some (mub_45_2 n1 n2 n3 n4 n0 H0 H1)) (f3 : n5 ≤ 2147483647) (f4 : (-2147483648) ≤ n5) (f5 : n0 < n5) (f6 : n6 = w32 (n0 + 1)) : True ∧ ∀ q, some q0 = some q → mub_45_2 n1 n2 n3 n4 n6 H0 H2 < q := by
  have g5 := Option.some.inj f2.2.2
  unfold mub_45_2 at g5
  unfold mub_45_2
  unfold w32 at f6
  refine ⟨?_, fun q hq => ?_⟩
  · trivial
  · have g6 := Option.some.inj hq
    subst g6
    omega
theorem c_45_2_0 {q0 : Nat} : vOkm T0 (eP e_45 L_45 A_45 mu_45 (some q0)) 2 ([(10, [18, 4], [], 1), (42, [4, 5], [], 0), (90, [5], [], -2147483648), (91, [5], [], 2147483647), (5000, [0, 1, 2, 3, 4], [0, 1], 2), (90, [4], [], -2147483648), (91, [4], [], 2147483647)], (4000, [2, 3, 18], [4], 2)) := vOk_inI fun ρ η f0 f1 f2 f3 f4 f5 f6 => q_45_1 (q0 := q0) (n0 := ρ 4) (n1 := ρ 0) (n2 := ρ 1) (n3 := ρ 2) (n4 := ρ 3) (n5 := ρ 5) (n6 := ρ 18) (H0 := η 0) (H1 := η 1) (H2 := η 4) f6 f5 f4 f3 f2 f1 f0
def p_45_2 : List vG := [([(10, [18, 4], [], 1), (42, [4, 5], [], 0), (90, [5], [], -2147483648), (91, [5], [], 2147483647), (5000, [0, 1, 2, 3, 4], [0, 1], 2), (90, [4], [], -2147483648), (91, [4], [], 2147483647)], (4000, [2, 3, 18], [4], 2))]
theorem r_45_2 : vCovO true (eRc e_45 L_45 cs_45 2000 (2, [(0, (3, 2, 274, 0)), (1, (0, -2147483648, 2147483647, 0)), (2, (0, -2147483648, 2147483647, 0))])) p_45_2 = true := by decide +kernel
theorem m_45 (d : Nat) : eC e_45 (d + 2) := eC_ok (e := e_45) (L := L_45) (cs := cs_45) (n := 2000) (d := d + 1) (A := A_45) (μ := mu_45) (tp := true) (p0 := p_45_s) rfl ⟨m_199k748 d, ⟨m_200k757 d, ⟨m_202k757 d, trivial⟩⟩⟩ rfl (.inr pre0_ok) (by decide +kernel) (fun _ => post0_ok) r_45_s (allC c_45_s_0 allN) (allC (.inl ⟨p_45_2, r_45_2, fun q0 => (allC c_45_2_0 allN)⟩) allN)
/- Mixer.dip (LMixStage$Cue;)V -/
noncomputable def s_48 : vM := ([(3, 2, 274, 0), (2, 1, -1, 0)], (9, 0, 0, 0), 0, 0, [(757, 0)])
noncomputable def e_48 : vE := (48, s_48, pre0, post0)
noncomputable def L_48 : List vE := [e_199k748, e_200k757, e_202k757, e_317]
def cs_48 : List vC := [(31, [(0, (3, 2, 274, 0)), (1, (3, 1, -1, 0)), (2, (0, -2147483648, 2147483647, 0)), (3, (0, -2147483648, 2147483647, 0)), (4, (0, -2147483648, 2147483647, 0))])]
def mub_48_31 (a0 a1 x0 x1 x2 x3 x4 : Int) (h0 h : gH) : Nat := (2147483648 - x4).toNat
def A_48 : Int → List Int → gH → gH → Prop := fun c xs h0 h => True
def mu_48 : Int → List Int → gH → gH → Nat := fun c xs h0 h => match c.toNat with
  | 31 => (match xs with
    | [a0, a1, x0, x1, x2, x3, x4] => mub_48_31 a0 a1 x0 x1 x2 x3 x4 h0 h
    | _ => 0)
  | _ => 0
theorem q_48_0 {n0 n1 n2 n3 n4 : Int} {H0 H1 : gH}  : True ∧ ∀ q, none = some q → mub_48_31 n0 n1 n0 n1 n2 n3 n4 H0 H1 < q := by
  exact ⟨trivial, fun q hq => nomatch hq⟩
theorem c_48_s_0 : vOkm T0 (eP e_48 L_48 A_48 mu_48 none) 2 ([], (4000, [0, 1, 8, 9, 10], [1], 31)) := vOk_inI fun ρ η => q_48_0 (n0 := ρ 0) (n1 := ρ 1) (n2 := ρ 8) (n3 := ρ 9) (n4 := ρ 10) (H0 := η 0) (H1 := η 1)
def p_48_s : List vG := [([], (4000, [0, 1, 8, 9, 10], [1], 31))]
theorem r_48_s : vCovO true (eR0 e_48 L_48 cs_48 2000) p_48_s = true := by decide +kernel
theorem q_48_1 {q0 : Nat} {n0 n1 n2 n3 n4 n5 n6 n7 n8 : Int} {H0 H1 H2 : gH} (f0 : n0 ≤ 2147483647) (f1 : (-2147483648) ≤ n0) (f2 : (hLe T0 H0 H1 ∧ hFr s_48.2.2.2.2 H0 H1 ∧ hWt T0 H1) ∧ (True ∧ True) ∧ some q0 = some (mub_48_31 n1 n2 n3 n4 n5 n6 n0 H0 H1)) (f3 : n7 ≤ 2147483647) (f4 : (-2147483648) ≤ n7) (f5 : n0 < n7) (f6 : n8 = w32 (n0 + 1)) : True ∧ ∀ q, some q0 = some q → mub_48_31 n1 n2 n3 n4 n5 n6 n8 H0 H2 < q := by
  have g5 := Option.some.inj f2.2.2
  unfold mub_48_31 at g5
  unfold mub_48_31
  unfold w32 at f6
  refine ⟨?_, fun q hq => ?_⟩
  · trivial
  · have g6 := Option.some.inj hq
    subst g6
    omega
theorem c_48_31_0 {q0 : Nat} : vOkm T0 (eP e_48 L_48 A_48 mu_48 (some q0)) 2 ([(10, [18, 6], [], 1), (42, [6, 7], [], 0), (90, [7], [], -2147483648), (91, [7], [], 2147483647), (5000, [0, 1, 2, 3, 4, 5, 6], [0, 1], 31), (90, [6], [], -2147483648), (91, [6], [], 2147483647)], (4000, [2, 3, 4, 5, 18], [2], 31)) := vOk_inI fun ρ η f0 f1 f2 f3 f4 f5 f6 => q_48_1 (q0 := q0) (n0 := ρ 6) (n1 := ρ 0) (n2 := ρ 1) (n3 := ρ 2) (n4 := ρ 3) (n5 := ρ 4) (n6 := ρ 5) (n7 := ρ 7) (n8 := ρ 18) (H0 := η 0) (H1 := η 1) (H2 := η 2) f6 f5 f4 f3 f2 f1 f0
theorem c_48_31_1 {q0 : Nat} : vOkm T0 (eP e_48 L_48 A_48 mu_48 (some q0)) 2 ([(10, [29, 6], [], 1), (42, [6, 7], [], 0), (90, [7], [], -2147483648), (91, [7], [], 2147483647), (5000, [0, 1, 2, 3, 4, 5, 6], [0, 1], 31), (90, [6], [], -2147483648), (91, [6], [], 2147483647)], (4000, [2, 3, 4, 5, 29], [4], 31)) := vOk_inI fun ρ η f0 f1 f2 f3 f4 f5 f6 => q_48_1 (q0 := q0) (n0 := ρ 6) (n1 := ρ 0) (n2 := ρ 1) (n3 := ρ 2) (n4 := ρ 3) (n5 := ρ 4) (n6 := ρ 5) (n7 := ρ 7) (n8 := ρ 29) (H0 := η 0) (H1 := η 1) (H2 := η 4) f6 f5 f4 f3 f2 f1 f0
theorem q_48_2 {q0 : Nat} {n0 n1 n2 n3 n4 n5 n6 n7 n8 : Int} {H0 H1 H2 : gH} (f0 : n0 ≤ 2147483647) (f1 : (-2147483648) ≤ n0) (f2 : (hLe T0 H0 H1 ∧ hFr s_48.2.2.2.2 H0 H1 ∧ hWt T0 H1) ∧ (True ∧ True) ∧ some q0 = some (mub_48_31 n1 n2 n3 n4 n5 n6 n0 H0 H1)) (f3 : n7 ≤ 2147483647) (f4 : (-2147483648) ≤ n7) (f5 : n0 < n7) (f6 : n8 = w32 (n0 + 1)) : True ∧ ∀ q, some q0 = some q → mub_48_31 n1 n2 n3 n4 n5 n0 n8 H0 H2 < q := by
  have g5 := Option.some.inj f2.2.2
  unfold mub_48_31 at g5
  unfold mub_48_31
  unfold w32 at f6
  refine ⟨?_, fun q hq => ?_⟩
  · trivial
  · have g6 := Option.some.inj hq
    subst g6
    omega
theorem c_48_31_2 {q0 : Nat} : vOkm T0 (eP e_48 L_48 A_48 mu_48 (some q0)) 2 ([(10, [18, 6], [], 1), (42, [6, 7], [], 0), (90, [7], [], -2147483648), (91, [7], [], 2147483647), (5000, [0, 1, 2, 3, 4, 5, 6], [0, 1], 31), (90, [6], [], -2147483648), (91, [6], [], 2147483647)], (4000, [2, 3, 4, 6, 18], [2], 31)) := vOk_inI fun ρ η f0 f1 f2 f3 f4 f5 f6 => q_48_2 (q0 := q0) (n0 := ρ 6) (n1 := ρ 0) (n2 := ρ 1) (n3 := ρ 2) (n4 := ρ 3) (n5 := ρ 4) (n6 := ρ 5) (n7 := ρ 7) (n8 := ρ 18) (H0 := η 0) (H1 := η 1) (H2 := η 2) f6 f5 f4 f3 f2 f1 f0
theorem c_48_31_3 {q0 : Nat} : vOkm T0 (eP e_48 L_48 A_48 mu_48 (some q0)) 2 ([(10, [29, 6], [], 1), (42, [6, 7], [], 0), (90, [7], [], -2147483648), (91, [7], [], 2147483647), (5000, [0, 1, 2, 3, 4, 5, 6], [0, 1], 31), (90, [6], [], -2147483648), (91, [6], [], 2147483647)], (4000, [2, 3, 4, 6, 29], [4], 31)) := vOk_inI fun ρ η f0 f1 f2 f3 f4 f5 f6 => q_48_2 (q0 := q0) (n0 := ρ 6) (n1 := ρ 0) (n2 := ρ 1) (n3 := ρ 2) (n4 := ρ 3) (n5 := ρ 4) (n6 := ρ 5) (n7 := ρ 7) (n8 := ρ 29) (H0 := η 0) (H1 := η 1) (H2 := η 4) f6 f5 f4 f3 f2 f1 f0
def p_48_31 : List vG := [([(10, [18, 6], [], 1), (42, [6, 7], [], 0), (90, [7], [], -2147483648), (91, [7], [], 2147483647), (5000, [0, 1, 2, 3, 4, 5, 6], [0, 1], 31), (90, [6], [], -2147483648), (91, [6], [], 2147483647)], (4000, [2, 3, 4, 5, 18], [2], 31)),
  ([(10, [29, 6], [], 1), (42, [6, 7], [], 0), (90, [7], [], -2147483648), (91, [7], [], 2147483647), (5000, [0, 1, 2, 3, 4, 5, 6], [0, 1], 31), (90, [6], [], -2147483648), (91, [6], [], 2147483647)], (4000, [2, 3, 4, 5, 29], [4], 31)),
  ([(10, [18, 6], [], 1), (42, [6, 7], [], 0), (90, [7], [], -2147483648), (91, [7], [], 2147483647), (5000, [0, 1, 2, 3, 4, 5, 6], [0, 1], 31), (90, [6], [], -2147483648), (91, [6], [], 2147483647)], (4000, [2, 3, 4, 6, 18], [2], 31)),
  ([(10, [29, 6], [], 1), (42, [6, 7], [], 0), (90, [7], [], -2147483648), (91, [7], [], 2147483647), (5000, [0, 1, 2, 3, 4, 5, 6], [0, 1], 31), (90, [6], [], -2147483648), (91, [6], [], 2147483647)], (4000, [2, 3, 4, 6, 29], [4], 31))]
theorem r_48_31 : vCovO true (eRc e_48 L_48 cs_48 2000 (31, [(0, (3, 2, 274, 0)), (1, (3, 1, -1, 0)), (2, (0, -2147483648, 2147483647, 0)), (3, (0, -2147483648, 2147483647, 0)), (4, (0, -2147483648, 2147483647, 0))])) p_48_31 = true := by decide +kernel
theorem m_48 (d : Nat) : eC e_48 (d + 2) := eC_ok (e := e_48) (L := L_48) (cs := cs_48) (n := 2000) (d := d + 1) (A := A_48) (μ := mu_48) (tp := true) (p0 := p_48_s) rfl ⟨m_199k748 d, ⟨m_200k757 d, ⟨m_202k757 d, ⟨m_317 d, trivial⟩⟩⟩⟩ rfl (.inr pre0_ok) (by decide +kernel) (fun _ => post0_ok) r_48_s (allC c_48_s_0 allN) (allC (.inl ⟨p_48_31, r_48_31, fun q0 => (allC c_48_31_0 (allC c_48_31_1 (allC c_48_31_2 (allC c_48_31_3 allN))))⟩) allN)
/- Mixer.tap (LMixStage$Cue;)V -/
noncomputable def s_49 : vM := ([(3, 2, 274, 0), (2, 1, -1, 0)], (9, 0, 0, 0), 0, 0, [(757, 0)])
noncomputable def e_49 : vE := (49, s_49, pre0, post0)
noncomputable def L_49 : List vE := [e_199k796, e_200k757, e_202k757]
def cs_49 : List vC := [(20, [(0, (3, 2, 274, 0)), (1, (3, 1, -1, 0)), (2, (0, -2147483648, 2147483647, 0))]), (29, [(0, (3, 2, 274, 0)), (1, (3, 1, -1, 0)), (2, (0, -2147483647, 2147483647, 0)), (3, (1, 0, 0, 0)), (5, (0, -2147483648, 2147483647, 0))])]
def mub_49_20 (a0 a1 x0 x1 x2 : Int) (h0 h : gH) : Nat := (8589934592 + (x2 + 2147483648).toNat) * 1099511627776 + 1099511627775
def mub_49_29 (a0 a1 x0 x1 x2 x3 x5 : Int) (h0 h : gH) : Nat := (8589934592 + (x2 + 2147483648).toNat) * 1099511627776 + (8589934592 + (2147483648 - x5).toNat) * 1
def A_49 : Int → List Int → gH → gH → Prop := fun c xs h0 h => True
def mu_49 : Int → List Int → gH → gH → Nat := fun c xs h0 h => match c.toNat with
  | 20 => (match xs with
    | [a0, a1, x0, x1, x2] => mub_49_20 a0 a1 x0 x1 x2 h0 h
    | _ => 0)
  | 29 => (match xs with
    | [a0, a1, x0, x1, x2, x3, x5] => mub_49_29 a0 a1 x0 x1 x2 x3 x5 h0 h
    | _ => 0)
  | _ => 0
theorem q_49_0 {n0 n1 n2 : Int} {H0 : gH}  : True ∧ ∀ q, none = some q → mub_49_20 n0 n1 n0 n1 n2 H0 H0 < q := by
  exact ⟨trivial, fun q hq => nomatch hq⟩
theorem c_49_s_0 : vOkm T0 (eP e_49 L_49 A_49 mu_49 none) 2 ([], (4000, [0, 1, 6], [0], 20)) := vOk_inI fun ρ η => q_49_0 (n0 := ρ 0) (n1 := ρ 1) (n2 := ρ 6) (H0 := η 0)
def p_49_s : List vG := [([], (4000, [0, 1, 6], [0], 20))]
theorem r_49_s : vCovO true (eR0 e_49 L_49 cs_49 2000) p_49_s = true := by decide +kernel
theorem q_49_1 {q0 : Nat} {n0 n1 n2 n3 n4 n5 n6 : Int} {H0 H1 : gH} (f0 : n0 ≤ 2147483647) (f1 : (-2147483648) ≤ n0) (f2 : (hLe T0 H0 H1 ∧ hFr s_49.2.2.2.2 H0 H1 ∧ hWt T0 H1) ∧ (True ∧ True) ∧ some q0 = some (mub_49_20 n1 n2 n3 n4 n0 H0 H1)) (f3 : 0 ≤ n0) (f4 : n5 = 0) : True ∧ ∀ q, some q0 = some q → mub_49_29 n1 n2 n3 n4 n0 n6 n5 H0 H1 < q := by
  have g5 := Option.some.inj f2.2.2
  unfold mub_49_20 at g5
  unfold mub_49_29
  refine ⟨?_, fun q hq => ?_⟩
  · trivial
  · have g6 := Option.some.inj hq
    subst g6
    omega
theorem c_49_20_0 {q0 : Nat} : vOkm T0 (eP e_49 L_49 A_49 mu_49 (some q0)) 2 ([(0, [6], [], 0), (33, [4], [], 0), (5000, [0, 1, 2, 3, 4], [0, 1], 20), (90, [4], [], -2147483648), (91, [4], [], 2147483647)], (4000, [2, 3, 4, 5, 6], [1], 29)) := vOk_inI fun ρ η f0 f1 f2 f3 f4 => q_49_1 (q0 := q0) (n0 := ρ 4) (n1 := ρ 0) (n2 := ρ 1) (n3 := ρ 2) (n4 := ρ 3) (n5 := ρ 6) (n6 := ρ 5) (H0 := η 0) (H1 := η 1) f4 f3 f2 f1 f0
def p_49_20 : List vG := [([(0, [6], [], 0), (33, [4], [], 0), (5000, [0, 1, 2, 3, 4], [0, 1], 20), (90, [4], [], -2147483648), (91, [4], [], 2147483647)], (4000, [2, 3, 4, 5, 6], [1], 29))]
theorem r_49_20 : vCovO true (eRc e_49 L_49 cs_49 2000 (20, [(0, (3, 2, 274, 0)), (1, (3, 1, -1, 0)), (2, (0, -2147483648, 2147483647, 0))])) p_49_20 = true := by decide +kernel
theorem q_49_2 {q0 : Nat} {n0 n1 n2 n3 n4 n5 n6 n7 n8 : Int} {H0 H1 H2 : gH} (f0 : n0 ≤ 2147483647) (f1 : (-2147483648) ≤ n0) (f2 : n1 ≤ 2147483647) (f3 : (-2147483647) ≤ n1) (f4 : (hLe T0 H0 H1 ∧ hFr s_49.2.2.2.2 H0 H1 ∧ hWt T0 H1) ∧ (True ∧ True) ∧ some q0 = some (mub_49_29 n2 n3 n4 n5 n1 n6 n0 H0 H1)) (f5 : n7 ≤ 2147483647) (f6 : (-2147483648) ≤ n7) (f7 : n7 ≤ n0) (f8 : n8 = w32 (n1 + (-1))) : True ∧ ∀ q, some q0 = some q → mub_49_20 n2 n3 n4 n5 n8 H0 H2 < q := by
  have g5 := Option.some.inj f4.2.2
  unfold mub_49_29 at g5
  unfold mub_49_20
  unfold w32 at f8
  refine ⟨?_, fun q hq => ?_⟩
  · trivial
  · have g6 := Option.some.inj hq
    subst g6
    omega
theorem c_49_29_0 {q0 : Nat} : vOkm T0 (eP e_49 L_49 A_49 mu_49 (some q0)) 2 ([(10, [15, 4], [], -1), (43, [6, 7], [], 0), (90, [7], [], -2147483648), (91, [7], [], 2147483647), (5000, [0, 1, 2, 3, 4, 5, 6], [0, 1], 29), (90, [4], [], -2147483647), (91, [4], [], 2147483647), (90, [6], [], -2147483648), (91, [6], [], 2147483647)], (4000, [2, 3, 15], [2], 20)) := vOk_inI fun ρ η f0 f1 f2 f3 f4 f5 f6 f7 f8 => q_49_2 (q0 := q0) (n0 := ρ 6) (n1 := ρ 4) (n2 := ρ 0) (n3 := ρ 1) (n4 := ρ 2) (n5 := ρ 3) (n6 := ρ 5) (n7 := ρ 7) (n8 := ρ 15) (H0 := η 0) (H1 := η 1) (H2 := η 2) f8 f7 f6 f5 f4 f3 f2 f1 f0
theorem q_49_3 {q0 : Nat} {n0 n1 n2 n3 n4 n5 n6 n7 n8 : Int} {H0 H1 H2 : gH} (f0 : n0 ≤ 2147483647) (f1 : (-2147483648) ≤ n0) (f2 : n1 ≤ 2147483647) (f3 : (-2147483647) ≤ n1) (f4 : (hLe T0 H0 H1 ∧ hFr s_49.2.2.2.2 H0 H1 ∧ hWt T0 H1) ∧ (True ∧ True) ∧ some q0 = some (mub_49_29 n2 n3 n4 n5 n1 n6 n0 H0 H1)) (f5 : n7 ≤ 2147483647) (f6 : (-2147483648) ≤ n7) (f7 : n0 < n7) (f8 : n1 < n0) (f9 : n8 = w32 (n1 + (-1))) : True ∧ ∀ q, some q0 = some q → mub_49_20 n2 n3 n4 n5 n8 H0 H2 < q := by
  have g5 := Option.some.inj f4.2.2
  unfold mub_49_29 at g5
  unfold mub_49_20
  unfold w32 at f9
  refine ⟨?_, fun q hq => ?_⟩
  · trivial
  · have g6 := Option.some.inj hq
    subst g6
    omega
theorem c_49_29_1 {q0 : Nat} : vOkm T0 (eP e_49 L_49 A_49 mu_49 (some q0)) 2 ([(10, [15, 4], [], -1), (44, [6, 4], [], 0), (42, [6, 7], [], 0), (90, [7], [], -2147483648), (91, [7], [], 2147483647), (5000, [0, 1, 2, 3, 4, 5, 6], [0, 1], 29), (90, [4], [], -2147483647), (91, [4], [], 2147483647), (90, [6], [], -2147483648), (91, [6], [], 2147483647)], (4000, [2, 3, 15], [2], 20)) := vOk_inI fun ρ η f0 f1 f2 f3 f4 f5 f6 f7 f8 f9 => q_49_3 (q0 := q0) (n0 := ρ 6) (n1 := ρ 4) (n2 := ρ 0) (n3 := ρ 1) (n4 := ρ 2) (n5 := ρ 3) (n6 := ρ 5) (n7 := ρ 7) (n8 := ρ 15) (H0 := η 0) (H1 := η 1) (H2 := η 2) f9 f8 f7 f6 f5 f4 f3 f2 f1 f0
theorem q_49_4 {q0 : Nat} {n0 n1 n2 n3 n4 n5 n6 n7 n8 n9 : Int} {H0 H1 H2 : gH} (f0 : n0 ≤ 2147483647) (f1 : (-2147483648) ≤ n0) (f2 : n1 ≤ 2147483647) (f3 : (-2147483647) ≤ n1) (f4 : (hLe T0 H0 H1 ∧ hFr s_49.2.2.2.2 H0 H1 ∧ hWt T0 H1) ∧ (True ∧ True) ∧ some q0 = some (mub_49_29 n2 n3 n4 n5 n1 n6 n0 H0 H1)) (f5 : n7 ≤ 2147483647) (f6 : (-2147483648) ≤ n7) (f7 : n0 < n7) (f8 : n0 ≤ n1) (f9 : n8 = w32 (n0 + 1)) : True ∧ ∀ q, some q0 = some q → mub_49_29 n2 n3 n4 n5 n1 n9 n8 H0 H2 < q := by
  have g5 := Option.some.inj f4.2.2
  unfold mub_49_29 at g5
  unfold mub_49_29
  unfold w32 at f9
  refine ⟨?_, fun q hq => ?_⟩
  · trivial
  · have g6 := Option.some.inj hq
    subst g6
    omega
theorem c_49_29_2 {q0 : Nat} : vOkm T0 (eP e_49 L_49 A_49 mu_49 (some q0)) 2 ([(10, [20, 6], [], 1), (45, [6, 4], [], 0), (42, [6, 7], [], 0), (90, [7], [], -2147483648), (91, [7], [], 2147483647), (5000, [0, 1, 2, 3, 4, 5, 6], [0, 1], 29), (90, [4], [], -2147483647), (91, [4], [], 2147483647), (90, [6], [], -2147483648), (91, [6], [], 2147483647)], (4000, [2, 3, 4, 19, 20], [3], 29)) := vOk_inI fun ρ η f0 f1 f2 f3 f4 f5 f6 f7 f8 f9 => q_49_4 (q0 := q0) (n0 := ρ 6) (n1 := ρ 4) (n2 := ρ 0) (n3 := ρ 1) (n4 := ρ 2) (n5 := ρ 3) (n6 := ρ 5) (n7 := ρ 7) (n8 := ρ 20) (n9 := ρ 19) (H0 := η 0) (H1 := η 1) (H2 := η 3) f9 f8 f7 f6 f5 f4 f3 f2 f1 f0
def p_49_29 : List vG := [([(10, [15, 4], [], -1), (43, [6, 7], [], 0), (90, [7], [], -2147483648), (91, [7], [], 2147483647), (5000, [0, 1, 2, 3, 4, 5, 6], [0, 1], 29), (90, [4], [], -2147483647), (91, [4], [], 2147483647), (90, [6], [], -2147483648), (91, [6], [], 2147483647)], (4000, [2, 3, 15], [2], 20)),
  ([(10, [15, 4], [], -1), (44, [6, 4], [], 0), (42, [6, 7], [], 0), (90, [7], [], -2147483648), (91, [7], [], 2147483647), (5000, [0, 1, 2, 3, 4, 5, 6], [0, 1], 29), (90, [4], [], -2147483647), (91, [4], [], 2147483647), (90, [6], [], -2147483648), (91, [6], [], 2147483647)], (4000, [2, 3, 15], [2], 20)),
  ([(10, [20, 6], [], 1), (45, [6, 4], [], 0), (42, [6, 7], [], 0), (90, [7], [], -2147483648), (91, [7], [], 2147483647), (5000, [0, 1, 2, 3, 4, 5, 6], [0, 1], 29), (90, [4], [], -2147483647), (91, [4], [], 2147483647), (90, [6], [], -2147483648), (91, [6], [], 2147483647)], (4000, [2, 3, 4, 19, 20], [3], 29))]
theorem r_49_29 : vCovO true (eRc e_49 L_49 cs_49 2000 (29, [(0, (3, 2, 274, 0)), (1, (3, 1, -1, 0)), (2, (0, -2147483647, 2147483647, 0)), (3, (1, 0, 0, 0)), (5, (0, -2147483648, 2147483647, 0))])) p_49_29 = true := by decide +kernel
theorem m_49 (d : Nat) : eC e_49 (d + 2) := eC_ok (e := e_49) (L := L_49) (cs := cs_49) (n := 2000) (d := d + 1) (A := A_49) (μ := mu_49) (tp := true) (p0 := p_49_s) rfl ⟨m_199k796 d, ⟨m_200k757 d, ⟨m_202k757 d, trivial⟩⟩⟩ rfl (.inr pre0_ok) (by decide +kernel) (fun _ => post0_ok) r_49_s (allC c_49_s_0 allN) (allC (.inl ⟨p_49_20, r_49_20, fun q0 => (allC c_49_20_0 allN)⟩) (allC (.inl ⟨p_49_29, r_49_29, fun q0 => (allC c_49_29_0 (allC c_49_29_1 (allC c_49_29_2 allN)))⟩) allN))
