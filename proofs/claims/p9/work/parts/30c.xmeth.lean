/-! CONTRACTS of methods (printed by wip/gen/emit.py). -/
/- java/lang/Math.min (JJ)J -/
noncomputable def s_320 : vM := ([(1, 0, 0, 0), (1, 0, 0, 0)], (1, 0, 0, 0), 0, 0, [])
noncomputable def e_320 : vE := (320, s_320, pre0, post0)
noncomputable def L_320 : List vE := []
def cs_320 : List vC := []
def A_320 : Int → List Int → gH → gH → Prop := fun c xs h0 h => True
def mu_320 : Int → List Int → gH → gH → Nat := fun c xs h0 h => 0
def p_320_s : List vG := []
theorem r_320_s : vCovO true (eR0 e_320 L_320 cs_320 2000) p_320_s = true := by decide +kernel
theorem m_320 (d : Nat) : eC e_320 (d + 1) := eC_ok (e := e_320) (L := L_320) (cs := cs_320) (n := 2000) (d := d + 0) (A := A_320) (μ := mu_320) (tp := true) (p0 := p_320_s) rfl trivial rfl (.inr pre0_ok) (by decide +kernel) (fun _ => post0_ok) r_320_s allN allN
/- java/lang/Math.max (JJ)J -/
noncomputable def s_318 : vM := ([(1, 0, 0, 0), (1, 0, 0, 0)], (1, 0, 0, 0), 0, 0, [])
noncomputable def e_318 : vE := (318, s_318, pre0, post0)
noncomputable def L_318 : List vE := []
def cs_318 : List vC := []
def A_318 : Int → List Int → gH → gH → Prop := fun c xs h0 h => True
def mu_318 : Int → List Int → gH → gH → Nat := fun c xs h0 h => 0
def p_318_s : List vG := []
theorem r_318_s : vCovO true (eR0 e_318 L_318 cs_318 2000) p_318_s = true := by decide +kernel
theorem m_318 (d : Nat) : eC e_318 (d + 1) := eC_ok (e := e_318) (L := L_318) (cs := cs_318) (n := 2000) (d := d + 0) (A := A_318) (μ := mu_318) (tp := true) (p0 := p_318_s) rfl trivial rfl (.inr pre0_ok) (by decide +kernel) (fun _ => post0_ok) r_318_s allN allN
/- Mixer.blend (LMixStage$Sheet;I)V -/
noncomputable def s_43 : vM := ([(3, 2, 274, 0), (3, 6, -1, 0), (0, -2147483648, 2147483647, 0)], (9, 0, 0, 0), 0, 0, [(748, 0), (757, 0)])
noncomputable def e_43 : vE := (43, s_43, pre0, post0)
noncomputable def L_43 : List vE := [e_44, e_45, e_46, e_48, e_49, e_115, e_200k757, e_201k748, e_318, e_320]
def cs_43 : List vC := [(2, [(0, (3, 2, 274, 0)), (1, (3, 6, -1, 0)), (2, (0, -2147483648, 2147483647, 0)), (3, (0, -2147483648, 2147483647, 0))]), (30, [(0, (3, 2, 274, 0)), (1, (3, 6, -1, 0)), (2, (0, -2147483648, 2147483647, 0)), (3, (0, -2147483648, 2147483647, 0))]), (52, [(0, (3, 2, 274, 0)), (1, (3, 6, -1, 0)), (2, (0, -2147483648, 2147483647, 0)), (3, (0, -2147483648, 2147483647, 0))]), (82, [(0, (3, 2, 274, 0)), (1, (3, 6, -1, 0)), (2, (0, -2147483648, 2147483647, 0)), (3, (0, -2147483648, 2147483647, 0)), (4, (0, -2147483648, 2147483647, 0))]), (138, [(0, (3, 2, 274, 0)), (1, (3, 6, -1, 0)), (2, (0, -2147483648, 2147483647, 0)), (3, (0, -2147483648, 2147483647, 0)), (4, (0, -2147483648, 2147483647, 0))])]
def mub_43_2 (a0 a1 a2 x0 x1 x2 x3 : Int) (h0 h : gH) : Nat := (42949672960 + (2147483648 - x3).toNat) * 1
def mub_43_30 (a0 a1 a2 x0 x1 x2 x3 : Int) (h0 h : gH) : Nat := (34359738368 + (2147483648 - x3).toNat) * 1
def mub_43_52 (a0 a1 a2 x0 x1 x2 x3 : Int) (h0 h : gH) : Nat := (25769803776 + (2147483648 - x3).toNat) * 1
def mub_43_82 (a0 a1 a2 x0 x1 x2 x3 x4 : Int) (h0 h : gH) : Nat := (17179869184 + (2147483648 - x4).toNat) * 1
def mub_43_138 (a0 a1 a2 x0 x1 x2 x3 x4 : Int) (h0 h : gH) : Nat := (8589934592 + (2147483648 - x4).toNat) * 1
def A_43 : Int → List Int → gH → gH → Prop := fun c xs h0 h => True
def mu_43 : Int → List Int → gH → gH → Nat := fun c xs h0 h => match c.toNat with
  | 2 => (match xs with
    | [a0, a1, a2, x0, x1, x2, x3] => mub_43_2 a0 a1 a2 x0 x1 x2 x3 h0 h
    | _ => 0)
  | 30 => (match xs with
    | [a0, a1, a2, x0, x1, x2, x3] => mub_43_30 a0 a1 a2 x0 x1 x2 x3 h0 h
    | _ => 0)
  | 52 => (match xs with
    | [a0, a1, a2, x0, x1, x2, x3] => mub_43_52 a0 a1 a2 x0 x1 x2 x3 h0 h
    | _ => 0)
  | 82 => (match xs with
    | [a0, a1, a2, x0, x1, x2, x3, x4] => mub_43_82 a0 a1 a2 x0 x1 x2 x3 x4 h0 h
    | _ => 0)
  | 138 => (match xs with
    | [a0, a1, a2, x0, x1, x2, x3, x4] => mub_43_138 a0 a1 a2 x0 x1 x2 x3 x4 h0 h
    | _ => 0)
  | _ => 0
theorem q_43_0 {n0 n1 n2 n3 : Int} {H0 : gH}  : True ∧ ∀ q, none = some q → mub_43_2 n0 n1 n2 n0 n1 n2 n3 H0 H0 < q := by
  exact ⟨trivial, fun q hq => nomatch hq⟩
theorem c_43_s_0 : vOkm T0 (eP e_43 L_43 A_43 mu_43 none) 3 ([], (4000, [0, 1, 2, 3], [0], 2)) := vOk_inI fun ρ η => q_43_0 (n0 := ρ 0) (n1 := ρ 1) (n2 := ρ 2) (n3 := ρ 3) (H0 := η 0)
def p_43_s : List vG := [([], (4000, [0, 1, 2, 3], [0], 2))]
theorem r_43_s : vCovO true (eR0 e_43 L_43 cs_43 2000) p_43_s = true := by decide +kernel
theorem q_43_1 {q0 : Nat} {n0 n1 n2 n3 n4 n5 n6 n7 n8 : Int} {H0 H1 H2 : gH} (f0 : n0 ≤ 2147483647) (f1 : (-2147483648) ≤ n0) (f2 : (hLe T0 H0 H1 ∧ hFr s_43.2.2.2.2 H0 H1 ∧ hWt T0 H1) ∧ (True ∧ True) ∧ some q0 = some (mub_43_2 n1 n2 n3 n4 n5 n6 n0 H0 H1)) (f3 : n7 = 3) (f4 : n7 ≤ n0) (f5 : n8 = 0) : True ∧ ∀ q, some q0 = some q → mub_43_30 n1 n2 n3 n4 n5 n6 n8 H0 H2 < q := by
  have g5 := Option.some.inj f2.2.2
  unfold mub_43_2 at g5
  unfold mub_43_30
  refine ⟨?_, fun q hq => ?_⟩
  · trivial
  · have g6 := Option.some.inj hq
    subst g6
    omega
theorem c_43_2_0 {q0 : Nat} : vOkm T0 (eP e_43 L_43 A_43 mu_43 (some q0)) 3 ([(0, [8], [], 0), (43, [6, 7], [], 0), (0, [7], [], 3), (5000, [0, 1, 2, 3, 4, 5, 6], [0, 1], 2), (90, [6], [], -2147483648), (91, [6], [], 2147483647)], (4000, [3, 4, 5, 8], [2], 30)) := vOk_inI fun ρ η f0 f1 f2 f3 f4 f5 => q_43_1 (q0 := q0) (n0 := ρ 6) (n1 := ρ 0) (n2 := ρ 1) (n3 := ρ 2) (n4 := ρ 3) (n5 := ρ 4) (n6 := ρ 5) (n7 := ρ 7) (n8 := ρ 8) (H0 := η 0) (H1 := η 1) (H2 := η 2) f5 f4 f3 f2 f1 f0
theorem q_43_2 {q0 : Nat} {n0 n1 n2 n3 n4 n5 n6 n7 n8 : Int} {H0 H1 H2 : gH} (f0 : n0 ≤ 2147483647) (f1 : (-2147483648) ≤ n0) (f2 : (hLe T0 H0 H1 ∧ hFr s_43.2.2.2.2 H0 H1 ∧ hWt T0 H1) ∧ (True ∧ True) ∧ some q0 = some (mub_43_2 n1 n2 n3 n4 n5 n6 n0 H0 H1)) (f3 : n7 = 3) (f4 : n0 < n7) (f5 : n8 = w32 (n0 + 1)) : True ∧ ∀ q, some q0 = some q → mub_43_2 n1 n2 n3 n4 n5 n6 n8 H0 H2 < q := by
  have g5 := Option.some.inj f2.2.2
  unfold mub_43_2 at g5
  unfold mub_43_2
  unfold w32 at f5
  refine ⟨?_, fun q hq => ?_⟩
  · trivial
  · have g6 := Option.some.inj hq
    subst g6
    omega
theorem c_43_2_1 {q0 : Nat} : vOkm T0 (eP e_43 L_43 A_43 mu_43 (some q0)) 3 ([(10, [10, 6], [], 1), (42, [6, 7], [], 0), (0, [7], [], 3), (5000, [0, 1, 2, 3, 4, 5, 6], [0, 1], 2), (90, [6], [], -2147483648), (91, [6], [], 2147483647)], (4000, [3, 4, 5, 10], [2], 2)) := vOk_inI fun ρ η f0 f1 f2 f3 f4 f5 => q_43_2 (q0 := q0) (n0 := ρ 6) (n1 := ρ 0) (n2 := ρ 1) (n3 := ρ 2) (n4 := ρ 3) (n5 := ρ 4) (n6 := ρ 5) (n7 := ρ 7) (n8 := ρ 10) (H0 := η 0) (H1 := η 1) (H2 := η 2) f5 f4 f3 f2 f1 f0
def p_43_2 : List vG := [([(0, [8], [], 0), (43, [6, 7], [], 0), (0, [7], [], 3), (5000, [0, 1, 2, 3, 4, 5, 6], [0, 1], 2), (90, [6], [], -2147483648), (91, [6], [], 2147483647)], (4000, [3, 4, 5, 8], [2], 30)),
  ([(10, [10, 6], [], 1), (42, [6, 7], [], 0), (0, [7], [], 3), (5000, [0, 1, 2, 3, 4, 5, 6], [0, 1], 2), (90, [6], [], -2147483648), (91, [6], [], 2147483647)], (4000, [3, 4, 5, 10], [2], 2))]
theorem r_43_2 : vCovO true (eRc e_43 L_43 cs_43 2000 (2, [(0, (3, 2, 274, 0)), (1, (3, 6, -1, 0)), (2, (0, -2147483648, 2147483647, 0)), (3, (0, -2147483648, 2147483647, 0))])) p_43_2 = true := by decide +kernel
theorem q_43_3 {q0 : Nat} {n0 n1 n2 n3 n4 n5 n6 n7 n8 : Int} {H0 H1 : gH} (f0 : n0 ≤ 2147483647) (f1 : (-2147483648) ≤ n0) (f2 : (hLe T0 H0 H1 ∧ hFr s_43.2.2.2.2 H0 H1 ∧ hWt T0 H1) ∧ (True ∧ True) ∧ some q0 = some (mub_43_30 n1 n2 n3 n4 n5 n6 n0 H0 H1)) (f3 : n7 = 3) (f4 : n7 ≤ n0) (f5 : n8 = 0) : True ∧ ∀ q, some q0 = some q → mub_43_52 n1 n2 n3 n4 n5 n6 n8 H0 H1 < q := by
  have g5 := Option.some.inj f2.2.2
  unfold mub_43_30 at g5
  unfold mub_43_52
  refine ⟨?_, fun q hq => ?_⟩
  · trivial
  · have g6 := Option.some.inj hq
    subst g6
    omega
theorem c_43_30_0 {q0 : Nat} : vOkm T0 (eP e_43 L_43 A_43 mu_43 (some q0)) 3 ([(0, [8], [], 0), (43, [6, 7], [], 0), (0, [7], [], 3), (5000, [0, 1, 2, 3, 4, 5, 6], [0, 1], 30), (90, [6], [], -2147483648), (91, [6], [], 2147483647)], (4000, [3, 4, 5, 8], [1], 52)) := vOk_inI fun ρ η f0 f1 f2 f3 f4 f5 => q_43_3 (q0 := q0) (n0 := ρ 6) (n1 := ρ 0) (n2 := ρ 1) (n3 := ρ 2) (n4 := ρ 3) (n5 := ρ 4) (n6 := ρ 5) (n7 := ρ 7) (n8 := ρ 8) (H0 := η 0) (H1 := η 1) f5 f4 f3 f2 f1 f0
theorem q_43_4 {q0 : Nat} {n0 n1 n2 n3 n4 n5 n6 n7 n8 : Int} {H0 H1 H2 : gH} (f0 : n0 ≤ 2147483647) (f1 : (-2147483648) ≤ n0) (f2 : (hLe T0 H0 H1 ∧ hFr s_43.2.2.2.2 H0 H1 ∧ hWt T0 H1) ∧ (True ∧ True) ∧ some q0 = some (mub_43_30 n1 n2 n3 n4 n5 n6 n0 H0 H1)) (f3 : n7 = 3) (f4 : n0 < n7) (f5 : n8 = w32 (n0 + 1)) : True ∧ ∀ q, some q0 = some q → mub_43_30 n1 n2 n3 n4 n5 n6 n8 H0 H2 < q := by
  have g5 := Option.some.inj f2.2.2
  unfold mub_43_30 at g5
  unfold mub_43_30
  unfold w32 at f5
  refine ⟨?_, fun q hq => ?_⟩
  · trivial
  · have g6 := Option.some.inj hq
    subst g6
    omega
theorem c_43_30_1 {q0 : Nat} : vOkm T0 (eP e_43 L_43 A_43 mu_43 (some q0)) 3 ([(10, [10, 6], [], 1), (42, [6, 7], [], 0), (0, [7], [], 3), (5000, [0, 1, 2, 3, 4, 5, 6], [0, 1], 30), (90, [6], [], -2147483648), (91, [6], [], 2147483647)], (4000, [3, 4, 5, 10], [2], 30)) := vOk_inI fun ρ η f0 f1 f2 f3 f4 f5 => q_43_4 (q0 := q0) (n0 := ρ 6) (n1 := ρ 0) (n2 := ρ 1) (n3 := ρ 2) (n4 := ρ 3) (n5 := ρ 4) (n6 := ρ 5) (n7 := ρ 7) (n8 := ρ 10) (H0 := η 0) (H1 := η 1) (H2 := η 2) f5 f4 f3 f2 f1 f0
def p_43_30 : List vG := [([(0, [8], [], 0), (43, [6, 7], [], 0), (0, [7], [], 3), (5000, [0, 1, 2, 3, 4, 5, 6], [0, 1], 30), (90, [6], [], -2147483648), (91, [6], [], 2147483647)], (4000, [3, 4, 5, 8], [1], 52)),
  ([(10, [10, 6], [], 1), (42, [6, 7], [], 0), (0, [7], [], 3), (5000, [0, 1, 2, 3, 4, 5, 6], [0, 1], 30), (90, [6], [], -2147483648), (91, [6], [], 2147483647)], (4000, [3, 4, 5, 10], [2], 30))]
theorem r_43_30 : vCovO true (eRc e_43 L_43 cs_43 2000 (30, [(0, (3, 2, 274, 0)), (1, (3, 6, -1, 0)), (2, (0, -2147483648, 2147483647, 0)), (3, (0, -2147483648, 2147483647, 0))])) p_43_30 = true := by decide +kernel
theorem q_43_5 {q0 : Nat} {n0 n1 n2 n3 n4 n5 n6 n7 n8 n9 : Int} {H0 H1 : gH} (f0 : n0 ≤ 2147483647) (f1 : (-2147483648) ≤ n0) (f2 : (hLe T0 H0 H1 ∧ hFr s_43.2.2.2.2 H0 H1 ∧ hWt T0 H1) ∧ (True ∧ True) ∧ some q0 = some (mub_43_52 n1 n2 n3 n4 n5 n6 n0 H0 H1)) (f3 : n7 ≤ 40) (f4 : 0 ≤ n7) (f5 : n7 ≤ n0) (f6 : n8 = 0) : True ∧ ∀ q, some q0 = some q → mub_43_82 n1 n2 n3 n4 n5 n6 n9 n8 H0 H1 < q := by
  have g5 := Option.some.inj f2.2.2
  unfold mub_43_52 at g5
  unfold mub_43_82
  refine ⟨?_, fun q hq => ?_⟩
  · trivial
  · have g6 := Option.some.inj hq
    subst g6
    omega
theorem c_43_52_0 {q0 : Nat} : vOkm T0 (eP e_43 L_43 A_43 mu_43 (some q0)) 3 ([(0, [9], [], 0), (43, [6, 7], [], 0), (90, [7], [], 0), (91, [7], [], 40), (5000, [0, 1, 2, 3, 4, 5, 6], [0, 1], 52), (90, [6], [], -2147483648), (91, [6], [], 2147483647)], (4000, [3, 4, 5, 8, 9], [1], 82)) := vOk_inI fun ρ η f0 f1 f2 f3 f4 f5 f6 => q_43_5 (q0 := q0) (n0 := ρ 6) (n1 := ρ 0) (n2 := ρ 1) (n3 := ρ 2) (n4 := ρ 3) (n5 := ρ 4) (n6 := ρ 5) (n7 := ρ 7) (n8 := ρ 9) (n9 := ρ 8) (H0 := η 0) (H1 := η 1) f6 f5 f4 f3 f2 f1 f0
theorem q_43_6 {q0 : Nat} {n0 n1 n2 n3 n4 n5 n6 n7 n8 : Int} {H0 H1 H2 : gH} (f0 : n0 ≤ 2147483647) (f1 : (-2147483648) ≤ n0) (f2 : (hLe T0 H0 H1 ∧ hFr s_43.2.2.2.2 H0 H1 ∧ hWt T0 H1) ∧ (True ∧ True) ∧ some q0 = some (mub_43_52 n1 n2 n3 n4 n5 n6 n0 H0 H1)) (f3 : n7 ≤ 40) (f4 : 0 ≤ n7) (f5 : n0 < n7) (f6 : n8 = w32 (n0 + 1)) : True ∧ ∀ q, some q0 = some q → mub_43_52 n1 n2 n3 n4 n5 n6 n8 H0 H2 < q := by
  have g5 := Option.some.inj f2.2.2
  unfold mub_43_52 at g5
  unfold mub_43_52
  unfold w32 at f6
  refine ⟨?_, fun q hq => ?_⟩
  · trivial
  · have g6 := Option.some.inj hq
    subst g6
    omega
theorem c_43_52_1 {q0 : Nat} : vOkm T0 (eP e_43 L_43 A_43 mu_43 (some q0)) 3 ([(10, [9, 6], [], 1), (42, [6, 7], [], 0), (90, [7], [], 0), (91, [7], [], 40), (5000, [0, 1, 2, 3, 4, 5, 6], [0, 1], 52), (90, [6], [], -2147483648), (91, [6], [], 2147483647)], (4000, [3, 4, 5, 9], [3], 52)) := vOk_inI fun ρ η f0 f1 f2 f3 f4 f5 f6 => q_43_6 (q0 := q0) (n0 := ρ 6) (n1 := ρ 0) (n2 := ρ 1) (n3 := ρ 2) (n4 := ρ 3) (n5 := ρ 4) (n6 := ρ 5) (n7 := ρ 7) (n8 := ρ 9) (H0 := η 0) (H1 := η 1) (H2 := η 3) f6 f5 f4 f3 f2 f1 f0
def p_43_52 : List vG := [([(0, [9], [], 0), (43, [6, 7], [], 0), (90, [7], [], 0), (91, [7], [], 40), (5000, [0, 1, 2, 3, 4, 5, 6], [0, 1], 52), (90, [6], [], -2147483648), (91, [6], [], 2147483647)], (4000, [3, 4, 5, 8, 9], [1], 82)),
  ([(10, [9, 6], [], 1), (42, [6, 7], [], 0), (90, [7], [], 0), (91, [7], [], 40), (5000, [0, 1, 2, 3, 4, 5, 6], [0, 1], 52), (90, [6], [], -2147483648), (91, [6], [], 2147483647)], (4000, [3, 4, 5, 9], [3], 52))]
theorem r_43_52 : vCovO true (eRc e_43 L_43 cs_43 2000 (52, [(0, (3, 2, 274, 0)), (1, (3, 6, -1, 0)), (2, (0, -2147483648, 2147483647, 0)), (3, (0, -2147483648, 2147483647, 0))])) p_43_52 = true := by decide +kernel
theorem q_43_7 {q0 : Nat} {n0 n1 n2 n3 n4 n5 n6 n7 n8 n9 : Int} {H0 H1 : gH} (f0 : n0 ≤ 2147483647) (f1 : (-2147483648) ≤ n0) (f2 : (hLe T0 H0 H1 ∧ hFr s_43.2.2.2.2 H0 H1 ∧ hWt T0 H1) ∧ (True ∧ True) ∧ some q0 = some (mub_43_82 n1 n2 n3 n4 n5 n6 n7 n0 H0 H1)) (f3 : n8 ≤ 40) (f4 : 0 ≤ n8) (f5 : n8 ≤ n0) (f6 : n9 = 0) : True ∧ ∀ q, some q0 = some q → mub_43_138 n1 n2 n3 n4 n5 n6 n7 n9 H0 H1 < q := by
  have g5 := Option.some.inj f2.2.2
  unfold mub_43_82 at g5
  unfold mub_43_138
  refine ⟨?_, fun q hq => ?_⟩
  · trivial
  · have g6 := Option.some.inj hq
    subst g6
    omega
theorem c_43_82_0 {q0 : Nat} : vOkm T0 (eP e_43 L_43 A_43 mu_43 (some q0)) 3 ([(0, [9], [], 0), (43, [7, 8], [], 0), (90, [8], [], 0), (91, [8], [], 40), (5000, [0, 1, 2, 3, 4, 5, 6, 7], [0, 1], 82), (90, [7], [], -2147483648), (91, [7], [], 2147483647)], (4000, [3, 4, 5, 6, 9], [1], 138)) := vOk_inI fun ρ η f0 f1 f2 f3 f4 f5 f6 => q_43_7 (q0 := q0) (n0 := ρ 7) (n1 := ρ 0) (n2 := ρ 1) (n3 := ρ 2) (n4 := ρ 3) (n5 := ρ 4) (n6 := ρ 5) (n7 := ρ 6) (n8 := ρ 8) (n9 := ρ 9) (H0 := η 0) (H1 := η 1) f6 f5 f4 f3 f2 f1 f0
theorem q_43_8 {q0 : Nat} {n0 n1 n2 n3 n4 n5 n6 n7 n8 n9 : Int} {H0 H1 H2 : gH} (f0 : n0 ≤ 2147483647) (f1 : (-2147483648) ≤ n0) (f2 : (hLe T0 H0 H1 ∧ hFr s_43.2.2.2.2 H0 H1 ∧ hWt T0 H1) ∧ (True ∧ True) ∧ some q0 = some (mub_43_82 n1 n2 n3 n4 n5 n6 n7 n0 H0 H1)) (f3 : n8 ≤ 40) (f4 : 0 ≤ n8) (f5 : n0 < n8) (f6 : n9 = w32 (n0 + 1)) : True ∧ ∀ q, some q0 = some q → mub_43_82 n1 n2 n3 n4 n5 n6 n7 n9 H0 H2 < q := by
  have g5 := Option.some.inj f2.2.2
  unfold mub_43_82 at g5
  unfold mub_43_82
  unfold w32 at f6
  refine ⟨?_, fun q hq => ?_⟩
  · trivial
  · have g6 := Option.some.inj hq
    subst g6
    omega
theorem c_43_82_1 {q0 : Nat} : vOkm T0 (eP e_43 L_43 A_43 mu_43 (some q0)) 3 ([(10, [10, 7], [], 1), (42, [7, 8], [], 0), (90, [8], [], 0), (91, [8], [], 40), (5000, [0, 1, 2, 3, 4, 5, 6, 7], [0, 1], 82), (90, [7], [], -2147483648), (91, [7], [], 2147483647)], (4000, [3, 4, 5, 6, 10], [3], 82)) := vOk_inI fun ρ η f0 f1 f2 f3 f4 f5 f6 => q_43_8 (q0 := q0) (n0 := ρ 7) (n1 := ρ 0) (n2 := ρ 1) (n3 := ρ 2) (n4 := ρ 3) (n5 := ρ 4) (n6 := ρ 5) (n7 := ρ 6) (n8 := ρ 8) (n9 := ρ 10) (H0 := η 0) (H1 := η 1) (H2 := η 3) f6 f5 f4 f3 f2 f1 f0
theorem c_43_82_2 {q0 : Nat} : vOkm T0 (eP e_43 L_43 A_43 mu_43 (some q0)) 3 ([(10, [12, 7], [], 1), (42, [7, 8], [], 0), (90, [8], [], 0), (91, [8], [], 40), (5000, [0, 1, 2, 3, 4, 5, 6, 7], [0, 1], 82), (90, [7], [], -2147483648), (91, [7], [], 2147483647)], (4000, [3, 4, 5, 6, 12], [3], 82)) := vOk_inI fun ρ η f0 f1 f2 f3 f4 f5 f6 => q_43_8 (q0 := q0) (n0 := ρ 7) (n1 := ρ 0) (n2 := ρ 1) (n3 := ρ 2) (n4 := ρ 3) (n5 := ρ 4) (n6 := ρ 5) (n7 := ρ 6) (n8 := ρ 8) (n9 := ρ 12) (H0 := η 0) (H1 := η 1) (H2 := η 3) f6 f5 f4 f3 f2 f1 f0
theorem q_43_9 {q0 : Nat} {n0 n1 n2 n3 n4 n5 n6 n7 n8 n9 n10 : Int} {H0 H1 H2 : gH} (f0 : n0 ≤ 2147483647) (f1 : (-2147483648) ≤ n0) (f2 : (hLe T0 H0 H1 ∧ hFr s_43.2.2.2.2 H0 H1 ∧ hWt T0 H1) ∧ (True ∧ True) ∧ some q0 = some (mub_43_82 n1 n2 n3 n4 n5 n6 n7 n0 H0 H1)) (f3 : n8 ≤ 40) (f4 : 0 ≤ n8) (f5 : n0 < n8) (f6 : n9 = w32 (n0 + 1)) : True ∧ ∀ q, some q0 = some q → mub_43_82 n1 n2 n3 n4 n5 n6 n10 n9 H0 H2 < q := by
  have g5 := Option.some.inj f2.2.2
  unfold mub_43_82 at g5
  unfold mub_43_82
  unfold w32 at f6
  refine ⟨?_, fun q hq => ?_⟩
  · trivial
  · have g6 := Option.some.inj hq
    subst g6
    omega
theorem c_43_82_3 {q0 : Nat} : vOkm T0 (eP e_43 L_43 A_43 mu_43 (some q0)) 3 ([(10, [13, 7], [], 1), (42, [7, 8], [], 0), (90, [8], [], 0), (91, [8], [], 40), (5000, [0, 1, 2, 3, 4, 5, 6, 7], [0, 1], 82), (90, [7], [], -2147483648), (91, [7], [], 2147483647)], (4000, [3, 4, 5, 12, 13], [3], 82)) := vOk_inI fun ρ η f0 f1 f2 f3 f4 f5 f6 => q_43_9 (q0 := q0) (n0 := ρ 7) (n1 := ρ 0) (n2 := ρ 1) (n3 := ρ 2) (n4 := ρ 3) (n5 := ρ 4) (n6 := ρ 5) (n7 := ρ 6) (n8 := ρ 8) (n9 := ρ 13) (n10 := ρ 12) (H0 := η 0) (H1 := η 1) (H2 := η 3) f6 f5 f4 f3 f2 f1 f0
def p_43_82 : List vG := [([(0, [9], [], 0), (43, [7, 8], [], 0), (90, [8], [], 0), (91, [8], [], 40), (5000, [0, 1, 2, 3, 4, 5, 6, 7], [0, 1], 82), (90, [7], [], -2147483648), (91, [7], [], 2147483647)], (4000, [3, 4, 5, 6, 9], [1], 138)),
  ([(10, [10, 7], [], 1), (42, [7, 8], [], 0), (90, [8], [], 0), (91, [8], [], 40), (5000, [0, 1, 2, 3, 4, 5, 6, 7], [0, 1], 82), (90, [7], [], -2147483648), (91, [7], [], 2147483647)], (4000, [3, 4, 5, 6, 10], [3], 82)),
  ([(10, [12, 7], [], 1), (42, [7, 8], [], 0), (90, [8], [], 0), (91, [8], [], 40), (5000, [0, 1, 2, 3, 4, 5, 6, 7], [0, 1], 82), (90, [7], [], -2147483648), (91, [7], [], 2147483647)], (4000, [3, 4, 5, 6, 12], [3], 82)),
  ([(10, [13, 7], [], 1), (42, [7, 8], [], 0), (90, [8], [], 0), (91, [8], [], 40), (5000, [0, 1, 2, 3, 4, 5, 6, 7], [0, 1], 82), (90, [7], [], -2147483648), (91, [7], [], 2147483647)], (4000, [3, 4, 5, 12, 13], [3], 82))]
theorem r_43_82 : vCovO true (eRc e_43 L_43 cs_43 2000 (82, [(0, (3, 2, 274, 0)), (1, (3, 6, -1, 0)), (2, (0, -2147483648, 2147483647, 0)), (3, (0, -2147483648, 2147483647, 0)), (4, (0, -2147483648, 2147483647, 0))])) p_43_82 = true := by decide +kernel
theorem q_43_10 {q0 : Nat} {n0 n1 n2 n3 n4 n5 n6 n7 n8 n9 : Int} {H0 H1 H2 : gH} (f0 : n0 ≤ 2147483647) (f1 : (-2147483648) ≤ n0) (f2 : (hLe T0 H0 H1 ∧ hFr s_43.2.2.2.2 H0 H1 ∧ hWt T0 H1) ∧ (True ∧ True) ∧ some q0 = some (mub_43_138 n1 n2 n3 n4 n5 n6 n7 n0 H0 H1)) (f3 : n8 ≤ 2147483647) (f4 : (-2147483648) ≤ n8) (f5 : n0 < n8) (f6 : n9 = w32 (n0 + 1)) : True ∧ ∀ q, some q0 = some q → mub_43_138 n1 n2 n3 n4 n5 n6 n7 n9 H0 H2 < q := by
  have g5 := Option.some.inj f2.2.2
  unfold mub_43_138 at g5
  unfold mub_43_138
  unfold w32 at f6
  refine ⟨?_, fun q hq => ?_⟩
  · trivial
  · have g6 := Option.some.inj hq
    subst g6
    omega
theorem c_43_138_0 {q0 : Nat} : vOkm T0 (eP e_43 L_43 A_43 mu_43 (some q0)) 3 ([(10, [28, 7], [], 1), (42, [7, 8], [], 0), (90, [8], [], -2147483648), (91, [8], [], 2147483647), (5000, [0, 1, 2, 3, 4, 5, 6, 7], [0, 1], 138), (90, [7], [], -2147483648), (91, [7], [], 2147483647)], (4000, [3, 4, 5, 6, 28], [7], 138)) := vOk_inI fun ρ η f0 f1 f2 f3 f4 f5 f6 => q_43_10 (q0 := q0) (n0 := ρ 7) (n1 := ρ 0) (n2 := ρ 1) (n3 := ρ 2) (n4 := ρ 3) (n5 := ρ 4) (n6 := ρ 5) (n7 := ρ 6) (n8 := ρ 8) (n9 := ρ 28) (H0 := η 0) (H1 := η 1) (H2 := η 7) f6 f5 f4 f3 f2 f1 f0
def p_43_138 : List vG := [([(10, [28, 7], [], 1), (42, [7, 8], [], 0), (90, [8], [], -2147483648), (91, [8], [], 2147483647), (5000, [0, 1, 2, 3, 4, 5, 6, 7], [0, 1], 138), (90, [7], [], -2147483648), (91, [7], [], 2147483647)], (4000, [3, 4, 5, 6, 28], [7], 138))]
theorem r_43_138 : vCovO true (eRc e_43 L_43 cs_43 2000 (138, [(0, (3, 2, 274, 0)), (1, (3, 6, -1, 0)), (2, (0, -2147483648, 2147483647, 0)), (3, (0, -2147483648, 2147483647, 0)), (4, (0, -2147483648, 2147483647, 0))])) p_43_138 = true := by decide +kernel
theorem m_43 (d : Nat) : eC e_43 (d + 5) := eC_ok (e := e_43) (L := L_43) (cs := cs_43) (n := 2000) (d := d + 4) (A := A_43) (μ := mu_43) (tp := true) (p0 := p_43_s) rfl ⟨m_44 (d + 2), ⟨m_45 (d + 2), ⟨m_46 d, ⟨m_48 (d + 2), ⟨m_49 (d + 2), ⟨m_115 (d + 3), ⟨m_200k757 (d + 3), ⟨m_201k748 (d + 3), ⟨m_318 (d + 3), ⟨m_320 (d + 3), trivial⟩⟩⟩⟩⟩⟩⟩⟩⟩⟩ rfl (.inr pre0_ok) (by decide +kernel) (fun _ => post0_ok) r_43_s (allC c_43_s_0 allN) (allC (.inl ⟨p_43_2, r_43_2, fun q0 => (allC c_43_2_0 (allC c_43_2_1 allN))⟩) (allC (.inl ⟨p_43_30, r_43_30, fun q0 => (allC c_43_30_0 (allC c_43_30_1 allN))⟩) (allC (.inl ⟨p_43_52, r_43_52, fun q0 => (allC c_43_52_0 (allC c_43_52_1 allN))⟩) (allC (.inl ⟨p_43_82, r_43_82, fun q0 => (allC c_43_82_0 (allC c_43_82_1 (allC c_43_82_2 (allC c_43_82_3 allN))))⟩) (allC (.inl ⟨p_43_138, r_43_138, fun q0 => (allC c_43_138_0 allN)⟩) allN)))))
/- Picture.cameFrom (III)I -/
noncomputable def s_58 : vM := ([(3, 3, 19, 0), (0, -2147483648, 2147483647, 0), (0, -2147483648, 2147483647, 0), (0, -2147483648, 2147483647, 0)], (0, -2147483648, 2147483647, 0), 0, 0, [])
noncomputable def e_58 : vE := (58, s_58, pre0, post0)
noncomputable def L_58 : List vE := [e_199k700]
def cs_58 : List vC := [(6, [(0, (3, 3, 19, 0)), (1, (0, -2147483648, 2147483647, 0)), (2, (0, -2147483648, 2147483647, 0)), (3, (0, -2147483648, 2147483647, 0)), (4, (0, -2147483648, 2147483647, 0)), (5, (0, -2147483648, 2147483647, 0))])]
def mub_58_6 (a0 a1 a2 a3 x0 x1 x2 x3 x4 x5 : Int) (h0 h : gH) : Nat := (x5 + 2147483648).toNat
def A_58 : Int → List Int → gH → gH → Prop := fun c xs h0 h => True
def mu_58 : Int → List Int → gH → gH → Nat := fun c xs h0 h => match c.toNat with
  | 6 => (match xs with
    | [a0, a1, a2, a3, x0, x1, x2, x3, x4, x5] => mub_58_6 a0 a1 a2 a3 x0 x1 x2 x3 x4 x5 h0 h
    | _ => 0)
  | _ => 0
theorem q_58_0 {n0 n1 n2 n3 : Int} {H0 : gH}  : True ∧ ∀ q, none = some q → mub_58_6 n0 n1 n2 n3 n0 n1 n2 n3 n2 n1 H0 H0 < q := by
  exact ⟨trivial, fun q hq => nomatch hq⟩
theorem c_58_s_0 : vOkm T0 (eP e_58 L_58 A_58 mu_58 none) 4 ([], (4000, [0, 1, 2, 3, 2, 1], [0], 6)) := vOk_inI fun ρ η => q_58_0 (n0 := ρ 0) (n1 := ρ 1) (n2 := ρ 2) (n3 := ρ 3) (H0 := η 0)
def p_58_s : List vG := [([], (4000, [0, 1, 2, 3, 2, 1], [0], 6))]
theorem r_58_s : vCovO true (eR0 e_58 L_58 cs_58 2000) p_58_s = true := by decide +kernel
theorem q_58_1 {q0 : Nat} {n0 n1 n2 n3 n4 n5 n6 n7 n8 n9 n10 n11 : Int} {H0 H1 H2 : gH} (f0 : n0 ≤ 2147483647) (f1 : (-2147483648) ≤ n0) (f2 : n1 ≤ 2147483647) (f3 : (-2147483648) ≤ n1) (f4 : (hLe T0 H0 H1 ∧ hFr s_58.2.2.2.2 H0 H1 ∧ hWt T0 H1) ∧ (True ∧ True) ∧ some q0 = some (mub_58_6 n2 n3 n4 n5 n6 n7 n8 n1 n9 n0 H0 H1)) (f5 : n1 < n0) (f6 : n10 = w32 (n0 + (-1))) : True ∧ ∀ q, some q0 = some q → mub_58_6 n2 n3 n4 n5 n6 n7 n8 n1 n11 n10 H0 H2 < q := by
  have g5 := Option.some.inj f4.2.2
  unfold mub_58_6 at g5
  unfold mub_58_6
  unfold w32 at f6
  refine ⟨?_, fun q hq => ?_⟩
  · trivial
  · have g6 := Option.some.inj hq
    subst g6
    omega
theorem c_58_6_0 {q0 : Nat} : vOkm T0 (eP e_58 L_58 A_58 mu_58 (some q0)) 4 ([(10, [16, 9], [], -1), (44, [9, 7], [], 0), (5000, [0, 1, 2, 3, 4, 5, 6, 7, 8, 9], [0, 1], 6), (90, [7], [], -2147483648), (91, [7], [], 2147483647), (90, [9], [], -2147483648), (91, [9], [], 2147483647)], (4000, [4, 5, 6, 7, 15, 16], [2], 6)) := vOk_inI fun ρ η f0 f1 f2 f3 f4 f5 f6 => q_58_1 (q0 := q0) (n0 := ρ 9) (n1 := ρ 7) (n2 := ρ 0) (n3 := ρ 1) (n4 := ρ 2) (n5 := ρ 3) (n6 := ρ 4) (n7 := ρ 5) (n8 := ρ 6) (n9 := ρ 8) (n10 := ρ 16) (n11 := ρ 15) (H0 := η 0) (H1 := η 1) (H2 := η 2) f6 f5 f4 f3 f2 f1 f0
def p_58_6 : List vG := [([(10, [16, 9], [], -1), (44, [9, 7], [], 0), (5000, [0, 1, 2, 3, 4, 5, 6, 7, 8, 9], [0, 1], 6), (90, [7], [], -2147483648), (91, [7], [], 2147483647), (90, [9], [], -2147483648), (91, [9], [], 2147483647)], (4000, [4, 5, 6, 7, 15, 16], [2], 6))]
theorem r_58_6 : vCovO true (eRc e_58 L_58 cs_58 2000 (6, [(0, (3, 3, 19, 0)), (1, (0, -2147483648, 2147483647, 0)), (2, (0, -2147483648, 2147483647, 0)), (3, (0, -2147483648, 2147483647, 0)), (4, (0, -2147483648, 2147483647, 0)), (5, (0, -2147483648, 2147483647, 0))])) p_58_6 = true := by decide +kernel
theorem m_58 (d : Nat) : eC e_58 (d + 2) := eC_ok (e := e_58) (L := L_58) (cs := cs_58) (n := 2000) (d := d + 1) (A := A_58) (μ := mu_58) (tp := true) (p0 := p_58_s) rfl ⟨m_199k700 d, trivial⟩ rfl (.inr pre0_ok) (by decide +kernel) (fun _ => post0_ok) r_58_s (allC c_58_s_0 allN) (allC (.inl ⟨p_58_6, r_58_6, fun q0 => (allC c_58_6_0 allN)⟩) allN)
/- Mixer.mixInto ([ILMixStage$Sheet;I)I -/
noncomputable def s_28 : vM := ([(3, 2, 274, 0), (2, 780, -1, 0), (3, 6, -1, 0), (0, -2147483648, 2147483647, 0)], (0, -2147483648, 2147483647, 0), 0, 0, [(2, 8), (10, 0), (10, 1), (10, 2), (748, 0), (757, 0), (780, 0)])
noncomputable def e_28 : vE := (28, s_28, pre0, post0)
noncomputable def L_28 : List vE := [e_35, e_43, e_53, e_58, e_199k748, e_201k780]
def cs_28 : List vC := [(26, [(0, (3, 2, 274, 0)), (1, (2, 780, -1, 0)), (2, (3, 6, -1, 0)), (3, (0, -2147483648, 2147483647, 0)), (4, (0, -2147483648, 2147483647, 0)), (5, (0, -2147483648, 2147483647, 0))])]
def mub_28_26 (a0 a1 a2 a3 x0 x1 x2 x3 x4 x5 : Int) (h0 h : gH) : Nat := (2147483648 - x5).toNat
def A_28 : Int → List Int → gH → gH → Prop := fun c xs h0 h => True
def mu_28 : Int → List Int → gH → gH → Nat := fun c xs h0 h => match c.toNat with
  | 26 => (match xs with
    | [a0, a1, a2, a3, x0, x1, x2, x3, x4, x5] => mub_28_26 a0 a1 a2 a3 x0 x1 x2 x3 x4 x5 h0 h
    | _ => 0)
  | _ => 0
theorem q_28_0 {n0 n1 n2 n3 n4 n5 : Int} {H0 H1 : gH}  : True ∧ ∀ q, none = some q → mub_28_26 n0 n1 n2 n3 n0 n1 n2 n3 n4 n5 H0 H1 < q := by
  exact ⟨trivial, fun q hq => nomatch hq⟩
theorem c_28_s_0 : vOkm T0 (eP e_28 L_28 A_28 mu_28 none) 4 ([], (4000, [0, 1, 2, 3, 8, 9], [3], 26)) := vOk_inI fun ρ η => q_28_0 (n0 := ρ 0) (n1 := ρ 1) (n2 := ρ 2) (n3 := ρ 3) (n4 := ρ 8) (n5 := ρ 9) (H0 := η 0) (H1 := η 3)
def p_28_s : List vG := [([], (4000, [0, 1, 2, 3, 8, 9], [3], 26))]
theorem r_28_s : vCovO true (eR0 e_28 L_28 cs_28 2000) p_28_s = true := by decide +kernel
theorem q_28_1 {q0 : Nat} {n0 n1 n2 n3 n4 n5 n6 n7 n8 n9 n10 : Int} {H0 H1 H2 : gH} (f0 : n0 ≤ 2147483647) (f1 : (-2147483648) ≤ n0) (f2 : n1 ≤ 2147483647) (f3 : (-2147483648) ≤ n1) (f4 : (hLe T0 H0 H1 ∧ hFr s_28.2.2.2.2 H0 H1 ∧ hWt T0 H1) ∧ (True ∧ True) ∧ some q0 = some (mub_28_26 n2 n3 n4 n5 n6 n7 n8 n9 n1 n0 H0 H1)) (f5 : n0 < n1) (f6 : n10 = w32 (n0 + 1)) : True ∧ ∀ q, some q0 = some q → mub_28_26 n2 n3 n4 n5 n6 n7 n8 n9 n1 n10 H0 H2 < q := by
  have g5 := Option.some.inj f4.2.2
  unfold mub_28_26 at g5
  unfold mub_28_26
  unfold w32 at f6
  refine ⟨?_, fun q hq => ?_⟩
  · trivial
  · have g6 := Option.some.inj hq
    subst g6
    omega
theorem c_28_26_0 {q0 : Nat} : vOkm T0 (eP e_28 L_28 A_28 mu_28 (some q0)) 4 ([(10, [23, 9], [], 1), (42, [9, 8], [], 0), (5000, [0, 1, 2, 3, 4, 5, 6, 7, 8, 9], [0, 1], 26), (90, [8], [], -2147483648), (91, [8], [], 2147483647), (90, [9], [], -2147483648), (91, [9], [], 2147483647)], (4000, [4, 5, 6, 7, 8, 23], [4], 26)) := vOk_inI fun ρ η f0 f1 f2 f3 f4 f5 f6 => q_28_1 (q0 := q0) (n0 := ρ 9) (n1 := ρ 8) (n2 := ρ 0) (n3 := ρ 1) (n4 := ρ 2) (n5 := ρ 3) (n6 := ρ 4) (n7 := ρ 5) (n8 := ρ 6) (n9 := ρ 7) (n10 := ρ 23) (H0 := η 0) (H1 := η 1) (H2 := η 4) f6 f5 f4 f3 f2 f1 f0
theorem c_28_26_1 {q0 : Nat} : vOkm T0 (eP e_28 L_28 A_28 mu_28 (some q0)) 4 ([(10, [17, 9], [], 1), (42, [9, 8], [], 0), (5000, [0, 1, 2, 3, 4, 5, 6, 7, 8, 9], [0, 1], 26), (90, [8], [], -2147483648), (91, [8], [], 2147483647), (90, [9], [], -2147483648), (91, [9], [], 2147483647)], (4000, [4, 5, 6, 7, 8, 17], [3], 26)) := vOk_inI fun ρ η f0 f1 f2 f3 f4 f5 f6 => q_28_1 (q0 := q0) (n0 := ρ 9) (n1 := ρ 8) (n2 := ρ 0) (n3 := ρ 1) (n4 := ρ 2) (n5 := ρ 3) (n6 := ρ 4) (n7 := ρ 5) (n8 := ρ 6) (n9 := ρ 7) (n10 := ρ 17) (H0 := η 0) (H1 := η 1) (H2 := η 3) f6 f5 f4 f3 f2 f1 f0
def p_28_26 : List vG := [([(10, [23, 9], [], 1), (42, [9, 8], [], 0), (5000, [0, 1, 2, 3, 4, 5, 6, 7, 8, 9], [0, 1], 26), (90, [8], [], -2147483648), (91, [8], [], 2147483647), (90, [9], [], -2147483648), (91, [9], [], 2147483647)], (4000, [4, 5, 6, 7, 8, 23], [4], 26)),
  ([(10, [17, 9], [], 1), (42, [9, 8], [], 0), (5000, [0, 1, 2, 3, 4, 5, 6, 7, 8, 9], [0, 1], 26), (90, [8], [], -2147483648), (91, [8], [], 2147483647), (90, [9], [], -2147483648), (91, [9], [], 2147483647)], (4000, [4, 5, 6, 7, 8, 17], [3], 26))]
theorem r_28_26 : vCovO true (eRc e_28 L_28 cs_28 2000 (26, [(0, (3, 2, 274, 0)), (1, (2, 780, -1, 0)), (2, (3, 6, -1, 0)), (3, (0, -2147483648, 2147483647, 0)), (4, (0, -2147483648, 2147483647, 0)), (5, (0, -2147483648, 2147483647, 0))])) p_28_26 = true := by decide +kernel
theorem m_28 (d : Nat) : eC e_28 (d + 6) := eC_ok (e := e_28) (L := L_28) (cs := cs_28) (n := 2000) (d := d + 5) (A := A_28) (μ := mu_28) (tp := true) (p0 := p_28_s) rfl ⟨m_35 d, ⟨m_43 d, ⟨m_53 (d + 3), ⟨m_58 (d + 3), ⟨m_199k748 (d + 4), ⟨m_201k780 (d + 4), trivial⟩⟩⟩⟩⟩⟩ rfl (.inr pre0_ok) (by decide +kernel) (fun _ => post0_ok) r_28_s (allC c_28_s_0 allN) (allC (.inl ⟨p_28_26, r_28_26, fun q0 => (allC c_28_26_0 (allC c_28_26_1 allN))⟩) allN)
/- Mixer.countLays (LMixStage$Sheet;)I -/
noncomputable def s_32 : vM := ([(3, 6, -1, 0)], (0, -2147483648, 2147483647, 0), 0, 0, [])
noncomputable def e_32 : vE := (32, s_32, pre0, post0)
noncomputable def L_32 : List vE := [e_115]
def cs_32 : List vC := [(4, [(0, (3, 6, -1, 0)), (1, (0, -2147483648, 2147483647, 0)), (2, (0, -2147483648, 2147483647, 0))])]
def mub_32_4 (a0 x0 x1 x2 : Int) (h0 h : gH) : Nat := (2147483648 - x2).toNat
def A_32 : Int → List Int → gH → gH → Prop := fun c xs h0 h => True
def mu_32 : Int → List Int → gH → gH → Nat := fun c xs h0 h => match c.toNat with
  | 4 => (match xs with
    | [a0, x0, x1, x2] => mub_32_4 a0 x0 x1 x2 h0 h
    | _ => 0)
  | _ => 0
theorem q_32_0 {n0 n1 n2 : Int} {H0 : gH}  : True ∧ ∀ q, none = some q → mub_32_4 n0 n0 n1 n2 H0 H0 < q := by
  exact ⟨trivial, fun q hq => nomatch hq⟩
theorem c_32_s_0 : vOkm T0 (eP e_32 L_32 A_32 mu_32 none) 1 ([], (4000, [0, 1, 2], [0], 4)) := vOk_inI fun ρ η => q_32_0 (n0 := ρ 0) (n1 := ρ 1) (n2 := ρ 2) (H0 := η 0)
def p_32_s : List vG := [([], (4000, [0, 1, 2], [0], 4))]
theorem r_32_s : vCovO true (eR0 e_32 L_32 cs_32 2000) p_32_s = true := by decide +kernel
theorem q_32_1 {q0 : Nat} {n0 n1 n2 n3 n4 n5 n6 : Int} {H0 H1 H2 : gH} (f0 : n0 ≤ 2147483647) (f1 : (-2147483648) ≤ n0) (f2 : (hLe T0 H0 H1 ∧ hFr s_32.2.2.2.2 H0 H1 ∧ hWt T0 H1) ∧ (True ∧ True) ∧ some q0 = some (mub_32_4 n1 n2 n3 n0 H0 H1)) (f3 : n4 ≤ 40) (f4 : 0 ≤ n4) (f5 : n0 < n4) (f6 : n5 = w32 (n0 + 1)) : True ∧ ∀ q, some q0 = some q → mub_32_4 n1 n2 n6 n5 H0 H2 < q := by
  have g5 := Option.some.inj f2.2.2
  unfold mub_32_4 at g5
  unfold mub_32_4
  unfold w32 at f6
  refine ⟨?_, fun q hq => ?_⟩
  · trivial
  · have g6 := Option.some.inj hq
    subst g6
    omega
theorem c_32_4_0 {q0 : Nat} : vOkm T0 (eP e_32 L_32 A_32 mu_32 (some q0)) 1 ([(10, [8, 3], [], 1), (42, [3, 4], [], 0), (90, [4], [], 0), (91, [4], [], 40), (5000, [0, 1, 2, 3], [0, 1], 4), (90, [3], [], -2147483648), (91, [3], [], 2147483647)], (4000, [1, 7, 8], [2], 4)) := vOk_inI fun ρ η f0 f1 f2 f3 f4 f5 f6 => q_32_1 (q0 := q0) (n0 := ρ 3) (n1 := ρ 0) (n2 := ρ 1) (n3 := ρ 2) (n4 := ρ 4) (n5 := ρ 8) (n6 := ρ 7) (H0 := η 0) (H1 := η 1) (H2 := η 2) f6 f5 f4 f3 f2 f1 f0
theorem c_32_4_1 {q0 : Nat} : vOkm T0 (eP e_32 L_32 A_32 mu_32 (some q0)) 1 ([(10, [9, 3], [], 1), (42, [3, 4], [], 0), (90, [4], [], 0), (91, [4], [], 40), (5000, [0, 1, 2, 3], [0, 1], 4), (90, [3], [], -2147483648), (91, [3], [], 2147483647)], (4000, [1, 8, 9], [2], 4)) := vOk_inI fun ρ η f0 f1 f2 f3 f4 f5 f6 => q_32_1 (q0 := q0) (n0 := ρ 3) (n1 := ρ 0) (n2 := ρ 1) (n3 := ρ 2) (n4 := ρ 4) (n5 := ρ 9) (n6 := ρ 8) (H0 := η 0) (H1 := η 1) (H2 := η 2) f6 f5 f4 f3 f2 f1 f0
theorem c_32_4_2 {q0 : Nat} : vOkm T0 (eP e_32 L_32 A_32 mu_32 (some q0)) 1 ([(10, [9, 3], [], 1), (42, [3, 4], [], 0), (90, [4], [], 0), (91, [4], [], 40), (5000, [0, 1, 2, 3], [0, 1], 4), (90, [3], [], -2147483648), (91, [3], [], 2147483647)], (4000, [1, 8, 9], [2], 4)) := vOk_inI fun ρ η f0 f1 f2 f3 f4 f5 f6 => q_32_1 (q0 := q0) (n0 := ρ 3) (n1 := ρ 0) (n2 := ρ 1) (n3 := ρ 2) (n4 := ρ 4) (n5 := ρ 9) (n6 := ρ 8) (H0 := η 0) (H1 := η 1) (H2 := η 2) f6 f5 f4 f3 f2 f1 f0
def p_32_4 : List vG := [([(10, [8, 3], [], 1), (42, [3, 4], [], 0), (90, [4], [], 0), (91, [4], [], 40), (5000, [0, 1, 2, 3], [0, 1], 4), (90, [3], [], -2147483648), (91, [3], [], 2147483647)], (4000, [1, 7, 8], [2], 4)),
  ([(10, [9, 3], [], 1), (42, [3, 4], [], 0), (90, [4], [], 0), (91, [4], [], 40), (5000, [0, 1, 2, 3], [0, 1], 4), (90, [3], [], -2147483648), (91, [3], [], 2147483647)], (4000, [1, 8, 9], [2], 4)),
  ([(10, [9, 3], [], 1), (42, [3, 4], [], 0), (90, [4], [], 0), (91, [4], [], 40), (5000, [0, 1, 2, 3], [0, 1], 4), (90, [3], [], -2147483648), (91, [3], [], 2147483647)], (4000, [1, 8, 9], [2], 4))]
theorem r_32_4 : vCovO true (eRc e_32 L_32 cs_32 2000 (4, [(0, (3, 6, -1, 0)), (1, (0, -2147483648, 2147483647, 0)), (2, (0, -2147483648, 2147483647, 0))])) p_32_4 = true := by decide +kernel
theorem m_32 (d : Nat) : eC e_32 (d + 2) := eC_ok (e := e_32) (L := L_32) (cs := cs_32) (n := 2000) (d := d + 1) (A := A_32) (μ := mu_32) (tp := true) (p0 := p_32_s) rfl ⟨m_115 d, trivial⟩ rfl (.inr pre0_ok) (by decide +kernel) (fun _ => post0_ok) r_32_s (allC c_32_s_0 allN) (allC (.inl ⟨p_32_4, r_32_4, fun q0 => (allC c_32_4_0 (allC c_32_4_1 (allC c_32_4_2 allN)))⟩) allN)
/- Mixer.mirrored (II)I -/
noncomputable def s_30 : vM := ([(0, -2147483648, 2147483647, 0), (0, -2147483648, 2147483647, 0)], (0, -2147483648, 2147483647, 0), 0, 0, [])
noncomputable def e_30 : vE := (30, s_30, pre0, post0)
noncomputable def L_30 : List vE := []
def cs_30 : List vC := [(4, [(0, (0, -2147483648, 2147483647, 0)), (1, (0, -2147483648, 2147483647, 0)), (2, (0, -2147483648, 2147483647, 0)), (3, (0, -2147483648, 2147483647, 0))])]
def mub_30_4 (a0 a1 x0 x1 x2 x3 : Int) (h0 h : gH) : Nat := (2147483648 - x3).toNat
def A_30 : Int → List Int → gH → gH → Prop := fun c xs h0 h => True
def mu_30 : Int → List Int → gH → gH → Nat := fun c xs h0 h => match c.toNat with
  | 4 => (match xs with
    | [a0, a1, x0, x1, x2, x3] => mub_30_4 a0 a1 x0 x1 x2 x3 h0 h
    | _ => 0)
  | _ => 0
theorem q_30_0 {n0 n1 n2 n3 : Int} {H0 : gH}  : True ∧ ∀ q, none = some q → mub_30_4 n0 n1 n0 n1 n2 n3 H0 H0 < q := by
  exact ⟨trivial, fun q hq => nomatch hq⟩
theorem c_30_s_0 : vOkm T0 (eP e_30 L_30 A_30 mu_30 none) 2 ([], (4000, [0, 1, 2, 3], [0], 4)) := vOk_inI fun ρ η => q_30_0 (n0 := ρ 0) (n1 := ρ 1) (n2 := ρ 2) (n3 := ρ 3) (H0 := η 0)
def p_30_s : List vG := [([], (4000, [0, 1, 2, 3], [0], 4))]
theorem r_30_s : vCovO true (eR0 e_30 L_30 cs_30 2000) p_30_s = true := by decide +kernel
theorem q_30_1 {q0 : Nat} {n0 n1 n2 n3 n4 n5 n6 n7 : Int} {H0 H1 : gH} (f0 : n0 ≤ 2147483647) (f1 : (-2147483648) ≤ n0) (f2 : n1 ≤ 2147483647) (f3 : (-2147483648) ≤ n1) (f4 : (hLe T0 H0 H1 ∧ hFr s_30.2.2.2.2 H0 H1 ∧ hWt T0 H1) ∧ (True ∧ True) ∧ some q0 = some (mub_30_4 n2 n3 n4 n1 n5 n0 H0 H1)) (f5 : n0 < n1) (f6 : n6 = w32 (n0 + 1)) : True ∧ ∀ q, some q0 = some q → mub_30_4 n2 n3 n4 n1 n7 n6 H0 H1 < q := by
  have g5 := Option.some.inj f4.2.2
  unfold mub_30_4 at g5
  unfold mub_30_4
  unfold w32 at f6
  refine ⟨?_, fun q hq => ?_⟩
  · trivial
  · have g6 := Option.some.inj hq
    subst g6
    omega
theorem c_30_4_0 {q0 : Nat} : vOkm T0 (eP e_30 L_30 A_30 mu_30 (some q0)) 2 ([(10, [12, 5], [], 1), (42, [5, 3], [], 0), (5000, [0, 1, 2, 3, 4, 5], [0, 1], 4), (90, [3], [], -2147483648), (91, [3], [], 2147483647), (90, [5], [], -2147483648), (91, [5], [], 2147483647)], (4000, [2, 3, 11, 12], [1], 4)) := vOk_inI fun ρ η f0 f1 f2 f3 f4 f5 f6 => q_30_1 (q0 := q0) (n0 := ρ 5) (n1 := ρ 3) (n2 := ρ 0) (n3 := ρ 1) (n4 := ρ 2) (n5 := ρ 4) (n6 := ρ 12) (n7 := ρ 11) (H0 := η 0) (H1 := η 1) f6 f5 f4 f3 f2 f1 f0
def p_30_4 : List vG := [([(10, [12, 5], [], 1), (42, [5, 3], [], 0), (5000, [0, 1, 2, 3, 4, 5], [0, 1], 4), (90, [3], [], -2147483648), (91, [3], [], 2147483647), (90, [5], [], -2147483648), (91, [5], [], 2147483647)], (4000, [2, 3, 11, 12], [1], 4))]
theorem r_30_4 : vCovO true (eRc e_30 L_30 cs_30 2000 (4, [(0, (0, -2147483648, 2147483647, 0)), (1, (0, -2147483648, 2147483647, 0)), (2, (0, -2147483648, 2147483647, 0)), (3, (0, -2147483648, 2147483647, 0))])) p_30_4 = true := by decide +kernel
theorem m_30 (d : Nat) : eC e_30 (d + 1) := eC_ok (e := e_30) (L := L_30) (cs := cs_30) (n := 2000) (d := d + 0) (A := A_30) (μ := mu_30) (tp := true) (p0 := p_30_s) rfl trivial rfl (.inr pre0_ok) (by decide +kernel) (fun _ => post0_ok) r_30_s (allC c_30_s_0 allN) (allC (.inl ⟨p_30_4, r_30_4, fun q0 => (allC c_30_4_0 allN)⟩) allN)
/- java/lang/Integer.bitCount (I)I -/
noncomputable def s_315 : vM := ([(0, -2147483648, 2147483647, 0)], (0, -2147483648, 2147483647, 0), 0, 0, [])
noncomputable def e_315 : vE := (315, s_315, pre0, post0)
noncomputable def L_315 : List vE := []
def cs_315 : List vC := []
def A_315 : Int → List Int → gH → gH → Prop := fun c xs h0 h => True
def mu_315 : Int → List Int → gH → gH → Nat := fun c xs h0 h => 0
def p_315_s : List vG := []
theorem r_315_s : vCovO true (eR0 e_315 L_315 cs_315 2000) p_315_s = true := by decide +kernel
theorem m_315 (d : Nat) : eC e_315 (d + 1) := eC_ok (e := e_315) (L := L_315) (cs := cs_315) (n := 2000) (d := d + 0) (A := A_315) (μ := mu_315) (tp := true) (p0 := p_315_s) rfl trivial rfl (.inr pre0_ok) (by decide +kernel) (fun _ => post0_ok) r_315_s allN allN
/- java/lang/Math.abs (I)I -/
noncomputable def s_316 : vM := ([(0, -2147483648, 2147483647, 0)], (0, -2147483648, 2147483647, 0), 0, 0, [])
noncomputable def e_316 : vE := (316, s_316, pre0, post0)
noncomputable def L_316 : List vE := []
def cs_316 : List vC := []
def A_316 : Int → List Int → gH → gH → Prop := fun c xs h0 h => True
def mu_316 : Int → List Int → gH → gH → Nat := fun c xs h0 h => 0
def p_316_s : List vG := []
theorem r_316_s : vCovO true (eR0 e_316 L_316 cs_316 2000) p_316_s = true := by decide +kernel
theorem m_316 (d : Nat) : eC e_316 (d + 1) := eC_ok (e := e_316) (L := L_316) (cs := cs_316) (n := 2000) (d := d + 0) (A := A_316) (μ := mu_316) (tp := true) (p0 := p_316_s) rfl trivial rfl (.inr pre0_ok) (by decide +kernel) (fun _ => post0_ok) r_316_s allN allN
/- Mixer.loudest (I)I -/
noncomputable def s_34 : vM := ([(3, 2, 274, 0), (0, -2147483648, 2147483647, 0)], (0, -2147483648, 2147483647, 0), 0, 0, [])
noncomputable def e_34 : vE := (34, s_34, pre0, post0)
noncomputable def L_34 : List vE := [e_199k748, e_316, e_317]
def cs_34 : List vC := [(12, [(0, (3, 2, 274, 0)), (1, (0, -2147483648, 2147483647, 0)), (2, (0, -2147483648, 2147483647, 0)), (3, (0, -2147483648, 2147483647, 0)), (4, (0, -2147483648, 2147483647, 0)), (5, (0, -2147483648, 2147483647, 0))])]
def mub_34_12 (a0 a1 x0 x1 x2 x3 x4 x5 : Int) (h0 h : gH) : Nat := (2147483648 - x5).toNat
def A_34 : Int → List Int → gH → gH → Prop := fun c xs h0 h => True
def mu_34 : Int → List Int → gH → gH → Nat := fun c xs h0 h => match c.toNat with
  | 12 => (match xs with
    | [a0, a1, x0, x1, x2, x3, x4, x5] => mub_34_12 a0 a1 x0 x1 x2 x3 x4 x5 h0 h
    | _ => 0)
  | _ => 0
theorem q_34_0 {n0 n1 n2 n3 n4 n5 : Int} {H0 : gH}  : True ∧ ∀ q, none = some q → mub_34_12 n0 n1 n0 n1 n2 n3 n4 n5 H0 H0 < q := by
  exact ⟨trivial, fun q hq => nomatch hq⟩
theorem c_34_s_0 : vOkm T0 (eP e_34 L_34 A_34 mu_34 none) 2 ([], (4000, [0, 1, 3, 4, 5, 6], [0], 12)) := vOk_inI fun ρ η => q_34_0 (n0 := ρ 0) (n1 := ρ 1) (n2 := ρ 3) (n3 := ρ 4) (n4 := ρ 5) (n5 := ρ 6) (H0 := η 0)
def p_34_s : List vG := [([], (4000, [0, 1, 3, 4, 5, 6], [0], 12))]
theorem r_34_s : vCovO true (eR0 e_34 L_34 cs_34 2000) p_34_s = true := by decide +kernel
theorem q_34_1 {q0 : Nat} {n0 n1 n2 n3 n4 n5 n6 n7 n8 n9 n10 n11 n12 : Int} {H0 H1 H2 : gH} (f0 : n0 ≤ 2147483647) (f1 : (-2147483648) ≤ n0) (f2 : n1 ≤ 2147483647) (f3 : (-2147483648) ≤ n1) (f4 : (hLe T0 H0 H1 ∧ hFr s_34.2.2.2.2 H0 H1 ∧ hWt T0 H1) ∧ (True ∧ True) ∧ some q0 = some (mub_34_12 n2 n3 n4 n5 n1 n6 n7 n0 H0 H1)) (f5 : n8 ≤ 2147483647) (f6 : (-2147483648) ≤ n8) (f7 : n0 < n8) (f8 : n0 < n1) (f9 : n9 = 1) (f10 : n10 = w32 (n0 + n9)) (f11 : n10 < n1) (f12 : n11 = w32 (n0 + 1)) : True ∧ ∀ q, some q0 = some q → mub_34_12 n2 n3 n4 n5 n1 n12 n7 n11 H0 H2 < q := by
  have g5 := Option.some.inj f4.2.2
  unfold mub_34_12 at g5
  unfold mub_34_12
  unfold w32 at f10 f12
  refine ⟨?_, fun q hq => ?_⟩
  · trivial
  · have g6 := Option.some.inj hq
    subst g6
    omega
theorem c_34_12_0 {q0 : Nat} : vOkm T0 (eP e_34 L_34 A_34 mu_34 (some q0)) 2 ([(10, [15, 7], [], 1), (42, [14, 4], [], 0), (1, [14, 7, 13], [], 0), (0, [13], [], 1), (42, [7, 4], [], 0), (42, [7, 8], [], 0), (90, [8], [], -2147483648), (91, [8], [], 2147483647), (5000, [0, 1, 2, 3, 4, 5, 6, 7], [0, 1], 12), (90, [4], [], -2147483648), (91, [4], [], 2147483647), (90, [7], [], -2147483648), (91, [7], [], 2147483647)], (4000, [2, 3, 4, 12, 6, 15], [3], 12)) := vOk_inI fun ρ η f0 f1 f2 f3 f4 f5 f6 f7 f8 f9 f10 f11 f12 => q_34_1 (q0 := q0) (n0 := ρ 7) (n1 := ρ 4) (n2 := ρ 0) (n3 := ρ 1) (n4 := ρ 2) (n5 := ρ 3) (n6 := ρ 5) (n7 := ρ 6) (n8 := ρ 8) (n9 := ρ 13) (n10 := ρ 14) (n11 := ρ 15) (n12 := ρ 12) (H0 := η 0) (H1 := η 1) (H2 := η 3) f12 f11 f10 f9 f8 f7 f6 f5 f4 f3 f2 f1 f0
theorem q_34_2 {q0 : Nat} {n0 n1 n2 n3 n4 n5 n6 n7 n8 n9 n10 n11 n12 : Int} {H0 H1 H2 : gH} (f0 : n0 ≤ 2147483647) (f1 : (-2147483648) ≤ n0) (f2 : n1 ≤ 2147483647) (f3 : (-2147483648) ≤ n1) (f4 : (hLe T0 H0 H1 ∧ hFr s_34.2.2.2.2 H0 H1 ∧ hWt T0 H1) ∧ (True ∧ True) ∧ some q0 = some (mub_34_12 n2 n3 n4 n5 n1 n6 n7 n0 H0 H1)) (f5 : n8 ≤ 2147483647) (f6 : (-2147483648) ≤ n8) (f7 : n0 < n8) (f8 : n0 < n1) (f9 : n9 = 1) (f10 : n10 = w32 (n0 + n9)) (f11 : n1 ≤ n10) (f12 : n11 = w32 (n0 + 1)) : True ∧ ∀ q, some q0 = some q → mub_34_12 n2 n3 n4 n5 n1 n12 n7 n11 H0 H2 < q := by
  have g5 := Option.some.inj f4.2.2
  unfold mub_34_12 at g5
  unfold mub_34_12
  unfold w32 at f10 f12
  refine ⟨?_, fun q hq => ?_⟩
  · trivial
  · have g6 := Option.some.inj hq
    subst g6
    omega
theorem c_34_12_1 {q0 : Nat} : vOkm T0 (eP e_34 L_34 A_34 mu_34 (some q0)) 2 ([(10, [20, 7], [], 1), (43, [14, 4], [], 0), (1, [14, 7, 13], [], 0), (0, [13], [], 1), (42, [7, 4], [], 0), (42, [7, 8], [], 0), (90, [8], [], -2147483648), (91, [8], [], 2147483647), (5000, [0, 1, 2, 3, 4, 5, 6, 7], [0, 1], 12), (90, [4], [], -2147483648), (91, [4], [], 2147483647), (90, [7], [], -2147483648), (91, [7], [], 2147483647)], (4000, [2, 3, 4, 12, 6, 20], [3], 12)) := vOk_inI fun ρ η f0 f1 f2 f3 f4 f5 f6 f7 f8 f9 f10 f11 f12 => q_34_2 (q0 := q0) (n0 := ρ 7) (n1 := ρ 4) (n2 := ρ 0) (n3 := ρ 1) (n4 := ρ 2) (n5 := ρ 3) (n6 := ρ 5) (n7 := ρ 6) (n8 := ρ 8) (n9 := ρ 13) (n10 := ρ 14) (n11 := ρ 20) (n12 := ρ 12) (H0 := η 0) (H1 := η 1) (H2 := η 3) f12 f11 f10 f9 f8 f7 f6 f5 f4 f3 f2 f1 f0
theorem q_34_3 {q0 : Nat} {n0 n1 n2 n3 n4 n5 n6 n7 n8 n9 n10 n11 n12 n13 : Int} {H0 H1 H2 : gH} (f0 : n0 ≤ 2147483647) (f1 : (-2147483648) ≤ n0) (f2 : n1 ≤ 2147483647) (f3 : (-2147483648) ≤ n1) (f4 : (hLe T0 H0 H1 ∧ hFr s_34.2.2.2.2 H0 H1 ∧ hWt T0 H1) ∧ (True ∧ True) ∧ some q0 = some (mub_34_12 n2 n3 n4 n5 n1 n6 n7 n0 H0 H1)) (f5 : n8 ≤ 2147483647) (f6 : (-2147483648) ≤ n8) (f7 : n0 < n8) (f8 : n0 < n1) (f9 : n9 = 1) (f10 : n10 = w32 (n0 + n9)) (f11 : n1 ≤ n10) (f12 : n11 = w32 (n0 + 1)) : True ∧ ∀ q, some q0 = some q → mub_34_12 n2 n3 n4 n5 n1 n12 n13 n11 H0 H2 < q := by
  have g5 := Option.some.inj f4.2.2
  unfold mub_34_12 at g5
  unfold mub_34_12
  unfold w32 at f10 f12
  refine ⟨?_, fun q hq => ?_⟩
  · trivial
  · have g6 := Option.some.inj hq
    subst g6
    omega
theorem c_34_12_2 {q0 : Nat} : vOkm T0 (eP e_34 L_34 A_34 mu_34 (some q0)) 2 ([(10, [21, 7], [], 1), (43, [14, 4], [], 0), (1, [14, 7, 13], [], 0), (0, [13], [], 1), (42, [7, 4], [], 0), (42, [7, 8], [], 0), (90, [8], [], -2147483648), (91, [8], [], 2147483647), (5000, [0, 1, 2, 3, 4, 5, 6, 7], [0, 1], 12), (90, [4], [], -2147483648), (91, [4], [], 2147483647), (90, [7], [], -2147483648), (91, [7], [], 2147483647)], (4000, [2, 3, 4, 12, 20, 21], [4], 12)) := vOk_inI fun ρ η f0 f1 f2 f3 f4 f5 f6 f7 f8 f9 f10 f11 f12 => q_34_3 (q0 := q0) (n0 := ρ 7) (n1 := ρ 4) (n2 := ρ 0) (n3 := ρ 1) (n4 := ρ 2) (n5 := ρ 3) (n6 := ρ 5) (n7 := ρ 6) (n8 := ρ 8) (n9 := ρ 13) (n10 := ρ 14) (n11 := ρ 21) (n12 := ρ 12) (n13 := ρ 20) (H0 := η 0) (H1 := η 1) (H2 := η 4) f12 f11 f10 f9 f8 f7 f6 f5 f4 f3 f2 f1 f0
theorem q_34_4 {q0 : Nat} {n0 n1 n2 n3 n4 n5 n6 n7 n8 n9 n10 n11 n12 : Int} {H0 H1 H2 : gH} (f0 : n0 ≤ 2147483647) (f1 : (-2147483648) ≤ n0) (f2 : n1 ≤ 2147483647) (f3 : (-2147483648) ≤ n1) (f4 : (hLe T0 H0 H1 ∧ hFr s_34.2.2.2.2 H0 H1 ∧ hWt T0 H1) ∧ (True ∧ True) ∧ some q0 = some (mub_34_12 n2 n3 n4 n5 n1 n6 n7 n0 H0 H1)) (f5 : n8 ≤ 2147483647) (f6 : (-2147483648) ≤ n8) (f7 : n0 < n8) (f8 : n1 ≤ n0) (f9 : n9 = 1) (f10 : n10 = w32 (n0 + n9)) (f11 : n10 < n1) (f12 : n11 = w32 (n0 + 1)) : True ∧ ∀ q, some q0 = some q → mub_34_12 n2 n3 n4 n5 n1 n12 n7 n11 H0 H2 < q := by
  have g5 := Option.some.inj f4.2.2
  unfold mub_34_12 at g5
  unfold mub_34_12
  unfold w32 at f10 f12
  refine ⟨?_, fun q hq => ?_⟩
  · trivial
  · have g6 := Option.some.inj hq
    subst g6
    omega
theorem c_34_12_3 {q0 : Nat} : vOkm T0 (eP e_34 L_34 A_34 mu_34 (some q0)) 2 ([(10, [20, 7], [], 1), (42, [19, 4], [], 0), (1, [19, 7, 18], [], 0), (0, [18], [], 1), (43, [7, 4], [], 0), (42, [7, 8], [], 0), (90, [8], [], -2147483648), (91, [8], [], 2147483647), (5000, [0, 1, 2, 3, 4, 5, 6, 7], [0, 1], 12), (90, [4], [], -2147483648), (91, [4], [], 2147483647), (90, [7], [], -2147483648), (91, [7], [], 2147483647)], (4000, [2, 3, 4, 17, 6, 20], [5], 12)) := vOk_inI fun ρ η f0 f1 f2 f3 f4 f5 f6 f7 f8 f9 f10 f11 f12 => q_34_4 (q0 := q0) (n0 := ρ 7) (n1 := ρ 4) (n2 := ρ 0) (n3 := ρ 1) (n4 := ρ 2) (n5 := ρ 3) (n6 := ρ 5) (n7 := ρ 6) (n8 := ρ 8) (n9 := ρ 18) (n10 := ρ 19) (n11 := ρ 20) (n12 := ρ 17) (H0 := η 0) (H1 := η 1) (H2 := η 5) f12 f11 f10 f9 f8 f7 f6 f5 f4 f3 f2 f1 f0
theorem q_34_5 {q0 : Nat} {n0 n1 n2 n3 n4 n5 n6 n7 n8 n9 n10 n11 n12 : Int} {H0 H1 H2 : gH} (f0 : n0 ≤ 2147483647) (f1 : (-2147483648) ≤ n0) (f2 : n1 ≤ 2147483647) (f3 : (-2147483648) ≤ n1) (f4 : (hLe T0 H0 H1 ∧ hFr s_34.2.2.2.2 H0 H1 ∧ hWt T0 H1) ∧ (True ∧ True) ∧ some q0 = some (mub_34_12 n2 n3 n4 n5 n1 n6 n7 n0 H0 H1)) (f5 : n8 ≤ 2147483647) (f6 : (-2147483648) ≤ n8) (f7 : n0 < n8) (f8 : n1 ≤ n0) (f9 : n9 = 1) (f10 : n10 = w32 (n0 + n9)) (f11 : n1 ≤ n10) (f12 : n11 = w32 (n0 + 1)) : True ∧ ∀ q, some q0 = some q → mub_34_12 n2 n3 n4 n5 n1 n12 n7 n11 H0 H2 < q := by
  have g5 := Option.some.inj f4.2.2
  unfold mub_34_12 at g5
  unfold mub_34_12
  unfold w32 at f10 f12
  refine ⟨?_, fun q hq => ?_⟩
  · trivial
  · have g6 := Option.some.inj hq
    subst g6
    omega
theorem c_34_12_4 {q0 : Nat} : vOkm T0 (eP e_34 L_34 A_34 mu_34 (some q0)) 2 ([(10, [25, 7], [], 1), (43, [19, 4], [], 0), (1, [19, 7, 18], [], 0), (0, [18], [], 1), (43, [7, 4], [], 0), (42, [7, 8], [], 0), (90, [8], [], -2147483648), (91, [8], [], 2147483647), (5000, [0, 1, 2, 3, 4, 5, 6, 7], [0, 1], 12), (90, [4], [], -2147483648), (91, [4], [], 2147483647), (90, [7], [], -2147483648), (91, [7], [], 2147483647)], (4000, [2, 3, 4, 17, 6, 25], [5], 12)) := vOk_inI fun ρ η f0 f1 f2 f3 f4 f5 f6 f7 f8 f9 f10 f11 f12 => q_34_5 (q0 := q0) (n0 := ρ 7) (n1 := ρ 4) (n2 := ρ 0) (n3 := ρ 1) (n4 := ρ 2) (n5 := ρ 3) (n6 := ρ 5) (n7 := ρ 6) (n8 := ρ 8) (n9 := ρ 18) (n10 := ρ 19) (n11 := ρ 25) (n12 := ρ 17) (H0 := η 0) (H1 := η 1) (H2 := η 5) f12 f11 f10 f9 f8 f7 f6 f5 f4 f3 f2 f1 f0
theorem q_34_6 {q0 : Nat} {n0 n1 n2 n3 n4 n5 n6 n7 n8 n9 n10 n11 n12 n13 : Int} {H0 H1 H2 : gH} (f0 : n0 ≤ 2147483647) (f1 : (-2147483648) ≤ n0) (f2 : n1 ≤ 2147483647) (f3 : (-2147483648) ≤ n1) (f4 : (hLe T0 H0 H1 ∧ hFr s_34.2.2.2.2 H0 H1 ∧ hWt T0 H1) ∧ (True ∧ True) ∧ some q0 = some (mub_34_12 n2 n3 n4 n5 n1 n6 n7 n0 H0 H1)) (f5 : n8 ≤ 2147483647) (f6 : (-2147483648) ≤ n8) (f7 : n0 < n8) (f8 : n1 ≤ n0) (f9 : n9 = 1) (f10 : n10 = w32 (n0 + n9)) (f11 : n1 ≤ n10) (f12 : n11 = w32 (n0 + 1)) : True ∧ ∀ q, some q0 = some q → mub_34_12 n2 n3 n4 n5 n1 n12 n13 n11 H0 H2 < q := by
  have g5 := Option.some.inj f4.2.2
  unfold mub_34_12 at g5
  unfold mub_34_12
  unfold w32 at f10 f12
  refine ⟨?_, fun q hq => ?_⟩
  · trivial
  · have g6 := Option.some.inj hq
    subst g6
    omega
theorem c_34_12_5 {q0 : Nat} : vOkm T0 (eP e_34 L_34 A_34 mu_34 (some q0)) 2 ([(10, [26, 7], [], 1), (43, [19, 4], [], 0), (1, [19, 7, 18], [], 0), (0, [18], [], 1), (43, [7, 4], [], 0), (42, [7, 8], [], 0), (90, [8], [], -2147483648), (91, [8], [], 2147483647), (5000, [0, 1, 2, 3, 4, 5, 6, 7], [0, 1], 12), (90, [4], [], -2147483648), (91, [4], [], 2147483647), (90, [7], [], -2147483648), (91, [7], [], 2147483647)], (4000, [2, 3, 4, 17, 25, 26], [6], 12)) := vOk_inI fun ρ η f0 f1 f2 f3 f4 f5 f6 f7 f8 f9 f10 f11 f12 => q_34_6 (q0 := q0) (n0 := ρ 7) (n1 := ρ 4) (n2 := ρ 0) (n3 := ρ 1) (n4 := ρ 2) (n5 := ρ 3) (n6 := ρ 5) (n7 := ρ 6) (n8 := ρ 8) (n9 := ρ 18) (n10 := ρ 19) (n11 := ρ 26) (n12 := ρ 17) (n13 := ρ 25) (H0 := η 0) (H1 := η 1) (H2 := η 6) f12 f11 f10 f9 f8 f7 f6 f5 f4 f3 f2 f1 f0
def p_34_12 : List vG := [([(10, [15, 7], [], 1), (42, [14, 4], [], 0), (1, [14, 7, 13], [], 0), (0, [13], [], 1), (42, [7, 4], [], 0), (42, [7, 8], [], 0), (90, [8], [], -2147483648), (91, [8], [], 2147483647), (5000, [0, 1, 2, 3, 4, 5, 6, 7], [0, 1], 12), (90, [4], [], -2147483648), (91, [4], [], 2147483647), (90, [7], [], -2147483648), (91, [7], [], 2147483647)], (4000, [2, 3, 4, 12, 6, 15], [3], 12)),
  ([(10, [20, 7], [], 1), (43, [14, 4], [], 0), (1, [14, 7, 13], [], 0), (0, [13], [], 1), (42, [7, 4], [], 0), (42, [7, 8], [], 0), (90, [8], [], -2147483648), (91, [8], [], 2147483647), (5000, [0, 1, 2, 3, 4, 5, 6, 7], [0, 1], 12), (90, [4], [], -2147483648), (91, [4], [], 2147483647), (90, [7], [], -2147483648), (91, [7], [], 2147483647)], (4000, [2, 3, 4, 12, 6, 20], [3], 12)),
  ([(10, [21, 7], [], 1), (43, [14, 4], [], 0), (1, [14, 7, 13], [], 0), (0, [13], [], 1), (42, [7, 4], [], 0), (42, [7, 8], [], 0), (90, [8], [], -2147483648), (91, [8], [], 2147483647), (5000, [0, 1, 2, 3, 4, 5, 6, 7], [0, 1], 12), (90, [4], [], -2147483648), (91, [4], [], 2147483647), (90, [7], [], -2147483648), (91, [7], [], 2147483647)], (4000, [2, 3, 4, 12, 20, 21], [4], 12)),
  ([(10, [20, 7], [], 1), (42, [19, 4], [], 0), (1, [19, 7, 18], [], 0), (0, [18], [], 1), (43, [7, 4], [], 0), (42, [7, 8], [], 0), (90, [8], [], -2147483648), (91, [8], [], 2147483647), (5000, [0, 1, 2, 3, 4, 5, 6, 7], [0, 1], 12), (90, [4], [], -2147483648), (91, [4], [], 2147483647), (90, [7], [], -2147483648), (91, [7], [], 2147483647)], (4000, [2, 3, 4, 17, 6, 20], [5], 12)),
  ([(10, [25, 7], [], 1), (43, [19, 4], [], 0), (1, [19, 7, 18], [], 0), (0, [18], [], 1), (43, [7, 4], [], 0), (42, [7, 8], [], 0), (90, [8], [], -2147483648), (91, [8], [], 2147483647), (5000, [0, 1, 2, 3, 4, 5, 6, 7], [0, 1], 12), (90, [4], [], -2147483648), (91, [4], [], 2147483647), (90, [7], [], -2147483648), (91, [7], [], 2147483647)], (4000, [2, 3, 4, 17, 6, 25], [5], 12)),
  ([(10, [26, 7], [], 1), (43, [19, 4], [], 0), (1, [19, 7, 18], [], 0), (0, [18], [], 1), (43, [7, 4], [], 0), (42, [7, 8], [], 0), (90, [8], [], -2147483648), (91, [8], [], 2147483647), (5000, [0, 1, 2, 3, 4, 5, 6, 7], [0, 1], 12), (90, [4], [], -2147483648), (91, [4], [], 2147483647), (90, [7], [], -2147483648), (91, [7], [], 2147483647)], (4000, [2, 3, 4, 17, 25, 26], [6], 12))]
theorem r_34_12 : vCovO true (eRc e_34 L_34 cs_34 2000 (12, [(0, (3, 2, 274, 0)), (1, (0, -2147483648, 2147483647, 0)), (2, (0, -2147483648, 2147483647, 0)), (3, (0, -2147483648, 2147483647, 0)), (4, (0, -2147483648, 2147483647, 0)), (5, (0, -2147483648, 2147483647, 0))])) p_34_12 = true := by decide +kernel
theorem m_34 (d : Nat) : eC e_34 (d + 2) := eC_ok (e := e_34) (L := L_34) (cs := cs_34) (n := 2000) (d := d + 1) (A := A_34) (μ := mu_34) (tp := true) (p0 := p_34_s) rfl ⟨m_199k748 d, ⟨m_316 d, ⟨m_317 d, trivial⟩⟩⟩ rfl (.inr pre0_ok) (by decide +kernel) (fun _ => post0_ok) r_34_s (allC c_34_s_0 allN) (allC (.inl ⟨p_34_12, r_34_12, fun q0 => (allC c_34_12_0 (allC c_34_12_1 (allC c_34_12_2 (allC c_34_12_3 (allC c_34_12_4 (allC c_34_12_5 allN))))))⟩) allN)
/- Mixer.holds (LMixStage$Sheet;III)Z -/
noncomputable def s_31 : vM := ([(3, 2, 274, 0), (3, 6, -1, 0), (0, -2147483648, 2147483647, 0), (0, -2147483648, 2147483647, 0), (0, -2147483648, 2147483647, 0)], (0, 0, 1, 0), 0, 0, [(748, 0), (757, 0)])
noncomputable def e_31 : vE := (31, s_31, pre0, post0)
noncomputable def L_31 : List vE := [e_34, e_43]
def cs_31 : List vC := []
def A_31 : Int → List Int → gH → gH → Prop := fun c xs h0 h => True
def mu_31 : Int → List Int → gH → gH → Nat := fun c xs h0 h => 0
def p_31_s : List vG := []
theorem r_31_s : vCovO true (eR0 e_31 L_31 cs_31 2000) p_31_s = true := by decide +kernel
theorem m_31 (d : Nat) : eC e_31 (d + 6) := eC_ok (e := e_31) (L := L_31) (cs := cs_31) (n := 2000) (d := d + 5) (A := A_31) (μ := mu_31) (tp := true) (p0 := p_31_s) rfl ⟨m_34 (d + 3), ⟨m_43 d, trivial⟩⟩ rfl (.inr pre0_ok) (by decide +kernel) (fun _ => post0_ok) r_31_s allN allN
/- Mixer.fewestHalved (LMixStage$Sheet;II)I -/
noncomputable def s_29 : vM := ([(3, 2, 274, 0), (3, 6, -1, 0), (0, -2147483648, 2147483647, 0), (0, -2147483648, 2147483647, 0)], (0, -2147483648, 2147483647, 0), 0, 0, [(2, 8), (10, 0), (10, 1), (10, 2), (748, 0), (757, 0)])
noncomputable def e_29 : vE := (29, s_29, pre0, post0)
noncomputable def L_29 : List vE := [e_30, e_31, e_32, e_35, e_315, e_319]
def cs_29 : List vC := [(19, [(0, (3, 2, 274, 0)), (1, (3, 6, -1, 0)), (2, (0, -2147483648, 2147483647, 0)), (3, (0, -2147483648, 2147483647, 0)), (4, (0, -2147483648, 8, 0)), (5, (0, -2147483648, 2147483647, 0))]), (34, [(0, (3, 2, 274, 0)), (1, (3, 6, -1, 0)), (2, (0, -2147483648, 2147483647, 0)), (3, (0, -2147483648, 2147483647, 0)), (4, (0, -2147483648, 8, 0)), (5, (0, -2147483648, 2147483646, 0)), (6, (0, -2147483648, 2147483647, 0))])]
def mub_29_19 (a0 a1 a2 a3 x0 x1 x2 x3 x4 x5 : Int) (h0 h : gH) : Nat := (8589934592 + (2147483648 - x5).toNat) * 1099511627776 + 1099511627775
def mub_29_34 (a0 a1 a2 a3 x0 x1 x2 x3 x4 x5 x6 : Int) (h0 h : gH) : Nat := (8589934592 + (2147483648 - x5).toNat) * 1099511627776 + (8589934592 + (x6 + 2147483648).toNat) * 1
def A_29 : Int → List Int → gH → gH → Prop := fun c xs h0 h => True
def mu_29 : Int → List Int → gH → gH → Nat := fun c xs h0 h => match c.toNat with
  | 19 => (match xs with
    | [a0, a1, a2, a3, x0, x1, x2, x3, x4, x5] => mub_29_19 a0 a1 a2 a3 x0 x1 x2 x3 x4 x5 h0 h
    | _ => 0)
  | 34 => (match xs with
    | [a0, a1, a2, a3, x0, x1, x2, x3, x4, x5, x6] => mub_29_34 a0 a1 a2 a3 x0 x1 x2 x3 x4 x5 x6 h0 h
    | _ => 0)
  | _ => 0
theorem q_29_0 {n0 n1 n2 : Int} {H0 H1 H2 : gH} (f0 : n0 = 8) (f1 : n1 ≤ 2147483647) (f2 : (-2147483648) ≤ n1) (f3 : n2 ≤ 2147483647) (f4 : (-2147483648) ≤ n2) (f5 : (hLe T0 H1 H2 ∧ hFr s_319.2.2.2.2 H1 H2 ∧ ((0 : Int) = 0 → H2.length = H1.length) ∧ hWt T0 H2) ∧ postb_319 n2 n0 n1 H1 H2) : n2 ≤ 8 := by
  unfold postb_319 at f5
  omega
theorem c_29_s_0 : vOkm T0 (eP e_29 L_29 A_29 mu_29 none) 4 ([(1319, [6, 4, 5], [2, 3], 0), (90, [6], [], -2147483648), (91, [6], [], 2147483647), (90, [5], [], -2147483648), (91, [5], [], 2147483647), (0, [4], [], 8)], (91, [6], [], 8)) := vOk_inI fun ρ η f0 f1 f2 f3 f4 f5 => q_29_0 (n0 := ρ 4) (n1 := ρ 5) (n2 := ρ 6) (H0 := η 0) (H1 := η 2) (H2 := η 3) f5 f4 f3 f2 f1 f0
theorem q_29_1 {n0 n1 n2 n3 n4 n5 : Int} {H0 H1 : gH}  : True ∧ ∀ q, none = some q → mub_29_19 n0 n1 n2 n3 n0 n1 n2 n3 n4 n5 H0 H1 < q := by
  exact ⟨trivial, fun q hq => nomatch hq⟩
theorem c_29_s_1 : vOkm T0 (eP e_29 L_29 A_29 mu_29 none) 4 ([], (4000, [0, 1, 2, 3, 6, 7], [3], 19)) := vOk_inI fun ρ η => q_29_1 (n0 := ρ 0) (n1 := ρ 1) (n2 := ρ 2) (n3 := ρ 3) (n4 := ρ 6) (n5 := ρ 7) (H0 := η 0) (H1 := η 3)
def p_29_s : List vG := [([(1319, [6, 4, 5], [2, 3], 0), (90, [6], [], -2147483648), (91, [6], [], 2147483647), (90, [5], [], -2147483648), (91, [5], [], 2147483647), (0, [4], [], 8)], (91, [6], [], 8)),
  ([], (4000, [0, 1, 2, 3, 6, 7], [3], 19))]
theorem r_29_s : vCovO true (eR0 e_29 L_29 cs_29 2000) p_29_s = true := by decide +kernel
theorem q_29_2 {q0 : Nat} {n0 n1 : Int} {H0 : gH} (f0 : n0 ≤ 2147483647) (f1 : (-2147483648) ≤ n0) (f2 : n1 ≤ 8) (f3 : (-2147483648) ≤ n1) (f4 : n0 ≤ n1) : n0 ≤ 2147483646 := by
  omega
theorem c_29_19_0 {q0 : Nat} : vOkm T0 (eP e_29 L_29 A_29 mu_29 (some q0)) 4 ([(45, [9, 8], [], 0), (90, [8], [], -2147483648), (91, [8], [], 8), (90, [9], [], -2147483648), (91, [9], [], 2147483647)], (91, [9], [], 2147483646)) := vOk_inI fun ρ η f0 f1 f2 f3 f4 => q_29_2 (q0 := q0) (n0 := ρ 9) (n1 := ρ 8) (H0 := η 0) f4 f3 f2 f1 f0
theorem q_29_3 {q0 : Nat} {n0 n1 n2 n3 n4 n5 n6 n7 n8 n9 n10 n11 n12 n13 : Int} {H0 H1 : gH} (f0 : n0 ≤ 2147483647) (f1 : (-2147483648) ≤ n0) (f2 : n1 ≤ 8) (f3 : (-2147483648) ≤ n1) (f4 : (hLe T0 H0 H1 ∧ hFr s_29.2.2.2.2 H0 H1 ∧ hWt T0 H1) ∧ (True ∧ True) ∧ some q0 = some (mub_29_19 n2 n3 n4 n5 n6 n7 n8 n9 n1 n0 H0 H1)) (f5 : n0 ≤ n1) (f6 : n10 = 1) (f7 : n11 = o32 (fun x y => x <<< (y &&& 31)) n10 n1) (f8 : n12 = 1) (f9 : n13 = w32 (n11 - n12)) : True ∧ ∀ q, some q0 = some q → mub_29_34 n2 n3 n4 n5 n6 n7 n8 n9 n1 n0 n13 H0 H1 < q := by
  have g5 := Option.some.inj f4.2.2
  unfold mub_29_19 at g5
  unfold mub_29_34
  unfold w32 at f9
  refine ⟨?_, fun q hq => ?_⟩
  · trivial
  · have g6 := Option.some.inj hq
    subst g6
    omega
theorem c_29_19_1 {q0 : Nat} : vOkm T0 (eP e_29 L_29 A_29 mu_29 (some q0)) 4 ([(2, [13, 11, 12], [], 0), (0, [12], [], 1), (7, [11, 10, 8], [], 0), (0, [10], [], 1), (45, [9, 8], [], 0), (5000, [0, 1, 2, 3, 4, 5, 6, 7, 8, 9], [0, 1], 19), (90, [8], [], -2147483648), (91, [8], [], 8), (90, [9], [], -2147483648), (91, [9], [], 2147483647)], (4000, [4, 5, 6, 7, 8, 9, 13], [1], 34)) := vOk_inI fun ρ η f0 f1 f2 f3 f4 f5 f6 f7 f8 f9 => q_29_3 (q0 := q0) (n0 := ρ 9) (n1 := ρ 8) (n2 := ρ 0) (n3 := ρ 1) (n4 := ρ 2) (n5 := ρ 3) (n6 := ρ 4) (n7 := ρ 5) (n8 := ρ 6) (n9 := ρ 7) (n10 := ρ 10) (n11 := ρ 11) (n12 := ρ 12) (n13 := ρ 13) (H0 := η 0) (H1 := η 1) f9 f8 f7 f6 f5 f4 f3 f2 f1 f0
def p_29_19 : List vG := [([(45, [9, 8], [], 0), (90, [8], [], -2147483648), (91, [8], [], 8), (90, [9], [], -2147483648), (91, [9], [], 2147483647)], (91, [9], [], 2147483646)),
  ([(2, [13, 11, 12], [], 0), (0, [12], [], 1), (7, [11, 10, 8], [], 0), (0, [10], [], 1), (45, [9, 8], [], 0), (5000, [0, 1, 2, 3, 4, 5, 6, 7, 8, 9], [0, 1], 19), (90, [8], [], -2147483648), (91, [8], [], 8), (90, [9], [], -2147483648), (91, [9], [], 2147483647)], (4000, [4, 5, 6, 7, 8, 9, 13], [1], 34))]
theorem r_29_19 : vCovO true (eRc e_29 L_29 cs_29 2000 (19, [(0, (3, 2, 274, 0)), (1, (3, 6, -1, 0)), (2, (0, -2147483648, 2147483647, 0)), (3, (0, -2147483648, 2147483647, 0)), (4, (0, -2147483648, 8, 0)), (5, (0, -2147483648, 2147483647, 0))])) p_29_19 = true := by decide +kernel
theorem q_29_4 {q0 : Nat} {n0 n1 n2 n3 n4 n5 n6 n7 n8 n9 n10 n11 : Int} {H0 H1 : gH} (f0 : n0 ≤ 2147483647) (f1 : (-2147483648) ≤ n0) (f2 : n1 ≤ 2147483646) (f3 : (-2147483648) ≤ n1) (f4 : (hLe T0 H0 H1 ∧ hFr s_29.2.2.2.2 H0 H1 ∧ hWt T0 H1) ∧ (True ∧ True) ∧ some q0 = some (mub_29_34 n2 n3 n4 n5 n6 n7 n8 n9 n10 n1 n0 H0 H1)) (f5 : n0 < 0) (f6 : n11 = w32 (n1 + 1)) : True ∧ ∀ q, some q0 = some q → mub_29_19 n2 n3 n4 n5 n6 n7 n8 n9 n10 n11 H0 H1 < q := by
  have g5 := Option.some.inj f4.2.2
  unfold mub_29_34 at g5
  unfold mub_29_19
  unfold w32 at f6
  refine ⟨?_, fun q hq => ?_⟩
  · trivial
  · have g6 := Option.some.inj hq
    subst g6
    omega
theorem c_29_34_0 {q0 : Nat} : vOkm T0 (eP e_29 L_29 A_29 mu_29 (some q0)) 4 ([(10, [11, 9], [], 1), (32, [10], [], 0), (5000, [0, 1, 2, 3, 4, 5, 6, 7, 8, 9, 10], [0, 1], 34), (90, [9], [], -2147483648), (91, [9], [], 2147483646), (90, [10], [], -2147483648), (91, [10], [], 2147483647)], (4000, [4, 5, 6, 7, 8, 11], [1], 19)) := vOk_inI fun ρ η f0 f1 f2 f3 f4 f5 f6 => q_29_4 (q0 := q0) (n0 := ρ 10) (n1 := ρ 9) (n2 := ρ 0) (n3 := ρ 1) (n4 := ρ 2) (n5 := ρ 3) (n6 := ρ 4) (n7 := ρ 5) (n8 := ρ 6) (n9 := ρ 7) (n10 := ρ 8) (n11 := ρ 11) (H0 := η 0) (H1 := η 1) f6 f5 f4 f3 f2 f1 f0
theorem q_29_5 {q0 : Nat} {n0 n1 n2 n3 n4 n5 n6 n7 n8 n9 n10 n11 n12 : Int} {H0 H1 H2 : gH} (f0 : n0 ≤ 2147483647) (f1 : (-2147483648) ≤ n0) (f2 : n1 ≤ 2147483646) (f3 : (-2147483648) ≤ n1) (f4 : (hLe T0 H0 H1 ∧ hFr s_29.2.2.2.2 H0 H1 ∧ hWt T0 H1) ∧ (True ∧ True) ∧ some q0 = some (mub_29_34 n2 n3 n4 n5 n6 n7 n8 n9 n10 n1 n0 H0 H1)) (f5 : 0 ≤ n0) (f6 : n11 ≤ 2147483647) (f7 : (-2147483648) ≤ n11) (f8 : n11 ≠ n1) (f9 : n12 = w32 (n0 + (-1))) : True ∧ ∀ q, some q0 = some q → mub_29_34 n2 n3 n4 n5 n6 n7 n8 n9 n10 n1 n12 H0 H2 < q := by
  have g5 := Option.some.inj f4.2.2
  unfold mub_29_34 at g5
  unfold mub_29_34
  unfold w32 at f9
  refine ⟨?_, fun q hq => ?_⟩
  · trivial
  · have g6 := Option.some.inj hq
    subst g6
    omega
theorem c_29_34_1 {q0 : Nat} : vOkm T0 (eP e_29 L_29 A_29 mu_29 (some q0)) 4 ([(10, [13, 10], [], -1), (41, [12, 9], [], 0), (90, [12], [], -2147483648), (91, [12], [], 2147483647), (33, [10], [], 0), (5000, [0, 1, 2, 3, 4, 5, 6, 7, 8, 9, 10], [0, 1], 34), (90, [9], [], -2147483648), (91, [9], [], 2147483646), (90, [10], [], -2147483648), (91, [10], [], 2147483647)], (4000, [4, 5, 6, 7, 8, 9, 13], [3], 34)) := vOk_inI fun ρ η f0 f1 f2 f3 f4 f5 f6 f7 f8 f9 => q_29_5 (q0 := q0) (n0 := ρ 10) (n1 := ρ 9) (n2 := ρ 0) (n3 := ρ 1) (n4 := ρ 2) (n5 := ρ 3) (n6 := ρ 4) (n7 := ρ 5) (n8 := ρ 6) (n9 := ρ 7) (n10 := ρ 8) (n11 := ρ 12) (n12 := ρ 13) (H0 := η 0) (H1 := η 1) (H2 := η 3) f9 f8 f7 f6 f5 f4 f3 f2 f1 f0
theorem q_29_6 {q0 : Nat} {n0 n1 n2 n3 n4 n5 n6 n7 n8 n9 n10 n11 n12 : Int} {H0 H1 H2 : gH} (f0 : n0 ≤ 2147483647) (f1 : (-2147483648) ≤ n0) (f2 : n1 ≤ 2147483646) (f3 : (-2147483648) ≤ n1) (f4 : (hLe T0 H0 H1 ∧ hFr s_29.2.2.2.2 H0 H1 ∧ hWt T0 H1) ∧ (True ∧ True) ∧ some q0 = some (mub_29_34 n2 n3 n4 n5 n6 n7 n8 n9 n10 n1 n0 H0 H1)) (f5 : 0 ≤ n0) (f6 : n11 ≤ 2147483647) (f7 : (-2147483648) ≤ n11) (f8 : n11 = n1) (f9 : n12 = w32 (n0 + (-1))) : True ∧ ∀ q, some q0 = some q → mub_29_34 n2 n3 n4 n5 n6 n7 n8 n9 n10 n1 n12 H0 H2 < q := by
  have g5 := Option.some.inj f4.2.2
  unfold mub_29_34 at g5
  unfold mub_29_34
  unfold w32 at f9
  refine ⟨?_, fun q hq => ?_⟩
  · trivial
  · have g6 := Option.some.inj hq
    subst g6
    omega
theorem c_29_34_2 {q0 : Nat} : vOkm T0 (eP e_29 L_29 A_29 mu_29 (some q0)) 4 ([(10, [14, 10], [], -1), (40, [12, 9], [], 0), (90, [12], [], -2147483648), (91, [12], [], 2147483647), (33, [10], [], 0), (5000, [0, 1, 2, 3, 4, 5, 6, 7, 8, 9, 10], [0, 1], 34), (90, [9], [], -2147483648), (91, [9], [], 2147483646), (90, [10], [], -2147483648), (91, [10], [], 2147483647)], (4000, [4, 5, 6, 7, 8, 9, 14], [4], 34)) := vOk_inI fun ρ η f0 f1 f2 f3 f4 f5 f6 f7 f8 f9 => q_29_6 (q0 := q0) (n0 := ρ 10) (n1 := ρ 9) (n2 := ρ 0) (n3 := ρ 1) (n4 := ρ 2) (n5 := ρ 3) (n6 := ρ 4) (n7 := ρ 5) (n8 := ρ 6) (n9 := ρ 7) (n10 := ρ 8) (n11 := ρ 12) (n12 := ρ 14) (H0 := η 0) (H1 := η 1) (H2 := η 4) f9 f8 f7 f6 f5 f4 f3 f2 f1 f0
def p_29_34 : List vG := [([(10, [11, 9], [], 1), (32, [10], [], 0), (5000, [0, 1, 2, 3, 4, 5, 6, 7, 8, 9, 10], [0, 1], 34), (90, [9], [], -2147483648), (91, [9], [], 2147483646), (90, [10], [], -2147483648), (91, [10], [], 2147483647)], (4000, [4, 5, 6, 7, 8, 11], [1], 19)),
  ([(10, [13, 10], [], -1), (41, [12, 9], [], 0), (90, [12], [], -2147483648), (91, [12], [], 2147483647), (33, [10], [], 0), (5000, [0, 1, 2, 3, 4, 5, 6, 7, 8, 9, 10], [0, 1], 34), (90, [9], [], -2147483648), (91, [9], [], 2147483646), (90, [10], [], -2147483648), (91, [10], [], 2147483647)], (4000, [4, 5, 6, 7, 8, 9, 13], [3], 34)),
  ([(10, [14, 10], [], -1), (40, [12, 9], [], 0), (90, [12], [], -2147483648), (91, [12], [], 2147483647), (33, [10], [], 0), (5000, [0, 1, 2, 3, 4, 5, 6, 7, 8, 9, 10], [0, 1], 34), (90, [9], [], -2147483648), (91, [9], [], 2147483646), (90, [10], [], -2147483648), (91, [10], [], 2147483647)], (4000, [4, 5, 6, 7, 8, 9, 14], [4], 34))]
theorem r_29_34 : vCovO true (eRc e_29 L_29 cs_29 2000 (34, [(0, (3, 2, 274, 0)), (1, (3, 6, -1, 0)), (2, (0, -2147483648, 2147483647, 0)), (3, (0, -2147483648, 2147483647, 0)), (4, (0, -2147483648, 8, 0)), (5, (0, -2147483648, 2147483646, 0)), (6, (0, -2147483648, 2147483647, 0))])) p_29_34 = true := by decide +kernel
theorem m_29 (d : Nat) : eC e_29 (d + 7) := eC_ok (e := e_29) (L := L_29) (cs := cs_29) (n := 2000) (d := d + 6) (A := A_29) (μ := mu_29) (tp := true) (p0 := p_29_s) rfl ⟨m_30 (d + 5), ⟨m_31 d, ⟨m_32 (d + 4), ⟨m_35 (d + 1), ⟨m_315 (d + 5), ⟨m_319 (d + 5), trivial⟩⟩⟩⟩⟩⟩ rfl (.inr pre0_ok) (by decide +kernel) (fun _ => post0_ok) r_29_s (allC c_29_s_0 (allC c_29_s_1 allN)) (allC (.inl ⟨p_29_19, r_29_19, fun q0 => (allC c_29_19_0 (allC c_29_19_1 allN))⟩) (allC (.inl ⟨p_29_34, r_29_34, fun q0 => (allC c_29_34_0 (allC c_29_34_1 (allC c_29_34_2 allN)))⟩) allN))
/- Mixer.loudOfSound (II)I -/
noncomputable def s_33 : vM := ([(3, 2, 274, 0), (0, -2147483648, 2147483647, 0), (0, -2147483648, 2147483647, 0)], (0, -2147483648, 2147483647, 0), 0, 0, [(2, 8), (10, 0), (10, 1), (10, 2), (748, 0)])
noncomputable def e_33 : vE := (33, s_33, pre0, post0)
noncomputable def L_33 : List vE := [e_34, e_152, e_153, e_201k748, e_319]
def cs_33 : List vC := [(31, [(0, (3, 2, 274, 0)), (1, (0, -2147483648, 2147483647, 0)), (2, (0, -2147483648, 2147483647, 0)), (3, (0, -2147483648, 2147483647, 0))])]
def mub_33_31 (a0 a1 a2 x0 x1 x2 x3 : Int) (h0 h : gH) : Nat := (2147483648 - x3).toNat
def A_33 : Int → List Int → gH → gH → Prop := fun c xs h0 h => True
def mu_33 : Int → List Int → gH → gH → Nat := fun c xs h0 h => match c.toNat with
  | 31 => (match xs with
    | [a0, a1, a2, x0, x1, x2, x3] => mub_33_31 a0 a1 a2 x0 x1 x2 x3 h0 h
    | _ => 0)
  | _ => 0
theorem q_33_0 {n0 n1 n2 n3 : Int} {H0 H1 : gH}  : True ∧ ∀ q, none = some q → mub_33_31 n0 n1 n2 n0 n1 n2 n3 H0 H1 < q := by
  exact ⟨trivial, fun q hq => nomatch hq⟩
theorem c_33_s_0 : vOkm T0 (eP e_33 L_33 A_33 mu_33 none) 3 ([], (4000, [0, 1, 2, 10], [3], 31)) := vOk_inI fun ρ η => q_33_0 (n0 := ρ 0) (n1 := ρ 1) (n2 := ρ 2) (n3 := ρ 10) (H0 := η 0) (H1 := η 3)
def p_33_s : List vG := [([], (4000, [0, 1, 2, 10], [3], 31))]
theorem r_33_s : vCovO true (eR0 e_33 L_33 cs_33 2000) p_33_s = true := by decide +kernel
theorem q_33_1 {q0 : Nat} {n0 n1 n2 n3 n4 n5 n6 n7 n8 : Int} {H0 H1 H2 : gH} (f0 : n0 ≤ 2147483647) (f1 : (-2147483648) ≤ n0) (f2 : (hLe T0 H0 H1 ∧ hFr s_33.2.2.2.2 H0 H1 ∧ hWt T0 H1) ∧ (True ∧ True) ∧ some q0 = some (mub_33_31 n1 n2 n3 n4 n5 n6 n0 H0 H1)) (f3 : n7 ≤ 2147483647) (f4 : (-2147483648) ≤ n7) (f5 : n0 < n7) (f6 : n8 = w32 (n0 + 1)) : True ∧ ∀ q, some q0 = some q → mub_33_31 n1 n2 n3 n4 n5 n6 n8 H0 H2 < q := by
  have g5 := Option.some.inj f2.2.2
  unfold mub_33_31 at g5
  unfold mub_33_31
  unfold w32 at f6
  refine ⟨?_, fun q hq => ?_⟩
  · trivial
  · have g6 := Option.some.inj hq
    subst g6
    omega
theorem c_33_31_0 {q0 : Nat} : vOkm T0 (eP e_33 L_33 A_33 mu_33 (some q0)) 3 ([(10, [11, 6], [], 1), (42, [6, 7], [], 0), (90, [7], [], -2147483648), (91, [7], [], 2147483647), (5000, [0, 1, 2, 3, 4, 5, 6], [0, 1], 31), (90, [6], [], -2147483648), (91, [6], [], 2147483647)], (4000, [3, 4, 5, 11], [3], 31)) := vOk_inI fun ρ η f0 f1 f2 f3 f4 f5 f6 => q_33_1 (q0 := q0) (n0 := ρ 6) (n1 := ρ 0) (n2 := ρ 1) (n3 := ρ 2) (n4 := ρ 3) (n5 := ρ 4) (n6 := ρ 5) (n7 := ρ 7) (n8 := ρ 11) (H0 := η 0) (H1 := η 1) (H2 := η 3) f6 f5 f4 f3 f2 f1 f0
def p_33_31 : List vG := [([(10, [11, 6], [], 1), (42, [6, 7], [], 0), (90, [7], [], -2147483648), (91, [7], [], 2147483647), (5000, [0, 1, 2, 3, 4, 5, 6], [0, 1], 31), (90, [6], [], -2147483648), (91, [6], [], 2147483647)], (4000, [3, 4, 5, 11], [3], 31))]
theorem r_33_31 : vCovO true (eRc e_33 L_33 cs_33 2000 (31, [(0, (3, 2, 274, 0)), (1, (0, -2147483648, 2147483647, 0)), (2, (0, -2147483648, 2147483647, 0)), (3, (0, -2147483648, 2147483647, 0))])) p_33_31 = true := by decide +kernel
theorem m_33 (d : Nat) : eC e_33 (d + 4) := eC_ok (e := e_33) (L := L_33) (cs := cs_33) (n := 2000) (d := d + 3) (A := A_33) (μ := mu_33) (tp := true) (p0 := p_33_s) rfl ⟨m_34 (d + 1), ⟨m_152 d, ⟨m_153 (d + 1), ⟨m_201k748 (d + 2), ⟨m_319 (d + 2), trivial⟩⟩⟩⟩⟩ rfl (.inr pre0_ok) (by decide +kernel) (fun _ => post0_ok) r_33_s (allC c_33_s_0 allN) (allC (.inl ⟨p_33_31, r_33_31, fun q0 => (allC c_33_31_0 allN)⟩) allN)
/- Mixer.isHeard (II)Z -/
noncomputable def s_40 : vM := ([(3, 2, 274, 0), (0, -2147483648, 2147483647, 0), (0, -2147483648, 2147483647, 0)], (0, 0, 1, 0), 0, 0, [])
noncomputable def e_40 : vE := (40, s_40, pre0, post0)
noncomputable def L_40 : List vE := [e_39]
def cs_40 : List vC := []
def A_40 : Int → List Int → gH → gH → Prop := fun c xs h0 h => True
def mu_40 : Int → List Int → gH → gH → Nat := fun c xs h0 h => 0
def p_40_s : List vG := []
theorem r_40_s : vCovO true (eR0 e_40 L_40 cs_40 2000) p_40_s = true := by decide +kernel
theorem m_40 (d : Nat) : eC e_40 (d + 3) := eC_ok (e := e_40) (L := L_40) (cs := cs_40) (n := 2000) (d := d + 2) (A := A_40) (μ := mu_40) (tp := true) (p0 := p_40_s) rfl ⟨m_39 d, trivial⟩ rfl (.inr pre0_ok) (by decide +kernel) (fun _ => post0_ok) r_40_s allN allN
/- Picture.has (I)Z -/
noncomputable def s_51 : vM := ([(3, 3, 19, 0), (0, -2147483648, 2147483647, 0)], (0, 0, 1, 0), 0, 0, [])
noncomputable def e_51 : vE := (51, s_51, pre0, post0)
noncomputable def L_51 : List vE := []
def cs_51 : List vC := []
def A_51 : Int → List Int → gH → gH → Prop := fun c xs h0 h => True
def mu_51 : Int → List Int → gH → gH → Nat := fun c xs h0 h => 0
def p_51_s : List vG := []
theorem r_51_s : vCovO true (eR0 e_51 L_51 cs_51 2000) p_51_s = true := by decide +kernel
theorem m_51 (d : Nat) : eC e_51 (d + 1) := eC_ok (e := e_51) (L := L_51) (cs := cs_51) (n := 2000) (d := d + 0) (A := A_51) (μ := mu_51) (tp := true) (p0 := p_51_s) rfl trivial rfl (.inr pre0_ok) (by decide +kernel) (fun _ => post0_ok) r_51_s allN allN
/- Picture.last ()I -/
noncomputable def s_52 : vM := ([(3, 3, 19, 0)], (0, -2147483648, 2147483647, 0), 0, 0, [])
noncomputable def e_52 : vE := (52, s_52, pre0, post0)
noncomputable def L_52 : List vE := []
def cs_52 : List vC := []
def A_52 : Int → List Int → gH → gH → Prop := fun c xs h0 h => True
def mu_52 : Int → List Int → gH → gH → Nat := fun c xs h0 h => 0
def p_52_s : List vG := []
theorem r_52_s : vCovO true (eR0 e_52 L_52 cs_52 2000) p_52_s = true := by decide +kernel
theorem m_52 (d : Nat) : eC e_52 (d + 1) := eC_ok (e := e_52) (L := L_52) (cs := cs_52) (n := 2000) (d := d + 0) (A := A_52) (μ := mu_52) (tp := true) (p0 := p_52_s) rfl trivial rfl (.inr pre0_ok) (by decide +kernel) (fun _ => post0_ok) r_52_s allN allN
/- Picture.resize (I)Z -/
noncomputable def s_54 : vM := ([(3, 3, 19, 0), (0, -2147483648, 2147483647, 0)], (0, 0, 1, 0), 0, 0, [(700, 0)])
noncomputable def e_54 : vE := (54, s_54, pre0, post0)
noncomputable def L_54 : List vE := [e_201k700]
def cs_54 : List vC := []
def A_54 : Int → List Int → gH → gH → Prop := fun c xs h0 h => True
def mu_54 : Int → List Int → gH → gH → Nat := fun c xs h0 h => 0
def p_54_s : List vG := []
theorem r_54_s : vCovO true (eR0 e_54 L_54 cs_54 2000) p_54_s = true := by decide +kernel
theorem m_54 (d : Nat) : eC e_54 (d + 2) := eC_ok (e := e_54) (L := L_54) (cs := cs_54) (n := 2000) (d := d + 1) (A := A_54) (μ := mu_54) (tp := true) (p0 := p_54_s) rfl ⟨m_201k700 d, trivial⟩ rfl (.inr pre0_ok) (by decide +kernel) (fun _ => post0_ok) r_54_s allN allN
/- Picture.begin ()I -/
noncomputable def s_55 : vM := ([(3, 3, 19, 0)], (0, -2147483648, 2147483647, 0), 0, 0, [(3, 3)])
noncomputable def e_55 : vE := (55, s_55, pre0, post0)
noncomputable def L_55 : List vE := [e_52, e_53]
def cs_55 : List vC := []
def A_55 : Int → List Int → gH → gH → Prop := fun c xs h0 h => True
def mu_55 : Int → List Int → gH → gH → Nat := fun c xs h0 h => 0
def p_55_s : List vG := []
theorem r_55_s : vCovO true (eR0 e_55 L_55 cs_55 2000) p_55_s = true := by decide +kernel
theorem m_55 (d : Nat) : eC e_55 (d + 3) := eC_ok (e := e_55) (L := L_55) (cs := cs_55) (n := 2000) (d := d + 2) (A := A_55) (μ := mu_55) (tp := true) (p0 := p_55_s) rfl ⟨m_52 (d + 1), ⟨m_53 d, trivial⟩⟩ rfl (.inr pre0_ok) (by decide +kernel) (fun _ => post0_ok) r_55_s allN allN
/- Picture.tellLast ()V -/
noncomputable def s_56 : vM := ([(3, 3, 19, 0)], (9, 0, 0, 0), 0, 0, [(3, 4)])
noncomputable def e_56 : vE := (56, s_56, pre0, post0)
noncomputable def L_56 : List vE := [e_52]
def cs_56 : List vC := []
def A_56 : Int → List Int → gH → gH → Prop := fun c xs h0 h => True
def mu_56 : Int → List Int → gH → gH → Nat := fun c xs h0 h => 0
def p_56_s : List vG := []
theorem r_56_s : vCovO true (eR0 e_56 L_56 cs_56 2000) p_56_s = true := by decide +kernel
theorem m_56 (d : Nat) : eC e_56 (d + 2) := eC_ok (e := e_56) (L := L_56) (cs := cs_56) (n := 2000) (d := d + 1) (A := A_56) (μ := mu_56) (tp := true) (p0 := p_56_s) rfl ⟨m_52 d, trivial⟩ rfl (.inr pre0_ok) (by decide +kernel) (fun _ => post0_ok) r_56_s allN allN
/- Picture.extend (II)I -/
noncomputable def s_57 : vM := ([(3, 3, 19, 0), (0, -2147483648, 2147483647, 0), (0, -2147483648, 2147483647, 0)], (0, -2147483648, 2147483647, 0), 0, 0, [(700, 0)])
noncomputable def e_57 : vE := (57, s_57, pre0, post0)
noncomputable def L_57 : List vE := [e_52, e_53, e_199k700, e_201k700]
def cs_57 : List vC := [(56, [(0, (3, 3, 19, 0)), (1, (0, -2147483648, 2147483647, 0)), (2, (0, -2147483648, 2147483647, 0)), (3, (0, -2147483648, 2147483647, 0)), (4, (0, -2147483648, 2147483647, 0)), (5, (0, -2147483648, 2147483647, 0))])]
def mub_57_56 (a0 a1 a2 x0 x1 x2 x3 x4 x5 : Int) (h0 h : gH) : Nat := (2147483648 - x5).toNat
def A_57 : Int → List Int → gH → gH → Prop := fun c xs h0 h => True
def mu_57 : Int → List Int → gH → gH → Nat := fun c xs h0 h => match c.toNat with
  | 56 => (match xs with
    | [a0, a1, a2, x0, x1, x2, x3, x4, x5] => mub_57_56 a0 a1 a2 x0 x1 x2 x3 x4 x5 h0 h
    | _ => 0)
  | _ => 0
theorem q_57_0 {n0 n1 n2 n3 n4 n5 : Int} {H0 H1 : gH}  : True ∧ ∀ q, none = some q → mub_57_56 n0 n1 n2 n0 n1 n2 n3 n4 n5 H0 H1 < q := by
  exact ⟨trivial, fun q hq => nomatch hq⟩
theorem c_57_s_0 : vOkm T0 (eP e_57 L_57 A_57 mu_57 none) 3 ([], (4000, [0, 1, 2, 3, 4, 12], [3], 56)) := vOk_inI fun ρ η => q_57_0 (n0 := ρ 0) (n1 := ρ 1) (n2 := ρ 2) (n3 := ρ 3) (n4 := ρ 4) (n5 := ρ 12) (H0 := η 0) (H1 := η 3)
def p_57_s : List vG := [([], (4000, [0, 1, 2, 3, 4, 12], [3], 56))]
theorem r_57_s : vCovO true (eR0 e_57 L_57 cs_57 2000) p_57_s = true := by decide +kernel
theorem q_57_1 {q0 : Nat} {n0 n1 n2 n3 n4 n5 n6 n7 n8 n9 : Int} {H0 H1 H2 : gH} (f0 : n0 ≤ 2147483647) (f1 : (-2147483648) ≤ n0) (f2 : n1 ≤ 2147483647) (f3 : (-2147483648) ≤ n1) (f4 : (hLe T0 H0 H1 ∧ hFr s_57.2.2.2.2 H0 H1 ∧ hWt T0 H1) ∧ (True ∧ True) ∧ some q0 = some (mub_57_56 n2 n3 n4 n5 n6 n1 n7 n8 n0 H0 H1)) (f5 : n0 < n1) (f6 : n9 = w32 (n0 + 1)) : True ∧ ∀ q, some q0 = some q → mub_57_56 n2 n3 n4 n5 n6 n1 n7 n8 n9 H0 H2 < q := by
  have g5 := Option.some.inj f4.2.2
  unfold mub_57_56 at g5
  unfold mub_57_56
  unfold w32 at f6
  refine ⟨?_, fun q hq => ?_⟩
  · trivial
  · have g6 := Option.some.inj hq
    subst g6
    omega
theorem c_57_56_0 {q0 : Nat} : vOkm T0 (eP e_57 L_57 A_57 mu_57 (some q0)) 3 ([(10, [16, 8], [], 1), (42, [8, 5], [], 0), (5000, [0, 1, 2, 3, 4, 5, 6, 7, 8], [0, 1], 56), (90, [5], [], -2147483648), (91, [5], [], 2147483647), (90, [8], [], -2147483648), (91, [8], [], 2147483647)], (4000, [3, 4, 5, 6, 7, 16], [2], 56)) := vOk_inI fun ρ η f0 f1 f2 f3 f4 f5 f6 => q_57_1 (q0 := q0) (n0 := ρ 8) (n1 := ρ 5) (n2 := ρ 0) (n3 := ρ 1) (n4 := ρ 2) (n5 := ρ 3) (n6 := ρ 4) (n7 := ρ 6) (n8 := ρ 7) (n9 := ρ 16) (H0 := η 0) (H1 := η 1) (H2 := η 2) f6 f5 f4 f3 f2 f1 f0
theorem c_57_56_1 {q0 : Nat} : vOkm T0 (eP e_57 L_57 A_57 mu_57 (some q0)) 3 ([(10, [16, 8], [], 1), (42, [8, 5], [], 0), (5000, [0, 1, 2, 3, 4, 5, 6, 7, 8], [0, 1], 56), (90, [5], [], -2147483648), (91, [5], [], 2147483647), (90, [8], [], -2147483648), (91, [8], [], 2147483647)], (4000, [3, 4, 5, 6, 7, 16], [2], 56)) := vOk_inI fun ρ η f0 f1 f2 f3 f4 f5 f6 => q_57_1 (q0 := q0) (n0 := ρ 8) (n1 := ρ 5) (n2 := ρ 0) (n3 := ρ 1) (n4 := ρ 2) (n5 := ρ 3) (n6 := ρ 4) (n7 := ρ 6) (n8 := ρ 7) (n9 := ρ 16) (H0 := η 0) (H1 := η 1) (H2 := η 2) f6 f5 f4 f3 f2 f1 f0
def p_57_56 : List vG := [([(10, [16, 8], [], 1), (42, [8, 5], [], 0), (5000, [0, 1, 2, 3, 4, 5, 6, 7, 8], [0, 1], 56), (90, [5], [], -2147483648), (91, [5], [], 2147483647), (90, [8], [], -2147483648), (91, [8], [], 2147483647)], (4000, [3, 4, 5, 6, 7, 16], [2], 56)),
  ([(10, [16, 8], [], 1), (42, [8, 5], [], 0), (5000, [0, 1, 2, 3, 4, 5, 6, 7, 8], [0, 1], 56), (90, [5], [], -2147483648), (91, [5], [], 2147483647), (90, [8], [], -2147483648), (91, [8], [], 2147483647)], (4000, [3, 4, 5, 6, 7, 16], [2], 56))]
theorem r_57_56 : vCovO true (eRc e_57 L_57 cs_57 2000 (56, [(0, (3, 3, 19, 0)), (1, (0, -2147483648, 2147483647, 0)), (2, (0, -2147483648, 2147483647, 0)), (3, (0, -2147483648, 2147483647, 0)), (4, (0, -2147483648, 2147483647, 0)), (5, (0, -2147483648, 2147483647, 0))])) p_57_56 = true := by decide +kernel
theorem m_57 (d : Nat) : eC e_57 (d + 3) := eC_ok (e := e_57) (L := L_57) (cs := cs_57) (n := 2000) (d := d + 2) (A := A_57) (μ := mu_57) (tp := true) (p0 := p_57_s) rfl ⟨m_52 (d + 1), ⟨m_53 d, ⟨m_199k700 (d + 1), ⟨m_201k700 (d + 1), trivial⟩⟩⟩⟩ rfl (.inr pre0_ok) (by decide +kernel) (fun _ => post0_ok) r_57_s (allC c_57_s_0 allN) (allC (.inl ⟨p_57_56, r_57_56, fun q0 => (allC c_57_56_0 (allC c_57_56_1 allN))⟩) allN)
/- Tokens.withLetter (JI)J -/
noncomputable def s_121 : vM := ([(1, 0, 0, 0), (0, -2147483648, 2147483647, 0)], (1, 0, 0, 0), 0, 0, [])
noncomputable def e_121 : vE := (121, s_121, pre0, post0)
noncomputable def L_121 : List vE := []
def cs_121 : List vC := []
def A_121 : Int → List Int → gH → gH → Prop := fun c xs h0 h => True
def mu_121 : Int → List Int → gH → gH → Nat := fun c xs h0 h => 0
def p_121_s : List vG := []
theorem r_121_s : vCovO true (eR0 e_121 L_121 cs_121 2000) p_121_s = true := by decide +kernel
theorem m_121 (d : Nat) : eC e_121 (d + 1) := eC_ok (e := e_121) (L := L_121) (cs := cs_121) (n := 2000) (d := d + 0) (A := A_121) (μ := mu_121) (tp := true) (p0 := p_121_s) rfl trivial rfl (.inr pre0_ok) (by decide +kernel) (fun _ => post0_ok) r_121_s allN allN
/- Tokens.wordKind (J)I -/
noncomputable def s_129 : vM := ([(3, 8, 31, 0), (1, 0, 0, 0)], (0, -2147483648, 2147483647, 0), 0, 0, [])
noncomputable def e_129 : vE := (129, s_129, pre0, post0)
noncomputable def L_129 : List vE := [e_200k725]
def cs_129 : List vC := [(2, [(0, (3, 8, 31, 0)), (1, (1, 0, 0, 0)), (3, (0, -2147483648, 2147483647, 0))])]
def mub_129_2 (a0 a1 x0 x1 x3 : Int) (h0 h : gH) : Nat := (2147483648 - x3).toNat
def A_129 : Int → List Int → gH → gH → Prop := fun c xs h0 h => True
def mu_129 : Int → List Int → gH → gH → Nat := fun c xs h0 h => match c.toNat with
  | 2 => (match xs with
    | [a0, a1, x0, x1, x3] => mub_129_2 a0 a1 x0 x1 x3 h0 h
    | _ => 0)
  | _ => 0
theorem q_129_0 {n0 n1 n2 : Int} {H0 : gH}  : True ∧ ∀ q, none = some q → mub_129_2 n0 n1 n0 n1 n2 H0 H0 < q := by
  exact ⟨trivial, fun q hq => nomatch hq⟩
theorem c_129_s_0 : vOkm T0 (eP e_129 L_129 A_129 mu_129 none) 2 ([], (4000, [0, 1, 2], [0], 2)) := vOk_inI fun ρ η => q_129_0 (n0 := ρ 0) (n1 := ρ 1) (n2 := ρ 2) (H0 := η 0)
def p_129_s : List vG := [([], (4000, [0, 1, 2], [0], 2))]
theorem r_129_s : vCovO true (eR0 e_129 L_129 cs_129 2000) p_129_s = true := by decide +kernel
theorem q_129_1 {q0 : Nat} {n0 n1 n2 n3 n4 n5 n6 : Int} {H0 H1 H2 : gH} (f0 : n0 ≤ 2147483647) (f1 : (-2147483648) ≤ n0) (f2 : (hLe T0 H0 H1 ∧ hFr s_129.2.2.2.2 H0 H1 ∧ hWt T0 H1) ∧ (True ∧ True) ∧ some q0 = some (mub_129_2 n1 n2 n3 n4 n0 H0 H1)) (f3 : n5 = 34) (f4 : n0 < n5) (f5 : n6 = w32 (n0 + 1)) : True ∧ ∀ q, some q0 = some q → mub_129_2 n1 n2 n3 n4 n6 H0 H2 < q := by
  have g5 := Option.some.inj f2.2.2
  unfold mub_129_2 at g5
  unfold mub_129_2
  unfold w32 at f5
  refine ⟨?_, fun q hq => ?_⟩
  · trivial
  · have g6 := Option.some.inj hq
    subst g6
    omega
theorem c_129_2_0 {q0 : Nat} : vOkm T0 (eP e_129 L_129 A_129 mu_129 (some q0)) 2 ([(10, [9, 4], [], 1), (42, [4, 5], [], 0), (0, [5], [], 34), (5000, [0, 1, 2, 3, 4], [0, 1], 2), (90, [4], [], -2147483648), (91, [4], [], 2147483647)], (4000, [2, 3, 9], [2], 2)) := vOk_inI fun ρ η f0 f1 f2 f3 f4 f5 => q_129_1 (q0 := q0) (n0 := ρ 4) (n1 := ρ 0) (n2 := ρ 1) (n3 := ρ 2) (n4 := ρ 3) (n5 := ρ 5) (n6 := ρ 9) (H0 := η 0) (H1 := η 1) (H2 := η 2) f5 f4 f3 f2 f1 f0
def p_129_2 : List vG := [([(10, [9, 4], [], 1), (42, [4, 5], [], 0), (0, [5], [], 34), (5000, [0, 1, 2, 3, 4], [0, 1], 2), (90, [4], [], -2147483648), (91, [4], [], 2147483647)], (4000, [2, 3, 9], [2], 2))]
theorem r_129_2 : vCovO true (eRc e_129 L_129 cs_129 2000 (2, [(0, (3, 8, 31, 0)), (1, (1, 0, 0, 0)), (3, (0, -2147483648, 2147483647, 0))])) p_129_2 = true := by decide +kernel
theorem m_129 (d : Nat) : eC e_129 (d + 2) := eC_ok (e := e_129) (L := L_129) (cs := cs_129) (n := 2000) (d := d + 1) (A := A_129) (μ := mu_129) (tp := true) (p0 := p_129_s) rfl ⟨m_200k725 d, trivial⟩ rfl (.inr pre0_ok) (by decide +kernel) (fun _ => post0_ok) r_129_s (allC c_129_s_0 allN) (allC (.inl ⟨p_129_2, r_129_2, fun q0 => (allC c_129_2_0 allN)⟩) allN)
/- Tokens.note (IIJ)V -/
noncomputable def s_126 : vM := ([(3, 8, 31, 0), (0, -2147483648, 2147483647, 0), (0, -2147483648, 2147483647, 0), (1, 0, 0, 0)], (9, 0, 0, 0), 0, 0, [(8, 4), (716, 0), (725, 0)])
noncomputable def e_126 : vE := (126, s_126, pre0, post0)
noncomputable def L_126 : List vE := [e_201k716, e_202k725]
def cs_126 : List vC := []
def A_126 : Int → List Int → gH → gH → Prop := fun c xs h0 h => True
def mu_126 : Int → List Int → gH → gH → Nat := fun c xs h0 h => 0
def p_126_s : List vG := []
theorem r_126_s : vCovO true (eR0 e_126 L_126 cs_126 2000) p_126_s = true := by decide +kernel
theorem m_126 (d : Nat) : eC e_126 (d + 2) := eC_ok (e := e_126) (L := L_126) (cs := cs_126) (n := 2000) (d := d + 1) (A := A_126) (μ := mu_126) (tp := true) (p0 := p_126_s) rfl ⟨m_201k716 d, ⟨m_202k725 d, trivial⟩⟩ rfl (.inr pre0_ok) (by decide +kernel) (fun _ => post0_ok) r_126_s allN allN
/- Tokens.scanName ([III)I -/
noncomputable def s_128 : vM := ([(3, 8, 31, 0), (2, 692, -1, 0), (0, -2147483648, 2147483647, 0), (0, -2147483648, 2147483647, 0)], (0, -2147483648, 2147483647, 0), 0, 0, [(8, 4), (716, 0), (725, 0)])
noncomputable def e_128 : vE := (128, s_128, pre0, post0)
noncomputable def L_128 : List vE := [e_121, e_126, e_129, e_199k692]
def cs_128 : List vC := [(6, [(0, (3, 8, 31, 0)), (1, (2, 692, -1, 0)), (2, (0, -2147483648, 2147483647, 0)), (3, (0, -2147483648, 2147483647, 0)), (4, (0, -2147483648, 2147483647, 0)), (5, (1, 0, 0, 0))])]
def mub_128_6 (a0 a1 a2 a3 x0 x1 x2 x3 x4 x5 : Int) (h0 h : gH) : Nat := (2147483648 - x4).toNat
def A_128 : Int → List Int → gH → gH → Prop := fun c xs h0 h => True
def mu_128 : Int → List Int → gH → gH → Nat := fun c xs h0 h => match c.toNat with
  | 6 => (match xs with
    | [a0, a1, a2, a3, x0, x1, x2, x3, x4, x5] => mub_128_6 a0 a1 a2 a3 x0 x1 x2 x3 x4 x5 h0 h
    | _ => 0)
  | _ => 0
theorem q_128_0 {n0 n1 n2 n3 n4 : Int} {H0 : gH}  : True ∧ ∀ q, none = some q → mub_128_6 n0 n1 n2 n3 n0 n1 n2 n3 n2 n4 H0 H0 < q := by
  exact ⟨trivial, fun q hq => nomatch hq⟩
theorem c_128_s_0 : vOkm T0 (eP e_128 L_128 A_128 mu_128 none) 4 ([], (4000, [0, 1, 2, 3, 2, 4], [0], 6)) := vOk_inI fun ρ η => q_128_0 (n0 := ρ 0) (n1 := ρ 1) (n2 := ρ 2) (n3 := ρ 3) (n4 := ρ 4) (H0 := η 0)
def p_128_s : List vG := [([], (4000, [0, 1, 2, 3, 2, 4], [0], 6))]
theorem r_128_s : vCovO true (eR0 e_128 L_128 cs_128 2000) p_128_s = true := by decide +kernel
theorem q_128_1 {q0 : Nat} {n0 n1 n2 n3 n4 n5 n6 n7 n8 n9 n10 n11 : Int} {H0 H1 H2 : gH} (f0 : n0 ≤ 2147483647) (f1 : (-2147483648) ≤ n0) (f2 : n1 ≤ 2147483647) (f3 : (-2147483648) ≤ n1) (f4 : (hLe T0 H0 H1 ∧ hFr s_128.2.2.2.2 H0 H1 ∧ hWt T0 H1) ∧ (True ∧ True) ∧ some q0 = some (mub_128_6 n2 n3 n4 n5 n6 n7 n8 n1 n0 n9 H0 H1)) (f5 : n0 < n1) (f6 : n10 = w32 (n0 + 1)) : True ∧ ∀ q, some q0 = some q → mub_128_6 n2 n3 n4 n5 n6 n7 n8 n1 n10 n11 H0 H2 < q := by
  have g5 := Option.some.inj f4.2.2
  unfold mub_128_6 at g5
  unfold mub_128_6
  unfold w32 at f6
  refine ⟨?_, fun q hq => ?_⟩
  · trivial
  · have g6 := Option.some.inj hq
    subst g6
    omega
theorem c_128_6_0 {q0 : Nat} : vOkm T0 (eP e_128 L_128 A_128 mu_128 (some q0)) 4 ([(10, [16, 8], [], 1), (42, [8, 7], [], 0), (5000, [0, 1, 2, 3, 4, 5, 6, 7, 8, 9], [0, 1], 6), (90, [7], [], -2147483648), (91, [7], [], 2147483647), (90, [8], [], -2147483648), (91, [8], [], 2147483647)], (4000, [4, 5, 6, 7, 16, 15], [5], 6)) := vOk_inI fun ρ η f0 f1 f2 f3 f4 f5 f6 => q_128_1 (q0 := q0) (n0 := ρ 8) (n1 := ρ 7) (n2 := ρ 0) (n3 := ρ 1) (n4 := ρ 2) (n5 := ρ 3) (n6 := ρ 4) (n7 := ρ 5) (n8 := ρ 6) (n9 := ρ 9) (n10 := ρ 16) (n11 := ρ 15) (H0 := η 0) (H1 := η 1) (H2 := η 5) f6 f5 f4 f3 f2 f1 f0
def p_128_6 : List vG := [([(10, [16, 8], [], 1), (42, [8, 7], [], 0), (5000, [0, 1, 2, 3, 4, 5, 6, 7, 8, 9], [0, 1], 6), (90, [7], [], -2147483648), (91, [7], [], 2147483647), (90, [8], [], -2147483648), (91, [8], [], 2147483647)], (4000, [4, 5, 6, 7, 16, 15], [5], 6))]
theorem r_128_6 : vCovO true (eRc e_128 L_128 cs_128 2000 (6, [(0, (3, 8, 31, 0)), (1, (2, 692, -1, 0)), (2, (0, -2147483648, 2147483647, 0)), (3, (0, -2147483648, 2147483647, 0)), (4, (0, -2147483648, 2147483647, 0)), (5, (1, 0, 0, 0))])) p_128_6 = true := by decide +kernel
theorem m_128 (d : Nat) : eC e_128 (d + 3) := eC_ok (e := e_128) (L := L_128) (cs := cs_128) (n := 2000) (d := d + 2) (A := A_128) (μ := mu_128) (tp := true) (p0 := p_128_s) rfl ⟨m_121 (d + 1), ⟨m_126 d, ⟨m_129 d, ⟨m_199k692 (d + 1), trivial⟩⟩⟩⟩ rfl (.inr pre0_ok) (by decide +kernel) (fun _ => post0_ok) r_128_s (allC c_128_s_0 allN) (allC (.inl ⟨p_128_6, r_128_6, fun q0 => (allC c_128_6_0 allN)⟩) allN)
/- Tokens.scanInt ([III)I -/
noncomputable def s_130 : vM := ([(3, 8, 31, 0), (2, 692, -1, 0), (0, -2147483648, 2147483647, 0), (0, -2147483648, 2147483647, 0)], (0, -2147483648, 2147483647, 0), 0, 0, [(8, 4), (716, 0), (725, 0)])
noncomputable def e_130 : vE := (130, s_130, pre0, post0)
noncomputable def L_130 : List vE := [e_126, e_199k692]
def cs_130 : List vC := [(6, [(0, (3, 8, 31, 0)), (1, (2, 692, -1, 0)), (2, (0, -2147483648, 2147483647, 0)), (3, (0, -2147483648, 2147483647, 0)), (4, (0, -2147483648, 2147483647, 0)), (5, (1, 0, 0, 0))])]
def mub_130_6 (a0 a1 a2 a3 x0 x1 x2 x3 x4 x5 : Int) (h0 h : gH) : Nat := (2147483648 - x4).toNat
def A_130 : Int → List Int → gH → gH → Prop := fun c xs h0 h => True
def mu_130 : Int → List Int → gH → gH → Nat := fun c xs h0 h => match c.toNat with
  | 6 => (match xs with
    | [a0, a1, a2, a3, x0, x1, x2, x3, x4, x5] => mub_130_6 a0 a1 a2 a3 x0 x1 x2 x3 x4 x5 h0 h
    | _ => 0)
  | _ => 0
theorem q_130_0 {n0 n1 n2 n3 n4 : Int} {H0 : gH}  : True ∧ ∀ q, none = some q → mub_130_6 n0 n1 n2 n3 n0 n1 n2 n3 n2 n4 H0 H0 < q := by
  exact ⟨trivial, fun q hq => nomatch hq⟩
theorem c_130_s_0 : vOkm T0 (eP e_130 L_130 A_130 mu_130 none) 4 ([], (4000, [0, 1, 2, 3, 2, 4], [0], 6)) := vOk_inI fun ρ η => q_130_0 (n0 := ρ 0) (n1 := ρ 1) (n2 := ρ 2) (n3 := ρ 3) (n4 := ρ 4) (H0 := η 0)
def p_130_s : List vG := [([], (4000, [0, 1, 2, 3, 2, 4], [0], 6))]
theorem r_130_s : vCovO true (eR0 e_130 L_130 cs_130 2000) p_130_s = true := by decide +kernel
theorem q_130_1 {q0 : Nat} {n0 n1 n2 n3 n4 n5 n6 n7 n8 n9 n10 n11 : Int} {H0 H1 H2 : gH} (f0 : n0 ≤ 2147483647) (f1 : (-2147483648) ≤ n0) (f2 : n1 ≤ 2147483647) (f3 : (-2147483648) ≤ n1) (f4 : (hLe T0 H0 H1 ∧ hFr s_130.2.2.2.2 H0 H1 ∧ hWt T0 H1) ∧ (True ∧ True) ∧ some q0 = some (mub_130_6 n2 n3 n4 n5 n6 n7 n8 n1 n0 n9 H0 H1)) (f5 : n0 < n1) (f6 : n10 = w32 (n0 + 1)) : True ∧ ∀ q, some q0 = some q → mub_130_6 n2 n3 n4 n5 n6 n7 n8 n1 n10 n11 H0 H2 < q := by
  have g5 := Option.some.inj f4.2.2
  unfold mub_130_6 at g5
  unfold mub_130_6
  unfold w32 at f6
  refine ⟨?_, fun q hq => ?_⟩
  · trivial
  · have g6 := Option.some.inj hq
    subst g6
    omega
theorem c_130_6_0 {q0 : Nat} : vOkm T0 (eP e_130 L_130 A_130 mu_130 (some q0)) 4 ([(10, [21, 8], [], 1), (42, [8, 7], [], 0), (5000, [0, 1, 2, 3, 4, 5, 6, 7, 8, 9], [0, 1], 6), (90, [7], [], -2147483648), (91, [7], [], 2147483647), (90, [8], [], -2147483648), (91, [8], [], 2147483647)], (4000, [4, 5, 6, 7, 21, 20], [4], 6)) := vOk_inI fun ρ η f0 f1 f2 f3 f4 f5 f6 => q_130_1 (q0 := q0) (n0 := ρ 8) (n1 := ρ 7) (n2 := ρ 0) (n3 := ρ 1) (n4 := ρ 2) (n5 := ρ 3) (n6 := ρ 4) (n7 := ρ 5) (n8 := ρ 6) (n9 := ρ 9) (n10 := ρ 21) (n11 := ρ 20) (H0 := η 0) (H1 := η 1) (H2 := η 4) f6 f5 f4 f3 f2 f1 f0
def p_130_6 : List vG := [([(10, [21, 8], [], 1), (42, [8, 7], [], 0), (5000, [0, 1, 2, 3, 4, 5, 6, 7, 8, 9], [0, 1], 6), (90, [7], [], -2147483648), (91, [7], [], 2147483647), (90, [8], [], -2147483648), (91, [8], [], 2147483647)], (4000, [4, 5, 6, 7, 21, 20], [4], 6))]
theorem r_130_6 : vCovO true (eRc e_130 L_130 cs_130 2000 (6, [(0, (3, 8, 31, 0)), (1, (2, 692, -1, 0)), (2, (0, -2147483648, 2147483647, 0)), (3, (0, -2147483648, 2147483647, 0)), (4, (0, -2147483648, 2147483647, 0)), (5, (1, 0, 0, 0))])) p_130_6 = true := by decide +kernel
theorem m_130 (d : Nat) : eC e_130 (d + 3) := eC_ok (e := e_130) (L := L_130) (cs := cs_130) (n := 2000) (d := d + 2) (A := A_130) (μ := mu_130) (tp := true) (p0 := p_130_s) rfl ⟨m_126 d, ⟨m_199k692 (d + 1), trivial⟩⟩ rfl (.inr pre0_ok) (by decide +kernel) (fun _ => post0_ok) r_130_s (allC c_130_s_0 allN) (allC (.inl ⟨p_130_6, r_130_6, fun q0 => (allC c_130_6_0 allN)⟩) allN)
/- Tokens.pairKind (I)I -/
noncomputable def s_131 : vM := ([(0, -2147483648, 2147483647, 0)], (0, -2147483648, 2147483647, 0), 0, 0, [])
noncomputable def e_131 : vE := (131, s_131, pre0, post0)
noncomputable def L_131 : List vE := []
def cs_131 : List vC := []
def A_131 : Int → List Int → gH → gH → Prop := fun c xs h0 h => True
def mu_131 : Int → List Int → gH → gH → Nat := fun c xs h0 h => 0
def p_131_s : List vG := []
theorem r_131_s : vCovO true (eR0 e_131 L_131 cs_131 2000) p_131_s = true := by decide +kernel
theorem m_131 (d : Nat) : eC e_131 (d + 1) := eC_ok (e := e_131) (L := L_131) (cs := cs_131) (n := 2000) (d := d + 0) (A := A_131) (μ := mu_131) (tp := true) (p0 := p_131_s) rfl trivial rfl (.inr pre0_ok) (by decide +kernel) (fun _ => post0_ok) r_131_s allN allN
/- Tokens.signKind (I)I -/
noncomputable def s_132 : vM := ([(0, -2147483648, 2147483647, 0)], (0, -2147483648, 2147483647, 0), 0, 0, [])
noncomputable def e_132 : vE := (132, s_132, pre0, post0)
noncomputable def L_132 : List vE := []
def cs_132 : List vC := []
def A_132 : Int → List Int → gH → gH → Prop := fun c xs h0 h => True
def mu_132 : Int → List Int → gH → gH → Nat := fun c xs h0 h => 0
def p_132_s : List vG := []
theorem r_132_s : vCovO true (eR0 e_132 L_132 cs_132 2000) p_132_s = true := by decide +kernel
theorem m_132 (d : Nat) : eC e_132 (d + 1) := eC_ok (e := e_132) (L := L_132) (cs := cs_132) (n := 2000) (d := d + 0) (A := A_132) (μ := mu_132) (tp := true) (p0 := p_132_s) rfl trivial rfl (.inr pre0_ok) (by decide +kernel) (fun _ => post0_ok) r_132_s allN allN
/- Tokens.scanOne ([III)I -/
noncomputable def s_127 : vM := ([(3, 8, 31, 0), (2, 692, -1, 0), (0, -2147483648, 2147483647, 0), (0, -2147483648, 2147483647, 0)], (0, -2147483648, 2147483647, 0), 0, 0, [(8, 4), (716, 0), (725, 0)])
noncomputable def e_127 : vE := (127, s_127, pre0, post0)
noncomputable def L_127 : List vE := [e_126, e_128, e_130, e_131, e_132, e_199k692]
def cs_127 : List vC := []
def A_127 : Int → List Int → gH → gH → Prop := fun c xs h0 h => True
def mu_127 : Int → List Int → gH → gH → Nat := fun c xs h0 h => 0
def p_127_s : List vG := []
theorem r_127_s : vCovO true (eR0 e_127 L_127 cs_127 2000) p_127_s = true := by decide +kernel
theorem m_127 (d : Nat) : eC e_127 (d + 4) := eC_ok (e := e_127) (L := L_127) (cs := cs_127) (n := 2000) (d := d + 3) (A := A_127) (μ := mu_127) (tp := true) (p0 := p_127_s) rfl ⟨m_126 (d + 1), ⟨m_128 d, ⟨m_130 d, ⟨m_131 (d + 2), ⟨m_132 (d + 2), ⟨m_199k692 (d + 2), trivial⟩⟩⟩⟩⟩⟩ rfl (.inr pre0_ok) (by decide +kernel) (fun _ => post0_ok) r_127_s allN allN
/- Tokens.scan ([II)V -/
noncomputable def s_125 : vM := ([(3, 8, 31, 0), (2, 692, -1, 0), (0, -2147483648, 2147483647, 0)], (9, 0, 0, 0), 0, 0, [(8, 4), (716, 0), (725, 0)])
noncomputable def e_125 : vE := (125, s_125, pre0, post0)
noncomputable def L_125 : List vE := [e_126, e_127, e_317]
def cs_125 : List vC := [(7, [(0, (3, 8, 31, 0)), (1, (2, 692, -1, 0)), (2, (0, -2147483648, 2147483647, 0)), (3, (0, -2147483648, 2147483647, 0))])]
def mub_125_7 (a0 a1 a2 x0 x1 x2 x3 : Int) (h0 h : gH) : Nat := (2147483648 - x3).toNat
def A_125 : Int → List Int → gH → gH → Prop := fun c xs h0 h => True
def mu_125 : Int → List Int → gH → gH → Nat := fun c xs h0 h => match c.toNat with
  | 7 => (match xs with
    | [a0, a1, a2, x0, x1, x2, x3] => mub_125_7 a0 a1 a2 x0 x1 x2 x3 h0 h
    | _ => 0)
  | _ => 0
theorem q_125_0 {n0 n1 n2 n3 : Int} {H0 H1 : gH}  : True ∧ ∀ q, none = some q → mub_125_7 n0 n1 n2 n0 n1 n2 n3 H0 H1 < q := by
  exact ⟨trivial, fun q hq => nomatch hq⟩
theorem c_125_s_0 : vOkm T0 (eP e_125 L_125 A_125 mu_125 none) 3 ([], (4000, [0, 1, 2, 5], [1], 7)) := vOk_inI fun ρ η => q_125_0 (n0 := ρ 0) (n1 := ρ 1) (n2 := ρ 2) (n3 := ρ 5) (H0 := η 0) (H1 := η 1)
def p_125_s : List vG := [([], (4000, [0, 1, 2, 5], [1], 7))]
theorem r_125_s : vCovO true (eR0 e_125 L_125 cs_125 2000) p_125_s = true := by decide +kernel
theorem q_125_1 {q0 : Nat} {n0 n1 n2 n3 n4 n5 n6 n7 n8 n9 n10 : Int} {H0 H1 H2 H3 : gH} (f0 : n0 ≤ 2147483647) (f1 : (-2147483648) ≤ n0) (f2 : n1 ≤ 2147483647) (f3 : (-2147483648) ≤ n1) (f4 : n2 = 31) (f5 : (hLe T0 H0 H1 ∧ hFr s_125.2.2.2.2 H0 H1 ∧ hWt T0 H1) ∧ (True ∧ True) ∧ some q0 = some (mub_125_7 n3 n4 n5 n2 n6 n1 n0 H0 H1)) (f6 : n0 < n1) (f7 : n7 = 1) (f8 : n8 = w32 (n0 + n7)) (f9 : n9 ≤ 2147483647) (f10 : (-2147483648) ≤ n9) (f11 : n10 ≤ 2147483647) (f12 : (-2147483648) ≤ n10) (f13 : (hLe T0 H2 H3 ∧ hFr s_317.2.2.2.2 H2 H3 ∧ ((0 : Int) = 0 → H3.length = H2.length) ∧ hWt T0 H3) ∧ postb_317 n10 n8 n9 H2 H3) : True ∧ ∀ q, some q0 = some q → mub_125_7 n3 n4 n5 n2 n6 n1 n10 H0 H3 < q := by
  have g5 := Option.some.inj f5.2.2
  unfold mub_125_7 at g5
  unfold postb_317 at f13
  unfold mub_125_7
  unfold w32 at f8
  refine ⟨?_, fun q hq => ?_⟩
  · trivial
  · have g6 := Option.some.inj hq
    subst g6
    omega
theorem c_125_7_0 {q0 : Nat} : vOkm T0 (eP e_125 L_125 A_125 mu_125 (some q0)) 3 ([(1317, [12, 10, 11], [2, 3], 0), (90, [12], [], -2147483648), (91, [12], [], 2147483647), (90, [11], [], -2147483648), (91, [11], [], 2147483647), (1, [10, 6, 9], [], 0), (0, [9], [], 1), (42, [6, 5], [], 0), (5000, [0, 1, 2, 3, 4, 5, 6], [0, 1], 7), (0, [3], [], 31), (90, [5], [], -2147483648), (91, [5], [], 2147483647), (90, [6], [], -2147483648), (91, [6], [], 2147483647)], (4000, [3, 4, 5, 12], [3], 7)) := vOk_inI fun ρ η f0 f1 f2 f3 f4 f5 f6 f7 f8 f9 f10 f11 f12 f13 => q_125_1 (q0 := q0) (n0 := ρ 6) (n1 := ρ 5) (n2 := ρ 3) (n3 := ρ 0) (n4 := ρ 1) (n5 := ρ 2) (n6 := ρ 4) (n7 := ρ 9) (n8 := ρ 10) (n9 := ρ 11) (n10 := ρ 12) (H0 := η 0) (H1 := η 1) (H2 := η 2) (H3 := η 3) f13 f12 f11 f10 f9 f8 f7 f6 f5 f4 f3 f2 f1 f0
def p_125_7 : List vG := [([(1317, [12, 10, 11], [2, 3], 0), (90, [12], [], -2147483648), (91, [12], [], 2147483647), (90, [11], [], -2147483648), (91, [11], [], 2147483647), (1, [10, 6, 9], [], 0), (0, [9], [], 1), (42, [6, 5], [], 0), (5000, [0, 1, 2, 3, 4, 5, 6], [0, 1], 7), (0, [3], [], 31), (90, [5], [], -2147483648), (91, [5], [], 2147483647), (90, [6], [], -2147483648), (91, [6], [], 2147483647)], (4000, [3, 4, 5, 12], [3], 7))]
theorem r_125_7 : vCovO true (eRc e_125 L_125 cs_125 2000 (7, [(0, (3, 8, 31, 0)), (1, (2, 692, -1, 0)), (2, (0, -2147483648, 2147483647, 0)), (3, (0, -2147483648, 2147483647, 0))])) p_125_7 = true := by decide +kernel
theorem m_125 (d : Nat) : eC e_125 (d + 5) := eC_ok (e := e_125) (L := L_125) (cs := cs_125) (n := 2000) (d := d + 4) (A := A_125) (μ := mu_125) (tp := true) (p0 := p_125_s) rfl ⟨m_126 (d + 2), ⟨m_127 d, ⟨m_317 (d + 3), trivial⟩⟩⟩ rfl (.inr pre0_ok) (by decide +kernel) (fun _ => post0_ok) r_125_s (allC c_125_s_0 allN) (allC (.inl ⟨p_125_7, r_125_7, fun q0 => (allC c_125_7_0 allN)⟩) allN)
/- Tokens.kindOf (I)I -/
noncomputable def s_122 : vM := ([(3, 8, 31, 0), (0, -2147483648, 2147483647, 0)], (0, -2147483648, 2147483647, 0), 0, 0, [])
noncomputable def e_122 : vE := (122, s_122, pre0, post0)
noncomputable def L_122 : List vE := []
def cs_122 : List vC := []
def A_122 : Int → List Int → gH → gH → Prop := fun c xs h0 h => True
def mu_122 : Int → List Int → gH → gH → Nat := fun c xs h0 h => 0
theorem q_122_0 {n0 n1 n2 n3 n4 n5 : Int} {H0 : gH} (f0 : n0 ≤ 2147483647) (f1 : (-2147483648) ≤ n0) (f2 : n1 = 31) (f3 : hWt T0 H0 ∧ True) (f4 : 0 ≤ n0) (f5 : n2 ≤ 2147483647) (f6 : (-2147483648) ≤ n2) (f7 : n2 = hV H0 (n1).toNat 4) (f8 : n0 < n2) (f9 : n3 = 33) (f10 : n3 = hV H0 (n1).toNat 1) (f11 : n4 = (hN H0 (n3).toNat : Int)) (f12 : n4 = 502) (f13 : n0 < n4) (f14 : n5 = 33) (f15 : n5 = hV H0 (n1).toNat 1) : 0 ≤ n0 ∧ n0 < 502 := by
  have e0 : n2 = hV H0 31 4 := (by rw [f2] at f7; exact f7 : n2 = hV H0 31 4)
  subst e0
  omega
theorem c_122_s_0 : vOkm T0 (eP e_122 L_122 A_122 mu_122 none) 2 ([(20, [5, 0], [0], 1), (0, [5], [], 33), (42, [1, 4], [], 0), (0, [4], [], 502), (21, [4, 3], [0], 0), (20, [3, 0], [0], 1), (0, [3], [], 33), (42, [1, 2], [], 0), (20, [2, 0], [0], 4), (90, [2], [], -2147483648), (91, [2], [], 2147483647), (33, [1], [], 0), (6000, [0, 1], [0], 0), (0, [0], [], 31), (90, [1], [], -2147483648), (91, [1], [], 2147483647)], (70, [1], [], 502)) := vOk_inI fun ρ η f0 f1 f2 f3 f4 f5 f6 f7 f8 f9 f10 f11 f12 f13 f14 f15 => q_122_0 (n0 := ρ 1) (n1 := ρ 0) (n2 := ρ 2) (n3 := ρ 3) (n4 := ρ 4) (n5 := ρ 5) (H0 := η 0) f15 f14 f13 f12 f11 f10 f9 f8 f7 f6 f5 f4 f3 f2 f1 f0
def p_122_s : List vG := [([(20, [5, 0], [0], 1), (0, [5], [], 33), (42, [1, 4], [], 0), (0, [4], [], 502), (21, [4, 3], [0], 0), (20, [3, 0], [0], 1), (0, [3], [], 33), (42, [1, 2], [], 0), (20, [2, 0], [0], 4), (90, [2], [], -2147483648), (91, [2], [], 2147483647), (33, [1], [], 0), (6000, [0, 1], [0], 0), (0, [0], [], 31), (90, [1], [], -2147483648), (91, [1], [], 2147483647)], (70, [1], [], 502))]
theorem r_122_s : vCovO true (eR0 e_122 L_122 cs_122 2000) p_122_s = true := by decide +kernel
theorem m_122 (d : Nat) : eC e_122 (d + 1) := eC_ok (e := e_122) (L := L_122) (cs := cs_122) (n := 2000) (d := d + 0) (A := A_122) (μ := mu_122) (tp := true) (p0 := p_122_s) rfl trivial rfl (.inr pre0_ok) (by decide +kernel) (fun _ => post0_ok) r_122_s (allC c_122_s_0 allN) allN
/- Reader.start ()V -/
noncomputable def s_61 : vM := ([(3, 4, 30, 0)], (9, 0, 0, 0), 0, 0, [(4, 1), (4, 2), (4, 3), (4, 5), (4, 7), (4, 13)])
noncomputable def e_61 : vE := (61, s_61, pre0, post0)
noncomputable def L_61 : List vE := [e_122]
def cs_61 : List vC := []
def A_61 : Int → List Int → gH → gH → Prop := fun c xs h0 h => True
def mu_61 : Int → List Int → gH → gH → Nat := fun c xs h0 h => 0
def p_61_s : List vG := []
theorem r_61_s : vCovO true (eR0 e_61 L_61 cs_61 2000) p_61_s = true := by decide +kernel
theorem m_61 (d : Nat) : eC e_61 (d + 2) := eC_ok (e := e_61) (L := L_61) (cs := cs_61) (n := 2000) (d := d + 1) (A := A_61) (μ := mu_61) (tp := true) (p0 := p_61_s) rfl ⟨m_122 d, trivial⟩ rfl (.inr pre0_ok) (by decide +kernel) (fun _ => post0_ok) r_61_s allN allN
/- Reader.fail (I)V -/
noncomputable def s_64 : vM := ([(3, 4, 30, 0), (0, -2147483648, 2147483647, 0)], (9, 0, 0, 0), 0, 0, [(4, 3), (4, 4)])
noncomputable def e_64 : vE := (64, s_64, pre0, post0)
noncomputable def L_64 : List vE := []
def cs_64 : List vC := []
def A_64 : Int → List Int → gH → gH → Prop := fun c xs h0 h => True
def mu_64 : Int → List Int → gH → gH → Nat := fun c xs h0 h => 0
def p_64_s : List vG := []
theorem r_64_s : vCovO true (eR0 e_64 L_64 cs_64 2000) p_64_s = true := by decide +kernel
theorem m_64 (d : Nat) : eC e_64 (d + 1) := eC_ok (e := e_64) (L := L_64) (cs := cs_64) (n := 2000) (d := d + 0) (A := A_64) (μ := mu_64) (tp := true) (p0 := p_64_s) rfl trivial rfl (.inr pre0_ok) (by decide +kernel) (fun _ => post0_ok) r_64_s allN allN
/- Reader.take (I)V -/
noncomputable def s_66 : vM := ([(3, 4, 30, 0), (0, -2147483648, 2147483647, 0)], (9, 0, 0, 0), 0, 0, [(4, 1), (4, 2), (4, 3), (4, 4)])
noncomputable def e_66 : vE := (66, s_66, pre0, post0)
noncomputable def L_66 : List vE := [e_64, e_122]
def cs_66 : List vC := []
def A_66 : Int → List Int → gH → gH → Prop := fun c xs h0 h => True
def mu_66 : Int → List Int → gH → gH → Nat := fun c xs h0 h => 0
def p_66_s : List vG := []
theorem r_66_s : vCovO true (eR0 e_66 L_66 cs_66 2000) p_66_s = true := by decide +kernel
theorem m_66 (d : Nat) : eC e_66 (d + 2) := eC_ok (e := e_66) (L := L_66) (cs := cs_66) (n := 2000) (d := d + 1) (A := A_66) (μ := mu_66) (tp := true) (p0 := p_66_s) rfl ⟨m_64 d, ⟨m_122 d, trivial⟩⟩ rfl (.inr pre0_ok) (by decide +kernel) (fun _ => post0_ok) r_66_s allN allN
/- Tokens.valueOf (I)J -/
noncomputable def s_123 : vM := ([(3, 8, 31, 0), (0, -2147483648, 2147483647, 0)], (1, 0, 0, 0), 0, 0, [])
noncomputable def e_123 : vE := (123, s_123, pre0, post0)
noncomputable def L_123 : List vE := []
def cs_123 : List vC := []
def A_123 : Int → List Int → gH → gH → Prop := fun c xs h0 h => True
def mu_123 : Int → List Int → gH → gH → Nat := fun c xs h0 h => 0
theorem q_123_0 {n0 n1 n2 n3 n4 n5 : Int} {H0 : gH} (f0 : n0 ≤ 2147483647) (f1 : (-2147483648) ≤ n0) (f2 : n1 = 31) (f3 : hWt T0 H0 ∧ True) (f4 : 0 ≤ n0) (f5 : n2 ≤ 2147483647) (f6 : (-2147483648) ≤ n2) (f7 : n2 = hV H0 (n1).toNat 4) (f8 : n0 < n2) (f9 : n3 = 35) (f10 : n3 = hV H0 (n1).toNat 3) (f11 : n4 = (hN H0 (n3).toNat : Int)) (f12 : n4 = 502) (f13 : n0 < n4) (f14 : n5 = 35) (f15 : n5 = hV H0 (n1).toNat 3) : 0 ≤ n0 ∧ n0 < 502 := by
  have e0 : n2 = hV H0 31 4 := (by rw [f2] at f7; exact f7 : n2 = hV H0 31 4)
  subst e0
  omega
theorem c_123_s_0 : vOkm T0 (eP e_123 L_123 A_123 mu_123 none) 2 ([(20, [5, 0], [0], 3), (0, [5], [], 35), (42, [1, 4], [], 0), (0, [4], [], 502), (21, [4, 3], [0], 0), (20, [3, 0], [0], 3), (0, [3], [], 35), (42, [1, 2], [], 0), (20, [2, 0], [0], 4), (90, [2], [], -2147483648), (91, [2], [], 2147483647), (33, [1], [], 0), (6000, [0, 1], [0], 0), (0, [0], [], 31), (90, [1], [], -2147483648), (91, [1], [], 2147483647)], (70, [1], [], 502)) := vOk_inI fun ρ η f0 f1 f2 f3 f4 f5 f6 f7 f8 f9 f10 f11 f12 f13 f14 f15 => q_123_0 (n0 := ρ 1) (n1 := ρ 0) (n2 := ρ 2) (n3 := ρ 3) (n4 := ρ 4) (n5 := ρ 5) (H0 := η 0) f15 f14 f13 f12 f11 f10 f9 f8 f7 f6 f5 f4 f3 f2 f1 f0
def p_123_s : List vG := [([(20, [5, 0], [0], 3), (0, [5], [], 35), (42, [1, 4], [], 0), (0, [4], [], 502), (21, [4, 3], [0], 0), (20, [3, 0], [0], 3), (0, [3], [], 35), (42, [1, 2], [], 0), (20, [2, 0], [0], 4), (90, [2], [], -2147483648), (91, [2], [], 2147483647), (33, [1], [], 0), (6000, [0, 1], [0], 0), (0, [0], [], 31), (90, [1], [], -2147483648), (91, [1], [], 2147483647)], (70, [1], [], 502))]
theorem r_123_s : vCovO true (eR0 e_123 L_123 cs_123 2000) p_123_s = true := by decide +kernel
theorem m_123 (d : Nat) : eC e_123 (d + 1) := eC_ok (e := e_123) (L := L_123) (cs := cs_123) (n := 2000) (d := d + 0) (A := A_123) (μ := mu_123) (tp := true) (p0 := p_123_s) rfl trivial rfl (.inr pre0_ok) (by decide +kernel) (fun _ => post0_ok) r_123_s (allC c_123_s_0 allN) allN
/- Reader.blockOf (J)I -/
noncomputable def s_71 : vM := ([(3, 4, 30, 0), (1, 0, 0, 0)], (0, -2147483648, 2147483647, 0), 0, 0, [])
noncomputable def e_71 : vE := (71, s_71, pre0, post0)
noncomputable def L_71 : List vE := [e_200k733]
def cs_71 : List vC := [(2, [(0, (3, 4, 30, 0)), (1, (1, 0, 0, 0)), (3, (0, -2147483648, 2147483647, 0))])]
def mub_71_2 (a0 a1 x0 x1 x3 : Int) (h0 h : gH) : Nat := (2147483648 - x3).toNat
def A_71 : Int → List Int → gH → gH → Prop := fun c xs h0 h => True
def mu_71 : Int → List Int → gH → gH → Nat := fun c xs h0 h => match c.toNat with
  | 2 => (match xs with
    | [a0, a1, x0, x1, x3] => mub_71_2 a0 a1 x0 x1 x3 h0 h
    | _ => 0)
  | _ => 0
theorem q_71_0 {n0 n1 n2 : Int} {H0 : gH}  : True ∧ ∀ q, none = some q → mub_71_2 n0 n1 n0 n1 n2 H0 H0 < q := by
  exact ⟨trivial, fun q hq => nomatch hq⟩
theorem c_71_s_0 : vOkm T0 (eP e_71 L_71 A_71 mu_71 none) 2 ([], (4000, [0, 1, 2], [0], 2)) := vOk_inI fun ρ η => q_71_0 (n0 := ρ 0) (n1 := ρ 1) (n2 := ρ 2) (H0 := η 0)
def p_71_s : List vG := [([], (4000, [0, 1, 2], [0], 2))]
theorem r_71_s : vCovO true (eR0 e_71 L_71 cs_71 2000) p_71_s = true := by decide +kernel
theorem q_71_1 {q0 : Nat} {n0 n1 n2 n3 n4 n5 n6 : Int} {H0 H1 H2 : gH} (f0 : n0 ≤ 2147483647) (f1 : (-2147483648) ≤ n0) (f2 : (hLe T0 H0 H1 ∧ hFr s_71.2.2.2.2 H0 H1 ∧ hWt T0 H1) ∧ (True ∧ True) ∧ some q0 = some (mub_71_2 n1 n2 n3 n4 n0 H0 H1)) (f3 : n5 ≤ 2147483647) (f4 : (-2147483648) ≤ n5) (f5 : n0 < n5) (f6 : n6 = w32 (n0 + 1)) : True ∧ ∀ q, some q0 = some q → mub_71_2 n1 n2 n3 n4 n6 H0 H2 < q := by
  have g5 := Option.some.inj f2.2.2
  unfold mub_71_2 at g5
  unfold mub_71_2
  unfold w32 at f6
  refine ⟨?_, fun q hq => ?_⟩
  · trivial
  · have g6 := Option.some.inj hq
    subst g6
    omega
theorem c_71_2_0 {q0 : Nat} : vOkm T0 (eP e_71 L_71 A_71 mu_71 (some q0)) 2 ([(10, [9, 4], [], 1), (42, [4, 5], [], 0), (90, [5], [], -2147483648), (91, [5], [], 2147483647), (5000, [0, 1, 2, 3, 4], [0, 1], 2), (90, [4], [], -2147483648), (91, [4], [], 2147483647)], (4000, [2, 3, 9], [2], 2)) := vOk_inI fun ρ η f0 f1 f2 f3 f4 f5 f6 => q_71_1 (q0 := q0) (n0 := ρ 4) (n1 := ρ 0) (n2 := ρ 1) (n3 := ρ 2) (n4 := ρ 3) (n5 := ρ 5) (n6 := ρ 9) (H0 := η 0) (H1 := η 1) (H2 := η 2) f6 f5 f4 f3 f2 f1 f0
def p_71_2 : List vG := [([(10, [9, 4], [], 1), (42, [4, 5], [], 0), (90, [5], [], -2147483648), (91, [5], [], 2147483647), (5000, [0, 1, 2, 3, 4], [0, 1], 2), (90, [4], [], -2147483648), (91, [4], [], 2147483647)], (4000, [2, 3, 9], [2], 2))]
theorem r_71_2 : vCovO true (eRc e_71 L_71 cs_71 2000 (2, [(0, (3, 4, 30, 0)), (1, (1, 0, 0, 0)), (3, (0, -2147483648, 2147483647, 0))])) p_71_2 = true := by decide +kernel
theorem m_71 (d : Nat) : eC e_71 (d + 2) := eC_ok (e := e_71) (L := L_71) (cs := cs_71) (n := 2000) (d := d + 1) (A := A_71) (μ := mu_71) (tp := true) (p0 := p_71_s) rfl ⟨m_200k733 d, trivial⟩ rfl (.inr pre0_ok) (by decide +kernel) (fun _ => post0_ok) r_71_s (allC c_71_s_0 allN) (allC (.inl ⟨p_71_2, r_71_2, fun q0 => (allC c_71_2_0 allN)⟩) allN)
/- Reader.blame (II)V -/
noncomputable def s_65 : vM := ([(3, 4, 30, 0), (0, -2147483648, 2147483647, 0), (0, -2147483648, 2147483647, 0)], (9, 0, 0, 0), 0, 0, [(4, 5), (4, 6)])
noncomputable def e_65 : vE := (65, s_65, pre0, post0)
noncomputable def L_65 : List vE := []
def cs_65 : List vC := []
def A_65 : Int → List Int → gH → gH → Prop := fun c xs h0 h => True
def mu_65 : Int → List Int → gH → gH → Nat := fun c xs h0 h => 0
def p_65_s : List vG := []
theorem r_65_s : vCovO true (eR0 e_65 L_65 cs_65 2000) p_65_s = true := by decide +kernel
theorem m_65 (d : Nat) : eC e_65 (d + 1) := eC_ok (e := e_65) (L := L_65) (cs := cs_65) (n := 2000) (d := d + 0) (A := A_65) (μ := mu_65) (tp := true) (p0 := p_65_s) rfl trivial rfl (.inr pre0_ok) (by decide +kernel) (fun _ => post0_ok) r_65_s allN allN
/- Reader.beginBlock ()V -/
noncomputable def s_68 : vM := ([(3, 4, 30, 0)], (9, 0, 0, 0), 0, 0, [(4, 1), (4, 2), (4, 3), (4, 4), (4, 5), (4, 6), (733, 0)])
noncomputable def e_68 : vE := (68, s_68, pre0, post0)
noncomputable def L_68 : List vE := [e_64, e_65, e_66, e_71, e_123, e_202k733]
def cs_68 : List vC := []
def A_68 : Int → List Int → gH → gH → Prop := fun c xs h0 h => True
def mu_68 : Int → List Int → gH → gH → Nat := fun c xs h0 h => 0
def p_68_s : List vG := []
theorem r_68_s : vCovO true (eR0 e_68 L_68 cs_68 2000) p_68_s = true := by decide +kernel
theorem m_68 (d : Nat) : eC e_68 (d + 3) := eC_ok (e := e_68) (L := L_68) (cs := cs_68) (n := 2000) (d := d + 2) (A := A_68) (μ := mu_68) (tp := true) (p0 := p_68_s) rfl ⟨m_64 (d + 1), ⟨m_65 (d + 1), ⟨m_66 d, ⟨m_71 d, ⟨m_123 (d + 1), ⟨m_202k733 (d + 1), trivial⟩⟩⟩⟩⟩⟩ rfl (.inr pre0_ok) (by decide +kernel) (fun _ => post0_ok) r_68_s allN allN
/- Reader.isCue (I)Z -/
noncomputable def s_73 : vM := ([(0, -2147483648, 2147483647, 0)], (0, 0, 1, 0), 0, 0, [])
noncomputable def e_73 : vE := (73, s_73, pre0, post0)
noncomputable def L_73 : List vE := []
def cs_73 : List vC := []
def A_73 : Int → List Int → gH → gH → Prop := fun c xs h0 h => True
def mu_73 : Int → List Int → gH → gH → Nat := fun c xs h0 h => 0
def p_73_s : List vG := []
theorem r_73_s : vCovO true (eR0 e_73 L_73 cs_73 2000) p_73_s = true := by decide +kernel
theorem m_73 (d : Nat) : eC e_73 (d + 1) := eC_ok (e := e_73) (L := L_73) (cs := cs_73) (n := 2000) (d := d + 0) (A := A_73) (μ := mu_73) (tp := true) (p0 := p_73_s) rfl trivial rfl (.inr pre0_ok) (by decide +kernel) (fun _ => post0_ok) r_73_s allN allN
/- Reader.cueAt (II)LMixStage$Cue; -/
noncomputable def s_74 : vM := ([(3, 4, 30, 0), (0, -2147483648, 2147483647, 0), (0, -2147483648, 2147483647, 0)], (2, 1, -1, 0), 0, 0, [])
noncomputable def e_74 : vE := (74, s_74, pre0, post0)
noncomputable def L_74 : List vE := []
def cs_74 : List vC := []
def A_74 : Int → List Int → gH → gH → Prop := fun c xs h0 h => True
def mu_74 : Int → List Int → gH → gH → Nat := fun c xs h0 h => 0
theorem q_74_0 {n0 n1 n2 n3 n4 n5 n6 : Int} {H0 : gH} (f0 : n0 ≤ 2147483647) (f1 : (-2147483648) ≤ n0) (f2 : n1 ≤ 2147483647) (f3 : (-2147483648) ≤ n1) (f4 : n2 = 16) (f5 : n3 = w32 (n1 * n2)) (f6 : n4 = w32 (n3 + n0)) (f7 : 0 ≤ n0) (f8 : n5 = 16) (f9 : n0 < n5) (f10 : 0 ≤ n4) (f11 : n6 = 112) (f12 : n4 < n6) : 0 ≤ n4 ∧ n4 < 112 := by
  unfold w32 at f5 f6
  omega
theorem c_74_s_0 : vOkm T0 (eP e_74 L_74 A_74 mu_74 none) 3 ([(42, [5, 8], [], 0), (0, [8], [], 112), (33, [5], [], 0), (42, [2, 6], [], 0), (0, [6], [], 16), (33, [2], [], 0), (1, [5, 4, 2], [], 0), (3, [4, 1, 3], [], 0), (0, [3], [], 16), (90, [1], [], -2147483648), (91, [1], [], 2147483647), (90, [2], [], -2147483648), (91, [2], [], 2147483647)], (70, [5], [], 112)) := vOk_inI fun ρ η f0 f1 f2 f3 f4 f5 f6 f7 f8 f9 f10 f11 f12 => q_74_0 (n0 := ρ 2) (n1 := ρ 1) (n2 := ρ 3) (n3 := ρ 4) (n4 := ρ 5) (n5 := ρ 6) (n6 := ρ 8) (H0 := η 0) f12 f11 f10 f9 f8 f7 f6 f5 f4 f3 f2 f1 f0
def p_74_s : List vG := [([(42, [5, 8], [], 0), (0, [8], [], 112), (33, [5], [], 0), (42, [2, 6], [], 0), (0, [6], [], 16), (33, [2], [], 0), (1, [5, 4, 2], [], 0), (3, [4, 1, 3], [], 0), (0, [3], [], 16), (90, [1], [], -2147483648), (91, [1], [], 2147483647), (90, [2], [], -2147483648), (91, [2], [], 2147483647)], (70, [5], [], 112))]
theorem r_74_s : vCovO true (eR0 e_74 L_74 cs_74 2000) p_74_s = true := by decide +kernel
theorem m_74 (d : Nat) : eC e_74 (d + 1) := eC_ok (e := e_74) (L := L_74) (cs := cs_74) (n := 2000) (d := d + 0) (A := A_74) (μ := mu_74) (tp := true) (p0 := p_74_s) rfl trivial rfl (.inr pre0_ok) (by decide +kernel) (fun _ => post0_ok) r_74_s (allC c_74_s_0 allN) allN
/- Tokens.placeOf (I)I -/
noncomputable def s_124 : vM := ([(3, 8, 31, 0), (0, -2147483648, 2147483647, 0)], (0, -2147483648, 2147483647, 0), 0, 0, [])
noncomputable def e_124 : vE := (124, s_124, pre0, post0)
noncomputable def L_124 : List vE := [e_199k716]
def cs_124 : List vC := []
def A_124 : Int → List Int → gH → gH → Prop := fun c xs h0 h => True
def mu_124 : Int → List Int → gH → gH → Nat := fun c xs h0 h => 0
def p_124_s : List vG := []
theorem r_124_s : vCovO true (eR0 e_124 L_124 cs_124 2000) p_124_s = true := by decide +kernel
theorem m_124 (d : Nat) : eC e_124 (d + 2) := eC_ok (e := e_124) (L := L_124) (cs := cs_124) (n := 2000) (d := d + 1) (A := A_124) (μ := mu_124) (tp := true) (p0 := p_124_s) rfl ⟨m_199k716 d, trivial⟩ rfl (.inr pre0_ok) (by decide +kernel) (fun _ => post0_ok) r_124_s allN allN
/- Reader.takeInt (II)I -/
noncomputable def s_67 : vM := ([(3, 4, 30, 0), (0, -2147483648, 2147483647, 0), (0, -2147483648, 2147483647, 0)], (0, -2147483648, 2147483647, 0), 0, 0, [(4, 1), (4, 2), (4, 3), (4, 4), (4, 5), (4, 6)])
noncomputable def e_67 : vE := (67, s_67, pre0, post0)
noncomputable def L_67 : List vE := [e_65, e_66, e_123]
def cs_67 : List vC := []
def A_67 : Int → List Int → gH → gH → Prop := fun c xs h0 h => True
def mu_67 : Int → List Int → gH → gH → Nat := fun c xs h0 h => 0
def p_67_s : List vG := []
theorem r_67_s : vCovO true (eR0 e_67 L_67 cs_67 2000) p_67_s = true := by decide +kernel
theorem m_67 (d : Nat) : eC e_67 (d + 3) := eC_ok (e := e_67) (L := L_67) (cs := cs_67) (n := 2000) (d := d + 2) (A := A_67) (μ := mu_67) (tp := true) (p0 := p_67_s) rfl ⟨m_65 (d + 1), ⟨m_66 d, ⟨m_123 (d + 1), trivial⟩⟩⟩ rfl (.inr pre0_ok) (by decide +kernel) (fun _ => post0_ok) r_67_s allN allN
/- Reader.readTime (LMixStage$Cue;Z)V -/
noncomputable def s_81 : vM := ([(3, 4, 30, 0), (3, 1, -1, 0), (0, 0, 1, 0)], (9, 0, 0, 0), 0, 0, [(1, 4), (1, 5), (1, 6), (1, 7), (4, 1), (4, 2), (4, 3), (4, 4), (4, 5), (4, 6)])
noncomputable def e_81 : vE := (81, s_81, pre0, post0)
noncomputable def L_81 : List vE := [e_66, e_67]
def cs_81 : List vC := []
def A_81 : Int → List Int → gH → gH → Prop := fun c xs h0 h => True
def mu_81 : Int → List Int → gH → gH → Nat := fun c xs h0 h => 0
def p_81_s : List vG := []
theorem r_81_s : vCovO true (eR0 e_81 L_81 cs_81 2000) p_81_s = true := by decide +kernel
theorem m_81 (d : Nat) : eC e_81 (d + 4) := eC_ok (e := e_81) (L := L_81) (cs := cs_81) (n := 2000) (d := d + 3) (A := A_81) (μ := mu_81) (tp := true) (p0 := p_81_s) rfl ⟨m_66 (d + 1), ⟨m_67 d, trivial⟩⟩ rfl (.inr pre0_ok) (by decide +kernel) (fun _ => post0_ok) r_81_s allN allN
/- Reader.readLay (LMixStage$Cue;)V -/
noncomputable def s_75 : vM := ([(3, 4, 30, 0), (3, 1, -1, 0)], (9, 0, 0, 0), 0, 0, [(1, 2), (1, 3), (1, 4), (1, 5), (1, 6), (1, 7), (1, 8), (1, 9), (1, 10), (1, 12), (1, 13), (4, 1), (4, 2), (4, 3), (4, 4), (4, 5), (4, 6)])
noncomputable def e_75 : vE := (75, s_75, pre0, post0)
noncomputable def L_75 : List vE := [e_66, e_67, e_81]
def cs_75 : List vC := []
def A_75 : Int → List Int → gH → gH → Prop := fun c xs h0 h => True
def mu_75 : Int → List Int → gH → gH → Nat := fun c xs h0 h => 0
def p_75_s : List vG := []
theorem r_75_s : vCovO true (eR0 e_75 L_75 cs_75 2000) p_75_s = true := by decide +kernel
theorem m_75 (d : Nat) : eC e_75 (d + 5) := eC_ok (e := e_75) (L := L_75) (cs := cs_75) (n := 2000) (d := d + 4) (A := A_75) (μ := mu_75) (tp := true) (p0 := p_75_s) rfl ⟨m_66 (d + 2), ⟨m_67 (d + 1), ⟨m_81 d, trivial⟩⟩⟩ rfl (.inr pre0_ok) (by decide +kernel) (fun _ => post0_ok) r_75_s allN allN
/- Reader.readFade (LMixStage$Cue;)V -/
noncomputable def s_76 : vM := ([(3, 4, 30, 0), (3, 1, -1, 0)], (9, 0, 0, 0), 0, 0, [(1, 3), (1, 4), (1, 5), (1, 6), (1, 7), (1, 10), (1, 11), (4, 1), (4, 2), (4, 3), (4, 4), (4, 5), (4, 6)])
noncomputable def e_76 : vE := (76, s_76, pre0, post0)
noncomputable def L_76 : List vE := [e_66, e_67, e_81]
def cs_76 : List vC := []
def A_76 : Int → List Int → gH → gH → Prop := fun c xs h0 h => True
def mu_76 : Int → List Int → gH → gH → Nat := fun c xs h0 h => 0
def p_76_s : List vG := []
theorem r_76_s : vCovO true (eR0 e_76 L_76 cs_76 2000) p_76_s = true := by decide +kernel
theorem m_76 (d : Nat) : eC e_76 (d + 5) := eC_ok (e := e_76) (L := L_76) (cs := cs_76) (n := 2000) (d := d + 4) (A := A_76) (μ := mu_76) (tp := true) (p0 := p_76_s) rfl ⟨m_66 (d + 2), ⟨m_67 (d + 1), ⟨m_81 d, trivial⟩⟩⟩ rfl (.inr pre0_ok) (by decide +kernel) (fun _ => post0_ok) r_76_s allN allN
/- Reader.readDip (LMixStage$Cue;)V -/
noncomputable def s_77 : vM := ([(3, 4, 30, 0), (3, 1, -1, 0)], (9, 0, 0, 0), 0, 0, [(1, 3), (1, 14), (1, 15), (1, 16), (4, 1), (4, 2), (4, 3), (4, 4), (4, 5), (4, 6)])
noncomputable def e_77 : vE := (77, s_77, pre0, post0)
noncomputable def L_77 : List vE := [e_66, e_67]
def cs_77 : List vC := []
def A_77 : Int → List Int → gH → gH → Prop := fun c xs h0 h => True
def mu_77 : Int → List Int → gH → gH → Nat := fun c xs h0 h => 0
def p_77_s : List vG := []
theorem r_77_s : vCovO true (eR0 e_77 L_77 cs_77 2000) p_77_s = true := by decide +kernel
theorem m_77 (d : Nat) : eC e_77 (d + 4) := eC_ok (e := e_77) (L := L_77) (cs := cs_77) (n := 2000) (d := d + 3) (A := A_77) (μ := mu_77) (tp := true) (p0 := p_77_s) rfl ⟨m_66 (d + 1), ⟨m_67 d, trivial⟩⟩ rfl (.inr pre0_ok) (by decide +kernel) (fun _ => post0_ok) r_77_s allN allN
/- Reader.readWeight (LMixStage$Cue;)V -/
noncomputable def s_79 : vM := ([(3, 4, 30, 0), (3, 1, -1, 0)], (9, 0, 0, 0), 0, 0, [(1, 18), (4, 1), (4, 2), (4, 3), (4, 4), (4, 5), (4, 6), (796, 0)])
noncomputable def e_79 : vE := (79, s_79, pre0, post0)
noncomputable def L_79 : List vE := [e_64, e_67, e_201k796]
def cs_79 : List vC := []
def A_79 : Int → List Int → gH → gH → Prop := fun c xs h0 h => True
def mu_79 : Int → List Int → gH → gH → Nat := fun c xs h0 h => 0
def p_79_s : List vG := []
theorem r_79_s : vCovO true (eR0 e_79 L_79 cs_79 2000) p_79_s = true := by decide +kernel
theorem m_79 (d : Nat) : eC e_79 (d + 4) := eC_ok (e := e_79) (L := L_79) (cs := cs_79) (n := 2000) (d := d + 3) (A := A_79) (μ := mu_79) (tp := true) (p0 := p_79_s) rfl ⟨m_64 (d + 2), ⟨m_67 d, ⟨m_201k796 (d + 2), trivial⟩⟩⟩ rfl (.inr pre0_ok) (by decide +kernel) (fun _ => post0_ok) r_79_s allN allN
/- Reader.readTaps (LMixStage$Cue;)V -/
noncomputable def s_78 : vM := ([(3, 4, 30, 0), (3, 1, -1, 0)], (9, 0, 0, 0), 0, 0, [(1, 3), (1, 18), (4, 1), (4, 2), (4, 3), (4, 4), (4, 5), (4, 6), (796, 0)])
noncomputable def e_78 : vE := (78, s_78, pre0, post0)
noncomputable def L_78 : List vE := [e_66, e_67, e_79]
def cs_78 : List vC := [(23, [(0, (3, 4, 30, 0)), (1, (3, 1, -1, 0)), (2, (0, -2147483648, 2147483647, 0))])]
def mub_78_23 (a0 a1 x0 x1 x2 : Int) (h0 h : gH) : Nat := (2147483648 - x2).toNat
def A_78 : Int → List Int → gH → gH → Prop := fun c xs h0 h => True
def mu_78 : Int → List Int → gH → gH → Nat := fun c xs h0 h => match c.toNat with
  | 23 => (match xs with
    | [a0, a1, x0, x1, x2] => mub_78_23 a0 a1 x0 x1 x2 h0 h
    | _ => 0)
  | _ => 0
theorem q_78_0 {n0 n1 n2 : Int} {H0 H1 : gH}  : True ∧ ∀ q, none = some q → mub_78_23 n0 n1 n0 n1 n2 H0 H1 < q := by
  exact ⟨trivial, fun q hq => nomatch hq⟩
theorem c_78_s_0 : vOkm T0 (eP e_78 L_78 A_78 mu_78 none) 2 ([], (4000, [0, 1, 7], [4], 23)) := vOk_inI fun ρ η => q_78_0 (n0 := ρ 0) (n1 := ρ 1) (n2 := ρ 7) (H0 := η 0) (H1 := η 4)
def p_78_s : List vG := [([], (4000, [0, 1, 7], [4], 23))]
theorem r_78_s : vCovO true (eR0 e_78 L_78 cs_78 2000) p_78_s = true := by decide +kernel
theorem q_78_1 {q0 : Nat} {n0 n1 n2 n3 n4 n5 n6 : Int} {H0 H1 H2 : gH} (f0 : n0 ≤ 2147483647) (f1 : (-2147483648) ≤ n0) (f2 : (hLe T0 H0 H1 ∧ hFr s_78.2.2.2.2 H0 H1 ∧ hWt T0 H1) ∧ (True ∧ True) ∧ some q0 = some (mub_78_23 n1 n2 n3 n4 n0 H0 H1)) (f3 : n5 = 4) (f4 : n0 < n5) (f5 : n6 = w32 (n0 + 1)) : True ∧ ∀ q, some q0 = some q → mub_78_23 n1 n2 n3 n4 n6 H0 H2 < q := by
  have g5 := Option.some.inj f2.2.2
  unfold mub_78_23 at g5
  unfold mub_78_23
  unfold w32 at f5
  refine ⟨?_, fun q hq => ?_⟩
  · trivial
  · have g6 := Option.some.inj hq
    subst g6
    omega
theorem c_78_23_0 {q0 : Nat} : vOkm T0 (eP e_78 L_78 A_78 mu_78 (some q0)) 2 ([(10, [10, 4], [], 1), (42, [4, 5], [], 0), (0, [5], [], 4), (5000, [0, 1, 2, 3, 4], [0, 1], 23), (90, [4], [], -2147483648), (91, [4], [], 2147483647)], (4000, [2, 3, 10], [3], 23)) := vOk_inI fun ρ η f0 f1 f2 f3 f4 f5 => q_78_1 (q0 := q0) (n0 := ρ 4) (n1 := ρ 0) (n2 := ρ 1) (n3 := ρ 2) (n4 := ρ 3) (n5 := ρ 5) (n6 := ρ 10) (H0 := η 0) (H1 := η 1) (H2 := η 3) f5 f4 f3 f2 f1 f0
def p_78_23 : List vG := [([(10, [10, 4], [], 1), (42, [4, 5], [], 0), (0, [5], [], 4), (5000, [0, 1, 2, 3, 4], [0, 1], 23), (90, [4], [], -2147483648), (91, [4], [], 2147483647)], (4000, [2, 3, 10], [3], 23))]
theorem r_78_23 : vCovO true (eRc e_78 L_78 cs_78 2000 (23, [(0, (3, 4, 30, 0)), (1, (3, 1, -1, 0)), (2, (0, -2147483648, 2147483647, 0))])) p_78_23 = true := by decide +kernel
theorem m_78 (d : Nat) : eC e_78 (d + 5) := eC_ok (e := e_78) (L := L_78) (cs := cs_78) (n := 2000) (d := d + 4) (A := A_78) (μ := mu_78) (tp := true) (p0 := p_78_s) rfl ⟨m_66 (d + 2), ⟨m_67 (d + 1), ⟨m_79 d, trivial⟩⟩⟩ rfl (.inr pre0_ok) (by decide +kernel) (fun _ => post0_ok) r_78_s (allC c_78_s_0 allN) (allC (.inl ⟨p_78_23, r_78_23, fun q0 => (allC c_78_23_0 allN)⟩) allN)
/- Reader.readUse (LMixStage$Cue;)V -/
noncomputable def s_80 : vM := ([(3, 4, 30, 0), (3, 1, -1, 0)], (9, 0, 0, 0), 0, 0, [(1, 2), (1, 4), (1, 5), (1, 6), (1, 7), (4, 1), (4, 2), (4, 3), (4, 4), (4, 5), (4, 6)])
noncomputable def e_80 : vE := (80, s_80, pre0, post0)
noncomputable def L_80 : List vE := [e_65, e_66, e_71, e_81, e_123]
def cs_80 : List vC := []
def A_80 : Int → List Int → gH → gH → Prop := fun c xs h0 h => True
def mu_80 : Int → List Int → gH → gH → Nat := fun c xs h0 h => 0
def p_80_s : List vG := []
theorem r_80_s : vCovO true (eR0 e_80 L_80 cs_80 2000) p_80_s = true := by decide +kernel
theorem m_80 (d : Nat) : eC e_80 (d + 5) := eC_ok (e := e_80) (L := L_80) (cs := cs_80) (n := 2000) (d := d + 4) (A := A_80) (μ := mu_80) (tp := true) (p0 := p_80_s) rfl ⟨m_65 (d + 3), ⟨m_66 (d + 2), ⟨m_71 (d + 2), ⟨m_81 d, ⟨m_123 (d + 3), trivial⟩⟩⟩⟩⟩ rfl (.inr pre0_ok) (by decide +kernel) (fun _ => post0_ok) r_80_s allN allN
/- Reader.readCues ()V -/
noncomputable def s_72 : vM := ([(3, 4, 30, 0)], (9, 0, 0, 0), 0, 0, [(1, 0), (1, 1), (1, 2), (1, 3), (1, 4), (1, 5), (1, 6), (1, 7), (1, 8), (1, 9), (1, 10), (1, 11), (1, 12), (1, 13), (1, 14), (1, 15), (1, 16), (1, 18), (4, 1), (4, 2), (4, 3), (4, 4), (4, 5), (4, 6), (740, 0), (796, 0)])
noncomputable def e_72 : vE := (72, s_72, pre0, post0)
noncomputable def L_72 : List vE := [e_24, e_64, e_66, e_67, e_73, e_74, e_75, e_76, e_77, e_78, e_80, e_124, e_199k740, e_201k740]
def cs_72 : List vC := [(6, [(0, (3, 4, 30, 0)), (1, (0, -2147483648, 2147483647, 0)), (2, (0, -2147483648, 2147483647, 0)), (3, (0, -2147483648, 2147483647, 0))])]
def mub_72_6 (a0 x0 x1 x2 x3 : Int) (h0 h : gH) : Nat := (2147483648 - x3).toNat
def A_72 : Int → List Int → gH → gH → Prop := fun c xs h0 h => True
def mu_72 : Int → List Int → gH → gH → Nat := fun c xs h0 h => match c.toNat with
  | 6 => (match xs with
    | [a0, x0, x1, x2, x3] => mub_72_6 a0 x0 x1 x2 x3 h0 h
    | _ => 0)
  | _ => 0
theorem q_72_0 {n0 n1 n2 n3 : Int} {H0 : gH}  : True ∧ ∀ q, none = some q → mub_72_6 n0 n0 n1 n2 n3 H0 H0 < q := by
  exact ⟨trivial, fun q hq => nomatch hq⟩
theorem c_72_s_0 : vOkm T0 (eP e_72 L_72 A_72 mu_72 none) 1 ([], (4000, [0, 1, 2, 3], [0], 6)) := vOk_inI fun ρ η => q_72_0 (n0 := ρ 0) (n1 := ρ 1) (n2 := ρ 2) (n3 := ρ 3) (H0 := η 0)
def p_72_s : List vG := [([], (4000, [0, 1, 2, 3], [0], 6))]
theorem r_72_s : vCovO true (eR0 e_72 L_72 cs_72 2000) p_72_s = true := by decide +kernel
theorem q_72_1 {q0 : Nat} {n0 n1 n2 n3 n4 n5 n6 : Int} {H0 H1 H2 : gH} (f0 : n0 ≤ 2147483647) (f1 : (-2147483648) ≤ n0) (f2 : (hLe T0 H0 H1 ∧ hFr s_72.2.2.2.2 H0 H1 ∧ hWt T0 H1) ∧ (True ∧ True) ∧ some q0 = some (mub_72_6 n1 n2 n3 n4 n0 H0 H1)) (f3 : n5 = 16) (f4 : n0 ≤ n5) (f5 : n6 = w32 (n0 + 1)) : True ∧ ∀ q, some q0 = some q → mub_72_6 n1 n2 n3 n4 n6 H0 H2 < q := by
  have g5 := Option.some.inj f2.2.2
  unfold mub_72_6 at g5
  unfold mub_72_6
  unfold w32 at f5
  refine ⟨?_, fun q hq => ?_⟩
  · trivial
  · have g6 := Option.some.inj hq
    subst g6
    omega
theorem c_72_6_0 {q0 : Nat} : vOkm T0 (eP e_72 L_72 A_72 mu_72 (some q0)) 1 ([(10, [12, 4], [], 1), (45, [4, 5], [], 0), (0, [5], [], 16), (5000, [0, 1, 2, 3, 4], [0, 1], 6), (90, [4], [], -2147483648), (91, [4], [], 2147483647)], (4000, [1, 2, 3, 12], [4], 6)) := vOk_inI fun ρ η f0 f1 f2 f3 f4 f5 => q_72_1 (q0 := q0) (n0 := ρ 4) (n1 := ρ 0) (n2 := ρ 1) (n3 := ρ 2) (n4 := ρ 3) (n5 := ρ 5) (n6 := ρ 12) (H0 := η 0) (H1 := η 1) (H2 := η 4) f5 f4 f3 f2 f1 f0
theorem q_72_2 {q0 : Nat} {n0 n1 n2 n3 n4 n5 n6 n7 n8 : Int} {H0 H1 H2 : gH} (f0 : n0 ≤ 2147483647) (f1 : (-2147483648) ≤ n0) (f2 : (hLe T0 H0 H1 ∧ hFr s_72.2.2.2.2 H0 H1 ∧ hWt T0 H1) ∧ (True ∧ True) ∧ some q0 = some (mub_72_6 n1 n2 n3 n4 n0 H0 H1)) (f3 : n5 = 16) (f4 : n0 ≤ n5) (f5 : n6 = w32 (n0 + 1)) : True ∧ ∀ q, some q0 = some q → mub_72_6 n1 n2 n7 n8 n6 H0 H2 < q := by
  have g5 := Option.some.inj f2.2.2
  unfold mub_72_6 at g5
  unfold mub_72_6
  unfold w32 at f5
  refine ⟨?_, fun q hq => ?_⟩
  · trivial
  · have g6 := Option.some.inj hq
    subst g6
    omega
theorem c_72_6_1 {q0 : Nat} : vOkm T0 (eP e_72 L_72 A_72 mu_72 (some q0)) 1 ([(10, [25, 4], [], 1), (45, [4, 5], [], 0), (0, [5], [], 16), (5000, [0, 1, 2, 3, 4], [0, 1], 6), (90, [4], [], -2147483648), (91, [4], [], 2147483647)], (4000, [1, 20, 24, 25], [8], 6)) := vOk_inI fun ρ η f0 f1 f2 f3 f4 f5 => q_72_2 (q0 := q0) (n0 := ρ 4) (n1 := ρ 0) (n2 := ρ 1) (n3 := ρ 2) (n4 := ρ 3) (n5 := ρ 5) (n6 := ρ 25) (n7 := ρ 20) (n8 := ρ 24) (H0 := η 0) (H1 := η 1) (H2 := η 8) f5 f4 f3 f2 f1 f0
theorem c_72_6_2 {q0 : Nat} : vOkm T0 (eP e_72 L_72 A_72 mu_72 (some q0)) 1 ([(10, [27, 4], [], 1), (45, [4, 5], [], 0), (0, [5], [], 16), (5000, [0, 1, 2, 3, 4], [0, 1], 6), (90, [4], [], -2147483648), (91, [4], [], 2147483647)], (4000, [1, 20, 26, 27], [9], 6)) := vOk_inI fun ρ η f0 f1 f2 f3 f4 f5 => q_72_2 (q0 := q0) (n0 := ρ 4) (n1 := ρ 0) (n2 := ρ 1) (n3 := ρ 2) (n4 := ρ 3) (n5 := ρ 5) (n6 := ρ 27) (n7 := ρ 20) (n8 := ρ 26) (H0 := η 0) (H1 := η 1) (H2 := η 9) f5 f4 f3 f2 f1 f0
theorem c_72_6_3 {q0 : Nat} : vOkm T0 (eP e_72 L_72 A_72 mu_72 (some q0)) 1 ([(10, [25, 4], [], 1), (45, [4, 5], [], 0), (0, [5], [], 16), (5000, [0, 1, 2, 3, 4], [0, 1], 6), (90, [4], [], -2147483648), (91, [4], [], 2147483647)], (4000, [1, 20, 24, 25], [8], 6)) := vOk_inI fun ρ η f0 f1 f2 f3 f4 f5 => q_72_2 (q0 := q0) (n0 := ρ 4) (n1 := ρ 0) (n2 := ρ 1) (n3 := ρ 2) (n4 := ρ 3) (n5 := ρ 5) (n6 := ρ 25) (n7 := ρ 20) (n8 := ρ 24) (H0 := η 0) (H1 := η 1) (H2 := η 8) f5 f4 f3 f2 f1 f0
theorem c_72_6_4 {q0 : Nat} : vOkm T0 (eP e_72 L_72 A_72 mu_72 (some q0)) 1 ([(10, [27, 4], [], 1), (45, [4, 5], [], 0), (0, [5], [], 16), (5000, [0, 1, 2, 3, 4], [0, 1], 6), (90, [4], [], -2147483648), (91, [4], [], 2147483647)], (4000, [1, 20, 26, 27], [9], 6)) := vOk_inI fun ρ η f0 f1 f2 f3 f4 f5 => q_72_2 (q0 := q0) (n0 := ρ 4) (n1 := ρ 0) (n2 := ρ 1) (n3 := ρ 2) (n4 := ρ 3) (n5 := ρ 5) (n6 := ρ 27) (n7 := ρ 20) (n8 := ρ 26) (H0 := η 0) (H1 := η 1) (H2 := η 9) f5 f4 f3 f2 f1 f0
theorem c_72_6_5 {q0 : Nat} : vOkm T0 (eP e_72 L_72 A_72 mu_72 (some q0)) 1 ([(10, [25, 4], [], 1), (45, [4, 5], [], 0), (0, [5], [], 16), (5000, [0, 1, 2, 3, 4], [0, 1], 6), (90, [4], [], -2147483648), (91, [4], [], 2147483647)], (4000, [1, 20, 24, 25], [8], 6)) := vOk_inI fun ρ η f0 f1 f2 f3 f4 f5 => q_72_2 (q0 := q0) (n0 := ρ 4) (n1 := ρ 0) (n2 := ρ 1) (n3 := ρ 2) (n4 := ρ 3) (n5 := ρ 5) (n6 := ρ 25) (n7 := ρ 20) (n8 := ρ 24) (H0 := η 0) (H1 := η 1) (H2 := η 8) f5 f4 f3 f2 f1 f0
theorem c_72_6_6 {q0 : Nat} : vOkm T0 (eP e_72 L_72 A_72 mu_72 (some q0)) 1 ([(10, [27, 4], [], 1), (45, [4, 5], [], 0), (0, [5], [], 16), (5000, [0, 1, 2, 3, 4], [0, 1], 6), (90, [4], [], -2147483648), (91, [4], [], 2147483647)], (4000, [1, 20, 26, 27], [9], 6)) := vOk_inI fun ρ η f0 f1 f2 f3 f4 f5 => q_72_2 (q0 := q0) (n0 := ρ 4) (n1 := ρ 0) (n2 := ρ 1) (n3 := ρ 2) (n4 := ρ 3) (n5 := ρ 5) (n6 := ρ 27) (n7 := ρ 20) (n8 := ρ 26) (H0 := η 0) (H1 := η 1) (H2 := η 9) f5 f4 f3 f2 f1 f0
theorem c_72_6_7 {q0 : Nat} : vOkm T0 (eP e_72 L_72 A_72 mu_72 (some q0)) 1 ([(10, [25, 4], [], 1), (45, [4, 5], [], 0), (0, [5], [], 16), (5000, [0, 1, 2, 3, 4], [0, 1], 6), (90, [4], [], -2147483648), (91, [4], [], 2147483647)], (4000, [1, 20, 24, 25], [8], 6)) := vOk_inI fun ρ η f0 f1 f2 f3 f4 f5 => q_72_2 (q0 := q0) (n0 := ρ 4) (n1 := ρ 0) (n2 := ρ 1) (n3 := ρ 2) (n4 := ρ 3) (n5 := ρ 5) (n6 := ρ 25) (n7 := ρ 20) (n8 := ρ 24) (H0 := η 0) (H1 := η 1) (H2 := η 8) f5 f4 f3 f2 f1 f0
theorem c_72_6_8 {q0 : Nat} : vOkm T0 (eP e_72 L_72 A_72 mu_72 (some q0)) 1 ([(10, [27, 4], [], 1), (45, [4, 5], [], 0), (0, [5], [], 16), (5000, [0, 1, 2, 3, 4], [0, 1], 6), (90, [4], [], -2147483648), (91, [4], [], 2147483647)], (4000, [1, 20, 26, 27], [9], 6)) := vOk_inI fun ρ η f0 f1 f2 f3 f4 f5 => q_72_2 (q0 := q0) (n0 := ρ 4) (n1 := ρ 0) (n2 := ρ 1) (n3 := ρ 2) (n4 := ρ 3) (n5 := ρ 5) (n6 := ρ 27) (n7 := ρ 20) (n8 := ρ 26) (H0 := η 0) (H1 := η 1) (H2 := η 9) f5 f4 f3 f2 f1 f0
theorem c_72_6_9 {q0 : Nat} : vOkm T0 (eP e_72 L_72 A_72 mu_72 (some q0)) 1 ([(10, [25, 4], [], 1), (45, [4, 5], [], 0), (0, [5], [], 16), (5000, [0, 1, 2, 3, 4], [0, 1], 6), (90, [4], [], -2147483648), (91, [4], [], 2147483647)], (4000, [1, 20, 24, 25], [8], 6)) := vOk_inI fun ρ η f0 f1 f2 f3 f4 f5 => q_72_2 (q0 := q0) (n0 := ρ 4) (n1 := ρ 0) (n2 := ρ 1) (n3 := ρ 2) (n4 := ρ 3) (n5 := ρ 5) (n6 := ρ 25) (n7 := ρ 20) (n8 := ρ 24) (H0 := η 0) (H1 := η 1) (H2 := η 8) f5 f4 f3 f2 f1 f0
theorem c_72_6_10 {q0 : Nat} : vOkm T0 (eP e_72 L_72 A_72 mu_72 (some q0)) 1 ([(10, [27, 4], [], 1), (45, [4, 5], [], 0), (0, [5], [], 16), (5000, [0, 1, 2, 3, 4], [0, 1], 6), (90, [4], [], -2147483648), (91, [4], [], 2147483647)], (4000, [1, 20, 26, 27], [9], 6)) := vOk_inI fun ρ η f0 f1 f2 f3 f4 f5 => q_72_2 (q0 := q0) (n0 := ρ 4) (n1 := ρ 0) (n2 := ρ 1) (n3 := ρ 2) (n4 := ρ 3) (n5 := ρ 5) (n6 := ρ 27) (n7 := ρ 20) (n8 := ρ 26) (H0 := η 0) (H1 := η 1) (H2 := η 9) f5 f4 f3 f2 f1 f0
theorem c_72_6_11 {q0 : Nat} : vOkm T0 (eP e_72 L_72 A_72 mu_72 (some q0)) 1 ([(10, [25, 4], [], 1), (45, [4, 5], [], 0), (0, [5], [], 16), (5000, [0, 1, 2, 3, 4], [0, 1], 6), (90, [4], [], -2147483648), (91, [4], [], 2147483647)], (4000, [1, 20, 24, 25], [8], 6)) := vOk_inI fun ρ η f0 f1 f2 f3 f4 f5 => q_72_2 (q0 := q0) (n0 := ρ 4) (n1 := ρ 0) (n2 := ρ 1) (n3 := ρ 2) (n4 := ρ 3) (n5 := ρ 5) (n6 := ρ 25) (n7 := ρ 20) (n8 := ρ 24) (H0 := η 0) (H1 := η 1) (H2 := η 8) f5 f4 f3 f2 f1 f0
theorem c_72_6_12 {q0 : Nat} : vOkm T0 (eP e_72 L_72 A_72 mu_72 (some q0)) 1 ([(10, [27, 4], [], 1), (45, [4, 5], [], 0), (0, [5], [], 16), (5000, [0, 1, 2, 3, 4], [0, 1], 6), (90, [4], [], -2147483648), (91, [4], [], 2147483647)], (4000, [1, 20, 26, 27], [9], 6)) := vOk_inI fun ρ η f0 f1 f2 f3 f4 f5 => q_72_2 (q0 := q0) (n0 := ρ 4) (n1 := ρ 0) (n2 := ρ 1) (n3 := ρ 2) (n4 := ρ 3) (n5 := ρ 5) (n6 := ρ 27) (n7 := ρ 20) (n8 := ρ 26) (H0 := η 0) (H1 := η 1) (H2 := η 9) f5 f4 f3 f2 f1 f0
theorem c_72_6_13 {q0 : Nat} : vOkm T0 (eP e_72 L_72 A_72 mu_72 (some q0)) 1 ([(10, [29, 4], [], 1), (45, [4, 5], [], 0), (0, [5], [], 16), (5000, [0, 1, 2, 3, 4], [0, 1], 6), (90, [4], [], -2147483648), (91, [4], [], 2147483647)], (4000, [1, 24, 28, 29], [9], 6)) := vOk_inI fun ρ η f0 f1 f2 f3 f4 f5 => q_72_2 (q0 := q0) (n0 := ρ 4) (n1 := ρ 0) (n2 := ρ 1) (n3 := ρ 2) (n4 := ρ 3) (n5 := ρ 5) (n6 := ρ 29) (n7 := ρ 24) (n8 := ρ 28) (H0 := η 0) (H1 := η 1) (H2 := η 9) f5 f4 f3 f2 f1 f0
theorem c_72_6_14 {q0 : Nat} : vOkm T0 (eP e_72 L_72 A_72 mu_72 (some q0)) 1 ([(10, [31, 4], [], 1), (45, [4, 5], [], 0), (0, [5], [], 16), (5000, [0, 1, 2, 3, 4], [0, 1], 6), (90, [4], [], -2147483648), (91, [4], [], 2147483647)], (4000, [1, 24, 30, 31], [10], 6)) := vOk_inI fun ρ η f0 f1 f2 f3 f4 f5 => q_72_2 (q0 := q0) (n0 := ρ 4) (n1 := ρ 0) (n2 := ρ 1) (n3 := ρ 2) (n4 := ρ 3) (n5 := ρ 5) (n6 := ρ 31) (n7 := ρ 24) (n8 := ρ 30) (H0 := η 0) (H1 := η 1) (H2 := η 10) f5 f4 f3 f2 f1 f0
def p_72_6 : List vG := [([(10, [12, 4], [], 1), (45, [4, 5], [], 0), (0, [5], [], 16), (5000, [0, 1, 2, 3, 4], [0, 1], 6), (90, [4], [], -2147483648), (91, [4], [], 2147483647)], (4000, [1, 2, 3, 12], [4], 6)),
  ([(10, [25, 4], [], 1), (45, [4, 5], [], 0), (0, [5], [], 16), (5000, [0, 1, 2, 3, 4], [0, 1], 6), (90, [4], [], -2147483648), (91, [4], [], 2147483647)], (4000, [1, 20, 24, 25], [8], 6)),
  ([(10, [27, 4], [], 1), (45, [4, 5], [], 0), (0, [5], [], 16), (5000, [0, 1, 2, 3, 4], [0, 1], 6), (90, [4], [], -2147483648), (91, [4], [], 2147483647)], (4000, [1, 20, 26, 27], [9], 6)),
  ([(10, [25, 4], [], 1), (45, [4, 5], [], 0), (0, [5], [], 16), (5000, [0, 1, 2, 3, 4], [0, 1], 6), (90, [4], [], -2147483648), (91, [4], [], 2147483647)], (4000, [1, 20, 24, 25], [8], 6)),
  ([(10, [27, 4], [], 1), (45, [4, 5], [], 0), (0, [5], [], 16), (5000, [0, 1, 2, 3, 4], [0, 1], 6), (90, [4], [], -2147483648), (91, [4], [], 2147483647)], (4000, [1, 20, 26, 27], [9], 6)),
  ([(10, [25, 4], [], 1), (45, [4, 5], [], 0), (0, [5], [], 16), (5000, [0, 1, 2, 3, 4], [0, 1], 6), (90, [4], [], -2147483648), (91, [4], [], 2147483647)], (4000, [1, 20, 24, 25], [8], 6)),
  ([(10, [27, 4], [], 1), (45, [4, 5], [], 0), (0, [5], [], 16), (5000, [0, 1, 2, 3, 4], [0, 1], 6), (90, [4], [], -2147483648), (91, [4], [], 2147483647)], (4000, [1, 20, 26, 27], [9], 6)),
  ([(10, [25, 4], [], 1), (45, [4, 5], [], 0), (0, [5], [], 16), (5000, [0, 1, 2, 3, 4], [0, 1], 6), (90, [4], [], -2147483648), (91, [4], [], 2147483647)], (4000, [1, 20, 24, 25], [8], 6)),
  ([(10, [27, 4], [], 1), (45, [4, 5], [], 0), (0, [5], [], 16), (5000, [0, 1, 2, 3, 4], [0, 1], 6), (90, [4], [], -2147483648), (91, [4], [], 2147483647)], (4000, [1, 20, 26, 27], [9], 6)),
  ([(10, [25, 4], [], 1), (45, [4, 5], [], 0), (0, [5], [], 16), (5000, [0, 1, 2, 3, 4], [0, 1], 6), (90, [4], [], -2147483648), (91, [4], [], 2147483647)], (4000, [1, 20, 24, 25], [8], 6)),
  ([(10, [27, 4], [], 1), (45, [4, 5], [], 0), (0, [5], [], 16), (5000, [0, 1, 2, 3, 4], [0, 1], 6), (90, [4], [], -2147483648), (91, [4], [], 2147483647)], (4000, [1, 20, 26, 27], [9], 6)),
  ([(10, [25, 4], [], 1), (45, [4, 5], [], 0), (0, [5], [], 16), (5000, [0, 1, 2, 3, 4], [0, 1], 6), (90, [4], [], -2147483648), (91, [4], [], 2147483647)], (4000, [1, 20, 24, 25], [8], 6)),
  ([(10, [27, 4], [], 1), (45, [4, 5], [], 0), (0, [5], [], 16), (5000, [0, 1, 2, 3, 4], [0, 1], 6), (90, [4], [], -2147483648), (91, [4], [], 2147483647)], (4000, [1, 20, 26, 27], [9], 6)),
  ([(10, [29, 4], [], 1), (45, [4, 5], [], 0), (0, [5], [], 16), (5000, [0, 1, 2, 3, 4], [0, 1], 6), (90, [4], [], -2147483648), (91, [4], [], 2147483647)], (4000, [1, 24, 28, 29], [9], 6)),
  ([(10, [31, 4], [], 1), (45, [4, 5], [], 0), (0, [5], [], 16), (5000, [0, 1, 2, 3, 4], [0, 1], 6), (90, [4], [], -2147483648), (91, [4], [], 2147483647)], (4000, [1, 24, 30, 31], [10], 6))]
theorem r_72_6 : vCovO true (eRc e_72 L_72 cs_72 2000 (6, [(0, (3, 4, 30, 0)), (1, (0, -2147483648, 2147483647, 0)), (2, (0, -2147483648, 2147483647, 0)), (3, (0, -2147483648, 2147483647, 0))])) p_72_6 = true := by decide +kernel
theorem m_72 (d : Nat) : eC e_72 (d + 6) := eC_ok (e := e_72) (L := L_72) (cs := cs_72) (n := 2000) (d := d + 5) (A := A_72) (μ := mu_72) (tp := true) (p0 := p_72_s) rfl ⟨m_24 (d + 4), ⟨m_64 (d + 4), ⟨m_66 (d + 3), ⟨m_67 (d + 2), ⟨m_73 (d + 4), ⟨m_74 (d + 4), ⟨m_75 d, ⟨m_76 d, ⟨m_77 (d + 1), ⟨m_78 d, ⟨m_80 d, ⟨m_124 (d + 3), ⟨m_199k740 (d + 4), ⟨m_201k740 (d + 4), trivial⟩⟩⟩⟩⟩⟩⟩⟩⟩⟩⟩⟩⟩⟩ rfl (.inr pre0_ok) (by decide +kernel) (fun _ => post0_ok) r_72_s (allC c_72_s_0 allN) (allC (.inl ⟨p_72_6, r_72_6, fun q0 => (allC c_72_6_0 (allC c_72_6_1 (allC c_72_6_2 (allC c_72_6_3 (allC c_72_6_4 (allC c_72_6_5 (allC c_72_6_6 (allC c_72_6_7 (allC c_72_6_8 (allC c_72_6_9 (allC c_72_6_10 (allC c_72_6_11 (allC c_72_6_12 (allC c_72_6_13 (allC c_72_6_14 allN)))))))))))))))⟩) allN)
/- Reader.endBlock ()V -/
noncomputable def s_69 : vM := ([(3, 4, 30, 0)], (9, 0, 0, 0), 0, 0, [(4, 1), (4, 2), (4, 3), (4, 4), (4, 13)])
noncomputable def e_69 : vE := (69, s_69, pre0, post0)
noncomputable def L_69 : List vE := [e_66]
def cs_69 : List vC := []
def A_69 : Int → List Int → gH → gH → Prop := fun c xs h0 h => True
def mu_69 : Int → List Int → gH → gH → Nat := fun c xs h0 h => 0
def p_69_s : List vG := []
theorem r_69_s : vCovO true (eR0 e_69 L_69 cs_69 2000) p_69_s = true := by decide +kernel
theorem m_69 (d : Nat) : eC e_69 (d + 3) := eC_ok (e := e_69) (L := L_69) (cs := cs_69) (n := 2000) (d := d + 2) (A := A_69) (μ := mu_69) (tp := true) (p0 := p_69_s) rfl ⟨m_66 d, trivial⟩ rfl (.inr pre0_ok) (by decide +kernel) (fun _ => post0_ok) r_69_s allN allN
/- Rules.empty ()V -/
noncomputable def s_97 : vM := ([(3, 5, -1, 0)], (9, 0, 0, 0), 0, 0, [(5, 0), (5, 2)])
noncomputable def e_97 : vE := (97, s_97, pre0, post0)
noncomputable def L_97 : List vE := []
def cs_97 : List vC := []
def A_97 : Int → List Int → gH → gH → Prop := fun c xs h0 h => True
def mu_97 : Int → List Int → gH → gH → Nat := fun c xs h0 h => 0
def p_97_s : List vG := []
theorem r_97_s : vCovO true (eR0 e_97 L_97 cs_97 2000) p_97_s = true := by decide +kernel
theorem m_97 (d : Nat) : eC e_97 (d + 1) := eC_ok (e := e_97) (L := L_97) (cs := cs_97) (n := 2000) (d := d + 0) (A := A_97) (μ := mu_97) (tp := true) (p0 := p_97_s) rfl trivial rfl (.inr pre0_ok) (by decide +kernel) (fun _ => post0_ok) r_97_s allN allN
/- Reader.isRule (I)Z -/
noncomputable def s_85 : vM := ([(0, -2147483648, 2147483647, 0)], (0, 0, 1, 0), 0, 0, [])
noncomputable def e_85 : vE := (85, s_85, pre0, post0)
noncomputable def L_85 : List vE := []
def cs_85 : List vC := []
def A_85 : Int → List Int → gH → gH → Prop := fun c xs h0 h => True
def mu_85 : Int → List Int → gH → gH → Nat := fun c xs h0 h => 0
def p_85_s : List vG := []
theorem r_85_s : vCovO true (eR0 e_85 L_85 cs_85 2000) p_85_s = true := by decide +kernel
theorem m_85 (d : Nat) : eC e_85 (d + 1) := eC_ok (e := e_85) (L := L_85) (cs := cs_85) (n := 2000) (d := d + 0) (A := A_85) (μ := mu_85) (tp := true) (p0 := p_85_s) rfl trivial rfl (.inr pre0_ok) (by decide +kernel) (fun _ => post0_ok) r_85_s allN allN
/- Rules.beginRule ()V -/
noncomputable def s_99 : vM := ([(3, 5, -1, 0)], (9, 0, 0, 0), 0, 0, [(100, 0)])
noncomputable def e_99 : vE := (99, s_99, pre0, post0)
noncomputable def L_99 : List vE := [e_201k100]
def cs_99 : List vC := []
def A_99 : Int → List Int → gH → gH → Prop := fun c xs h0 h => True
def mu_99 : Int → List Int → gH → gH → Nat := fun c xs h0 h => 0
def p_99_s : List vG := []
theorem r_99_s : vCovO true (eR0 e_99 L_99 cs_99 2000) p_99_s = true := by decide +kernel
theorem m_99 (d : Nat) : eC e_99 (d + 2) := eC_ok (e := e_99) (L := L_99) (cs := cs_99) (n := 2000) (d := d + 1) (A := A_99) (μ := mu_99) (tp := true) (p0 := p_99_s) rfl ⟨m_201k100 d, trivial⟩ rfl (.inr pre0_ok) (by decide +kernel) (fun _ => post0_ok) r_99_s allN allN
/- Reader.hold (I)V -/
noncomputable def s_94 : vM := ([(3, 4, 30, 0), (0, -2147483648, 2147483647, 0)], (9, 0, 0, 0), 0, 0, [(4, 15), (740, 0)])
noncomputable def e_94 : vE := (94, s_94, pre0, post0)
noncomputable def L_94 : List vE := [e_201k740]
def cs_94 : List vC := []
def A_94 : Int → List Int → gH → gH → Prop := fun c xs h0 h => True
def mu_94 : Int → List Int → gH → gH → Nat := fun c xs h0 h => 0
def p_94_s : List vG := []
theorem r_94_s : vCovO true (eR0 e_94 L_94 cs_94 2000) p_94_s = true := by decide +kernel
theorem m_94 (d : Nat) : eC e_94 (d + 2) := eC_ok (e := e_94) (L := L_94) (cs := cs_94) (n := 2000) (d := d + 1) (A := A_94) (μ := mu_94) (tp := true) (p0 := p_94_s) rfl ⟨m_201k740 d, trivial⟩ rfl (.inr pre0_ok) (by decide +kernel) (fun _ => post0_ok) r_94_s allN allN
/- Rules.emit (I)V -/
noncomputable def s_98 : vM := ([(3, 5, -1, 0), (0, -2147483648, 2147483647, 0)], (9, 0, 0, 0), 0, 0, [(5, 2), (100, 0)])
noncomputable def e_98 : vE := (98, s_98, pre0, post0)
noncomputable def L_98 : List vE := []
def cs_98 : List vC := []
def A_98 : Int → List Int → gH → gH → Prop := fun c xs h0 h => True
def mu_98 : Int → List Int → gH → gH → Nat := fun c xs h0 h => 0
theorem q_98_0 {n0 n1 n2 n3 n4 n5 n6 n7 : Int} {H0 : gH} (f0 : n0 ≤ 2147483647) (f1 : (-2147483648) ≤ n0) (f2 : 0 ≤ n1) (f3 : hWt T0 H0 ∧ True) (f4 : n2 ≤ 2147483647) (f5 : (-2147483648) ≤ n2) (f6 : hK H0 (n1).toNat = 5) (f7 : n2 = hV H0 (n1).toNat 2) (f8 : 0 ≤ n2) (f9 : n3 ≤ 2147483647) (f10 : (-2147483648) ≤ n3) (f11 : hK H0 (n1).toNat = 5) (f12 : n3 = hV H0 (n1).toNat 2) (f13 : 0 ≤ n4) (f14 : hK H0 (n1).toNat = 5) (f15 : n4 = hV H0 (n1).toNat 1) (f16 : n5 = (hN H0 (n4).toNat : Int)) (f17 : n5 = 1000) (f18 : n3 < n5) (f19 : 0 ≤ n6) (f20 : hK H0 (n1).toNat = 5) (f21 : n6 = hV H0 (n1).toNat 1) (f22 : n7 ≤ 2147483647) (f23 : (-2147483648) ≤ n7) (f24 : hK H0 (n1).toNat = 5) (f25 : n7 = hV H0 (n1).toNat 2) : 0 ≤ n7 ∧ n7 < 1000 := by
  have e0 : n2 = hV H0 (n1).toNat 2 := f7
  have e1 : n3 = hV H0 (n1).toNat 2 := f12
  have e2 : n4 = hV H0 (n1).toNat 1 := f15
  have e3 : n6 = hV H0 (n1).toNat 1 := f21
  have e4 : n7 = hV H0 (n1).toNat 2 := f25
  omega
theorem c_98_s_0 : vOkm T0 (eP e_98 L_98 A_98 mu_98 none) 2 ([(20, [7, 0], [0], 2), (23, [0], [0], 5), (90, [7], [], -2147483648), (91, [7], [], 2147483647), (20, [6, 0], [0], 1), (23, [0], [0], 5), (51, [6], [], 0), (42, [3, 5], [], 0), (0, [5], [], 1000), (21, [5, 4], [0], 0), (20, [4, 0], [0], 1), (23, [0], [0], 5), (51, [4], [], 0), (20, [3, 0], [0], 2), (23, [0], [0], 5), (90, [3], [], -2147483648), (91, [3], [], 2147483647), (33, [2], [], 0), (20, [2, 0], [0], 2), (23, [0], [0], 5), (90, [2], [], -2147483648), (91, [2], [], 2147483647), (6000, [0, 1], [0], 0), (51, [0], [], 0), (90, [1], [], -2147483648), (91, [1], [], 2147483647)], (70, [7], [], 1000)) := vOk_inI fun ρ η f0 f1 f2 f3 f4 f5 f6 f7 f8 f9 f10 f11 f12 f13 f14 f15 f16 f17 f18 f19 f20 f21 f22 f23 f24 f25 => q_98_0 (n0 := ρ 1) (n1 := ρ 0) (n2 := ρ 2) (n3 := ρ 3) (n4 := ρ 4) (n5 := ρ 5) (n6 := ρ 6) (n7 := ρ 7) (H0 := η 0) f25 f24 f23 f22 f21 f20 f19 f18 f17 f16 f15 f14 f13 f12 f11 f10 f9 f8 f7 f6 f5 f4 f3 f2 f1 f0
def p_98_s : List vG := [([(20, [7, 0], [0], 2), (23, [0], [0], 5), (90, [7], [], -2147483648), (91, [7], [], 2147483647), (20, [6, 0], [0], 1), (23, [0], [0], 5), (51, [6], [], 0), (42, [3, 5], [], 0), (0, [5], [], 1000), (21, [5, 4], [0], 0), (20, [4, 0], [0], 1), (23, [0], [0], 5), (51, [4], [], 0), (20, [3, 0], [0], 2), (23, [0], [0], 5), (90, [3], [], -2147483648), (91, [3], [], 2147483647), (33, [2], [], 0), (20, [2, 0], [0], 2), (23, [0], [0], 5), (90, [2], [], -2147483648), (91, [2], [], 2147483647), (6000, [0, 1], [0], 0), (51, [0], [], 0), (90, [1], [], -2147483648), (91, [1], [], 2147483647)], (70, [7], [], 1000))]
theorem r_98_s : vCovO true (eR0 e_98 L_98 cs_98 2000) p_98_s = true := by decide +kernel
theorem m_98 (d : Nat) : eC e_98 (d + 1) := eC_ok (e := e_98) (L := L_98) (cs := cs_98) (n := 2000) (d := d + 0) (A := A_98) (μ := mu_98) (tp := true) (p0 := p_98_s) rfl trivial rfl (.inr pre0_ok) (by decide +kernel) (fun _ => post0_ok) r_98_s (allC c_98_s_0 allN) allN
/- Reader.rank (I)I -/
noncomputable def s_93 : vM := ([(0, -2147483648, 2147483647, 0)], (0, -2147483648, 2147483647, 0), 0, 0, [])
noncomputable def e_93 : vE := (93, s_93, pre0, post0)
noncomputable def L_93 : List vE := []
def cs_93 : List vC := []
def A_93 : Int → List Int → gH → gH → Prop := fun c xs h0 h => True
def mu_93 : Int → List Int → gH → gH → Nat := fun c xs h0 h => 0
def p_93_s : List vG := []
theorem r_93_s : vCovO true (eR0 e_93 L_93 cs_93 2000) p_93_s = true := by decide +kernel
theorem m_93 (d : Nat) : eC e_93 (d + 1) := eC_ok (e := e_93) (L := L_93) (cs := cs_93) (n := 2000) (d := d + 0) (A := A_93) (μ := mu_93) (tp := true) (p0 := p_93_s) rfl trivial rfl (.inr pre0_ok) (by decide +kernel) (fun _ => post0_ok) r_93_s allN allN
/- Reader.release (I)V -/
noncomputable def s_95 : vM := ([(3, 4, 30, 0), (0, -2147483648, 2147483647, 0)], (9, 0, 0, 0), 0, 0, [(4, 15), (5, 2), (100, 0)])
noncomputable def e_95 : vE := (95, s_95, pre0, post0)
noncomputable def L_95 : List vE := [e_93, e_98, e_199k740]
def cs_95 : List vC := [(0, [(0, (3, 4, 30, 0)), (1, (0, -2147483648, 2147483647, 0))])]
def mub_95_0 (a0 a1 x0 x1 : Int) (h0 h : gH) : Nat := (hV h 30 15).toNat
def A_95 : Int → List Int → gH → gH → Prop := fun c xs h0 h => True
def mu_95 : Int → List Int → gH → gH → Nat := fun c xs h0 h => match c.toNat with
  | 0 => (match xs with
    | [a0, a1, x0, x1] => mub_95_0 a0 a1 x0 x1 h0 h
    | _ => 0)
  | _ => 0
theorem q_95_0 {n0 n1 : Int} {H0 H1 : gH}  : True ∧ ∀ q, none = some q → mub_95_0 n0 n1 n0 n1 H0 H1 < q := by
  exact ⟨trivial, fun q hq => nomatch hq⟩
theorem c_95_s_0 : vOkm T0 (eP e_95 L_95 A_95 mu_95 none) 2 ([], (4000, [0, 1], [5], 0)) := vOk_inI fun ρ η => q_95_0 (n0 := ρ 0) (n1 := ρ 1) (H0 := η 0) (H1 := η 5)
def p_95_s : List vG := [([], (4000, [0, 1], [5], 0))]
theorem r_95_s : vCovO true (eR0 e_95 L_95 cs_95 2000) p_95_s = true := by decide +kernel
theorem kF_95_30_14 : vFree s_95.2.2.2.2 30 14 = true := by decide +kernel
theorem kF_93_30_15 : vFree s_93.2.2.2.2 30 15 = true := by decide +kernel
theorem kF_199k740_30_15 : vFree s_199k740.2.2.2.2 30 15 = true := by decide +kernel
theorem kF_93_30_8 : vFree s_93.2.2.2.2 30 8 = true := by decide +kernel
theorem kF_199k740_30_8 : vFree s_199k740.2.2.2.2 30 8 = true := by decide +kernel
theorem kF_95_30_8 : vFree s_95.2.2.2.2 30 8 = true := by decide +kernel
theorem kF_93_30_14 : vFree s_93.2.2.2.2 30 14 = true := by decide +kernel
theorem kF_199k740_30_14 : vFree s_199k740.2.2.2.2 30 14 = true := by decide +kernel
theorem kF_98_30_15 : vFree s_98.2.2.2.2 30 15 = true := by decide +kernel
theorem q_95_1 {q0 : Nat} {n0 n1 n2 n3 n4 n5 n6 n7 n8 n9 n10 n11 n12 n13 n14 n15 n16 n17 n18 n19 n20 : Int} {H0 H1 H2 H3 H4 H5 H6 : gH} (f0 : n0 ≤ 2147483647) (f1 : (-2147483648) ≤ n0) (f2 : n1 = 30) (f3 : n2 ≤ 2147483647) (f4 : (-2147483648) ≤ n2) (f5 : n3 = 30) (f6 : (hLe T0 H0 H1 ∧ hFr s_95.2.2.2.2 H0 H1 ∧ hWt T0 H1) ∧ (True ∧ True) ∧ some q0 = some (mub_95_0 n3 n2 n1 n0 H0 H1)) (f7 : n4 ≤ 2147483647) (f8 : (-2147483648) ≤ n4) (f9 : n4 = hV H1 (n1).toNat 15) (f10 : 0 < n4) (f11 : n5 = 49) (f12 : n5 = hV H1 (n1).toNat 14) (f13 : n6 ≤ 2147483647) (f14 : (-2147483648) ≤ n6) (f15 : n6 = hV H1 (n1).toNat 15) (f16 : n7 = 1) (f17 : n8 = w32 (n6 - n7)) (f18 : n9 ≤ 2147483647) (f19 : (-2147483648) ≤ n9) (f20 : (hLe T0 H1 H2 ∧ hFr s_199k740.2.2.2.2 H1 H2 ∧ ((0 : Int) = 0 → H2.length = H1.length) ∧ hWt T0 H2) ∧ True) (f21 : n10 ≤ 2147483647) (f22 : (-2147483648) ≤ n10) (f23 : (hLe T0 H2 H3 ∧ hFr s_93.2.2.2.2 H2 H3 ∧ ((0 : Int) = 0 → H3.length = H2.length) ∧ hWt T0 H3) ∧ True) (f24 : n0 ≤ n10) (f25 : n11 ≤ 2147483647) (f26 : (-2147483648) ≤ n11) (f27 : n11 = hV H3 (n1).toNat 15) (f28 : n12 = 1) (f29 : n13 = w32 (n11 - n12)) (f30 : n14 = 15) (f31 : hUpd H4 H3 n1 n14 n13) (f32 : 0 ≤ n15) (f33 : n15 = hV H4 (n1).toNat 8) (f34 : n16 = 10000) (f35 : n17 = 49) (f36 : n17 = hV H4 (n1).toNat 14) (f37 : n18 ≤ 2147483647) (f38 : (-2147483648) ≤ n18) (f39 : n18 = hV H4 (n1).toNat 15) (f40 : n19 ≤ 2147483647) (f41 : (-2147483648) ≤ n19) (f42 : (hLe T0 H4 H5 ∧ hFr s_199k740.2.2.2.2 H4 H5 ∧ ((0 : Int) = 0 → H5.length = H4.length) ∧ hWt T0 H5) ∧ True) (f43 : n20 = w32 (n16 + n19)) (f44 : (hLe T0 H5 H6 ∧ hFr s_98.2.2.2.2 H5 H6 ∧ ((0 : Int) = 0 → H6.length = H5.length) ∧ hWt T0 H6) ∧ True) : True ∧ ∀ q, some q0 = some q → mub_95_0 n3 n2 n1 n0 H0 H6 < q := by
  have g5 := Option.some.inj f6.2.2
  unfold mub_95_0 at g5
  unfold mub_95_0
  have e0 : n4 = hV H1 30 15 := (by rw [f2] at f9; exact f9 : n4 = hV H1 30 15)
  have e1 : hV H1 30 14 = hV H0 30 14 := f6.1.2.1.1 30 14 kF_95_30_14
  have e2 : n6 = hV H1 30 15 := (by rw [f2] at f15; exact f15 : n6 = hV H1 30 15)
  have e5 : n11 = hV H1 30 15 := (by rw [f2] at f27; exact f27 : n11 = hV H3 30 15).trans (((f23.1.2.1.1 30 15 kF_93_30_15)).trans (f20.1.2.1.1 30 15 kF_199k740_30_15))
  have e10 : n15 = hV H0 30 8 := (by rw [f2] at f33; exact f33 : n15 = hV H4 30 8).trans (((uSlot f31 30 8 (iS (show n14 = ((15 : Nat) : Int) from f30) rfl))).trans (((f23.1.2.1.1 30 8 kF_93_30_8)).trans (((f20.1.2.1.1 30 8 kF_199k740_30_8)).trans (f6.1.2.1.1 30 8 kF_95_30_8))))
  have e11 : hV H4 30 14 = hV H3 30 14 := uSlot f31 30 14 (iS (show n14 = ((15 : Nat) : Int) from f30) rfl)
  have e12 : hV H3 30 14 = hV H2 30 14 := f23.1.2.1.1 30 14 kF_93_30_14
  have e13 : hV H2 30 14 = hV H1 30 14 := f20.1.2.1.1 30 14 kF_199k740_30_14
  have e15 : n18 = n13 := (by rw [f2] at f39; exact f39 : n18 = hV H4 30 15).trans ((uSame f31 30 15 f2.symm f30.symm))
  have e18 : hV H6 30 15 = n13 := ((f44.1.2.1.1 30 15 kF_98_30_15)).trans (((f42.1.2.1.1 30 15 kF_199k740_30_15)).trans (uSame f31 30 15 f2.symm f30.symm))
  try simp only [e18] at f6
  try simp only [e18]
  subst e0
  subst e2
  subst e5
  subst e10
  unfold w32 at f17 f29 f43
  refine ⟨?_, fun q hq => ?_⟩
  · trivial
  · have g6 := Option.some.inj hq
    subst g6
    omega
theorem c_95_0_0 {q0 : Nat} : vOkm T0 (eP e_95 L_95 A_95 mu_95 (some q0)) 2 ([(1098, [15, 20], [5, 6], 0), (1, [20, 16, 19], [], 0), (1199, [19, 17, 18], [4, 5], 0), (90, [19], [], -2147483648), (91, [19], [], 2147483647), (20, [18, 2], [4], 15), (90, [18], [], -2147483648), (91, [18], [], 2147483647), (20, [17, 2], [4], 14), (0, [17], [], 49), (0, [16], [], 10000), (20, [15, 2], [4], 8), (51, [15], [], 0), (80, [2, 14, 13], [4, 3], 0), (0, [14], [], 15), (2, [13, 11, 12], [], 0), (0, [12], [], 1), (20, [11, 2], [3], 15), (90, [11], [], -2147483648), (91, [11], [], 2147483647), (43, [10, 3], [], 0), (1093, [10, 9], [2, 3], 0), (90, [10], [], -2147483648), (91, [10], [], 2147483647), (1199, [9, 5, 8], [1, 2], 0), (90, [9], [], -2147483648), (91, [9], [], 2147483647), (2, [8, 6, 7], [], 0), (0, [7], [], 1), (20, [6, 2], [1], 15), (90, [6], [], -2147483648), (91, [6], [], 2147483647), (20, [5, 2], [1], 14), (0, [5], [], 49), (34, [4], [], 0), (20, [4, 2], [1], 15), (90, [4], [], -2147483648), (91, [4], [], 2147483647), (5000, [0, 1, 2, 3], [0, 1], 0), (0, [0], [], 30), (90, [1], [], -2147483648), (91, [1], [], 2147483647), (0, [2], [], 30), (90, [3], [], -2147483648), (91, [3], [], 2147483647)], (4000, [2, 3], [6], 0)) := vOk_inI fun ρ η f0 f1 f2 f3 f4 f5 f6 f7 f8 f9 f10 f11 f12 f13 f14 f15 f16 f17 f18 f19 f20 f21 f22 f23 f24 f25 f26 f27 f28 f29 f30 f31 f32 f33 f34 f35 f36 f37 f38 f39 f40 f41 f42 f43 f44 => q_95_1 (q0 := q0) (n0 := ρ 3) (n1 := ρ 2) (n2 := ρ 1) (n3 := ρ 0) (n4 := ρ 4) (n5 := ρ 5) (n6 := ρ 6) (n7 := ρ 7) (n8 := ρ 8) (n9 := ρ 9) (n10 := ρ 10) (n11 := ρ 11) (n12 := ρ 12) (n13 := ρ 13) (n14 := ρ 14) (n15 := ρ 15) (n16 := ρ 16) (n17 := ρ 17) (n18 := ρ 18) (n19 := ρ 19) (n20 := ρ 20) (H0 := η 0) (H1 := η 1) (H2 := η 2) (H3 := η 3) (H4 := η 4) (H5 := η 5) (H6 := η 6) f44 f43 f42 f41 f40 f39 f38 f37 f36 f35 f34 f33 f32 f31 f30 f29 f28 f27 f26 f25 f24 f23 f22 f21 f20 f19 f18 f17 f16 f15 f14 f13 f12 f11 f10 f9 f8 f7 f6 f5 f4 f3 f2 f1 f0
def p_95_0 : List vG := [([(1098, [15, 20], [5, 6], 0), (1, [20, 16, 19], [], 0), (1199, [19, 17, 18], [4, 5], 0), (90, [19], [], -2147483648), (91, [19], [], 2147483647), (20, [18, 2], [4], 15), (90, [18], [], -2147483648), (91, [18], [], 2147483647), (20, [17, 2], [4], 14), (0, [17], [], 49), (0, [16], [], 10000), (20, [15, 2], [4], 8), (51, [15], [], 0), (80, [2, 14, 13], [4, 3], 0), (0, [14], [], 15), (2, [13, 11, 12], [], 0), (0, [12], [], 1), (20, [11, 2], [3], 15), (90, [11], [], -2147483648), (91, [11], [], 2147483647), (43, [10, 3], [], 0), (1093, [10, 9], [2, 3], 0), (90, [10], [], -2147483648), (91, [10], [], 2147483647), (1199, [9, 5, 8], [1, 2], 0), (90, [9], [], -2147483648), (91, [9], [], 2147483647), (2, [8, 6, 7], [], 0), (0, [7], [], 1), (20, [6, 2], [1], 15), (90, [6], [], -2147483648), (91, [6], [], 2147483647), (20, [5, 2], [1], 14), (0, [5], [], 49), (34, [4], [], 0), (20, [4, 2], [1], 15), (90, [4], [], -2147483648), (91, [4], [], 2147483647), (5000, [0, 1, 2, 3], [0, 1], 0), (0, [0], [], 30), (90, [1], [], -2147483648), (91, [1], [], 2147483647), (0, [2], [], 30), (90, [3], [], -2147483648), (91, [3], [], 2147483647)], (4000, [2, 3], [6], 0))]
theorem r_95_0 : vCovO true (eRc e_95 L_95 cs_95 2000 (0, [(0, (3, 4, 30, 0)), (1, (0, -2147483648, 2147483647, 0))])) p_95_0 = true := by decide +kernel
theorem m_95 (d : Nat) : eC e_95 (d + 2) := eC_ok (e := e_95) (L := L_95) (cs := cs_95) (n := 2000) (d := d + 1) (A := A_95) (μ := mu_95) (tp := true) (p0 := p_95_s) rfl ⟨m_93 d, ⟨m_98 d, ⟨m_199k740 d, trivial⟩⟩⟩ rfl (.inr pre0_ok) (by decide +kernel) (fun _ => post0_ok) r_95_s (allC c_95_s_0 allN) (allC (.inl ⟨p_95_0, r_95_0, fun q0 => (allC c_95_0_0 allN)⟩) allN)
