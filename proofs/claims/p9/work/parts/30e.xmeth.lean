/-! CONTRACTS of methods (printed by wip/gen/emit.py). -/
/- Rules.endRight ()V -/
noncomputable def s_101 : vM := ([(3, 5, -1, 0)], (9, 0, 0, 0), 0, 0, [(5, 0), (100, 0)])
noncomputable def e_101 : vE := (101, s_101, pre0, post0)
noncomputable def L_101 : List vE := [e_201k100]
def cs_101 : List vC := []
def A_101 : Int → List Int → gH → gH → Prop := fun c xs h0 h => True
def mu_101 : Int → List Int → gH → gH → Nat := fun c xs h0 h => 0
def p_101_s : List vG := []
theorem r_101_s : vCovO true (eR0 e_101 L_101 cs_101 2000) p_101_s = true := by decide +kernel
theorem m_101 (d : Nat) : eC e_101 (d + 2) := eC_ok (e := e_101) (L := L_101) (cs := cs_101) (n := 2000) (d := d + 1) (A := A_101) (μ := mu_101) (tp := true) (p0 := p_101_s) rfl ⟨m_201k100 d, trivial⟩ rfl (.inr pre0_ok) (by decide +kernel) (fun _ => post0_ok) r_101_s allN allN
/- Reader.readRight ()V -/
noncomputable def s_87 : vM := ([(3, 4, 30, 0)], (9, 0, 0, 0), 0, 0, [(4, 1), (4, 2), (4, 3), (4, 4), (4, 15), (5, 0), (5, 2), (100, 0), (740, 0)])
noncomputable def e_87 : vE := (87, s_87, pre0, post0)
noncomputable def L_87 : List vE := [e_66, e_88, e_92, e_99, e_100, e_101]
def cs_87 : List vC := []
def A_87 : Int → List Int → gH → gH → Prop := fun c xs h0 h => True
def mu_87 : Int → List Int → gH → gH → Nat := fun c xs h0 h => 0
def p_87_s : List vG := []
theorem r_87_s : vCovO true (eR0 e_87 L_87 cs_87 2000) p_87_s = true := by decide +kernel
theorem m_87 (d : Nat) : eC e_87 (d + 5) := eC_ok (e := e_87) (L := L_87) (cs := cs_87) (n := 2000) (d := d + 4) (A := A_87) (μ := mu_87) (tp := true) (p0 := p_87_s) rfl ⟨m_66 (d + 2), ⟨m_88 d, ⟨m_92 (d + 1), ⟨m_99 (d + 2), ⟨m_100 (d + 2), ⟨m_101 (d + 2), trivial⟩⟩⟩⟩⟩⟩ rfl (.inr pre0_ok) (by decide +kernel) (fun _ => post0_ok) r_87_s allN allN
/- Rules.endLoud (II)V -/
noncomputable def s_102 : vM := ([(3, 5, -1, 0), (0, -2147483648, 2147483647, 0), (0, -2147483648, 2147483647, 0)], (9, 0, 0, 0), 0, 0, [(5, 0), (100, 0)])
noncomputable def e_102 : vE := (102, s_102, pre0, post0)
noncomputable def L_102 : List vE := [e_201k100]
def cs_102 : List vC := []
def A_102 : Int → List Int → gH → gH → Prop := fun c xs h0 h => True
def mu_102 : Int → List Int → gH → gH → Nat := fun c xs h0 h => 0
def p_102_s : List vG := []
theorem r_102_s : vCovO true (eR0 e_102 L_102 cs_102 2000) p_102_s = true := by decide +kernel
theorem m_102 (d : Nat) : eC e_102 (d + 2) := eC_ok (e := e_102) (L := L_102) (cs := cs_102) (n := 2000) (d := d + 1) (A := A_102) (μ := mu_102) (tp := true) (p0 := p_102_s) rfl ⟨m_201k100 d, trivial⟩ rfl (.inr pre0_ok) (by decide +kernel) (fun _ => post0_ok) r_102_s allN allN
/- Reader.readLoud ()V -/
noncomputable def s_86 : vM := ([(3, 4, 30, 0)], (9, 0, 0, 0), 0, 0, [(4, 1), (4, 2), (4, 3), (4, 4), (4, 5), (4, 6), (5, 0), (100, 0)])
noncomputable def e_86 : vE := (86, s_86, pre0, post0)
noncomputable def L_86 : List vE := [e_66, e_67, e_99, e_102]
def cs_86 : List vC := []
def A_86 : Int → List Int → gH → gH → Prop := fun c xs h0 h => True
def mu_86 : Int → List Int → gH → gH → Nat := fun c xs h0 h => 0
def p_86_s : List vG := []
theorem r_86_s : vCovO true (eR0 e_86 L_86 cs_86 2000) p_86_s = true := by decide +kernel
theorem m_86 (d : Nat) : eC e_86 (d + 4) := eC_ok (e := e_86) (L := L_86) (cs := cs_86) (n := 2000) (d := d + 3) (A := A_86) (μ := mu_86) (tp := true) (p0 := p_86_s) rfl ⟨m_66 (d + 1), ⟨m_67 d, ⟨m_99 (d + 1), ⟨m_102 (d + 1), trivial⟩⟩⟩⟩ rfl (.inr pre0_ok) (by decide +kernel) (fun _ => post0_ok) r_86_s allN allN
/- Reader.readRules ()V -/
noncomputable def s_84 : vM := ([(3, 4, 30, 0)], (9, 0, 0, 0), 0, 0, [(4, 1), (4, 2), (4, 3), (4, 4), (4, 5), (4, 6), (4, 15), (5, 0), (5, 2), (100, 0), (740, 0)])
noncomputable def e_84 : vE := (84, s_84, pre0, post0)
noncomputable def L_84 : List vE := [e_64, e_66, e_85, e_86, e_87, e_97]
def cs_84 : List vC := [(15, [(0, (3, 4, 30, 0)), (1, (0, -2147483648, 2147483647, 0))])]
def mub_84_15 (a0 x0 x1 : Int) (h0 h : gH) : Nat := (2147483648 - x1).toNat
def A_84 : Int → List Int → gH → gH → Prop := fun c xs h0 h => True
def mu_84 : Int → List Int → gH → gH → Nat := fun c xs h0 h => match c.toNat with
  | 15 => (match xs with
    | [a0, x0, x1] => mub_84_15 a0 x0 x1 h0 h
    | _ => 0)
  | _ => 0
theorem q_84_0 {n0 n1 : Int} {H0 H1 : gH}  : True ∧ ∀ q, none = some q → mub_84_15 n0 n0 n1 H0 H1 < q := by
  exact ⟨trivial, fun q hq => nomatch hq⟩
theorem c_84_s_0 : vOkm T0 (eP e_84 L_84 A_84 mu_84 none) 1 ([], (4000, [0, 3], [2], 15)) := vOk_inI fun ρ η => q_84_0 (n0 := ρ 0) (n1 := ρ 3) (H0 := η 0) (H1 := η 2)
def p_84_s : List vG := [([], (4000, [0, 3], [2], 15))]
theorem r_84_s : vCovO true (eR0 e_84 L_84 cs_84 2000) p_84_s = true := by decide +kernel
theorem q_84_1 {q0 : Nat} {n0 n1 n2 n3 n4 : Int} {H0 H1 H2 : gH} (f0 : n0 ≤ 2147483647) (f1 : (-2147483648) ≤ n0) (f2 : (hLe T0 H0 H1 ∧ hFr s_84.2.2.2.2 H0 H1 ∧ hWt T0 H1) ∧ (True ∧ True) ∧ some q0 = some (mub_84_15 n1 n2 n0 H0 H1)) (f3 : n3 = 12) (f4 : n0 ≤ n3) (f5 : n4 = w32 (n0 + 1)) : True ∧ ∀ q, some q0 = some q → mub_84_15 n1 n2 n4 H0 H2 < q := by
  have g5 := Option.some.inj f2.2.2
  unfold mub_84_15 at g5
  unfold mub_84_15
  unfold w32 at f5
  refine ⟨?_, fun q hq => ?_⟩
  · trivial
  · have g6 := Option.some.inj hq
    subst g6
    omega
theorem c_84_15_0 {q0 : Nat} : vOkm T0 (eP e_84 L_84 A_84 mu_84 (some q0)) 1 ([(10, [13, 2], [], 1), (45, [2, 3], [], 0), (0, [3], [], 12), (5000, [0, 1, 2], [0, 1], 15), (90, [2], [], -2147483648), (91, [2], [], 2147483647)], (4000, [1, 13], [4], 15)) := vOk_inI fun ρ η f0 f1 f2 f3 f4 f5 => q_84_1 (q0 := q0) (n0 := ρ 2) (n1 := ρ 0) (n2 := ρ 1) (n3 := ρ 3) (n4 := ρ 13) (H0 := η 0) (H1 := η 1) (H2 := η 4) f5 f4 f3 f2 f1 f0
theorem c_84_15_1 {q0 : Nat} : vOkm T0 (eP e_84 L_84 A_84 mu_84 (some q0)) 1 ([(10, [13, 2], [], 1), (45, [2, 3], [], 0), (0, [3], [], 12), (5000, [0, 1, 2], [0, 1], 15), (90, [2], [], -2147483648), (91, [2], [], 2147483647)], (4000, [1, 13], [4], 15)) := vOk_inI fun ρ η f0 f1 f2 f3 f4 f5 => q_84_1 (q0 := q0) (n0 := ρ 2) (n1 := ρ 0) (n2 := ρ 1) (n3 := ρ 3) (n4 := ρ 13) (H0 := η 0) (H1 := η 1) (H2 := η 4) f5 f4 f3 f2 f1 f0
theorem c_84_15_2 {q0 : Nat} : vOkm T0 (eP e_84 L_84 A_84 mu_84 (some q0)) 1 ([(10, [12, 2], [], 1), (45, [2, 3], [], 0), (0, [3], [], 12), (5000, [0, 1, 2], [0, 1], 15), (90, [2], [], -2147483648), (91, [2], [], 2147483647)], (4000, [1, 12], [4], 15)) := vOk_inI fun ρ η f0 f1 f2 f3 f4 f5 => q_84_1 (q0 := q0) (n0 := ρ 2) (n1 := ρ 0) (n2 := ρ 1) (n3 := ρ 3) (n4 := ρ 12) (H0 := η 0) (H1 := η 1) (H2 := η 4) f5 f4 f3 f2 f1 f0
def p_84_15 : List vG := [([(10, [13, 2], [], 1), (45, [2, 3], [], 0), (0, [3], [], 12), (5000, [0, 1, 2], [0, 1], 15), (90, [2], [], -2147483648), (91, [2], [], 2147483647)], (4000, [1, 13], [4], 15)),
  ([(10, [13, 2], [], 1), (45, [2, 3], [], 0), (0, [3], [], 12), (5000, [0, 1, 2], [0, 1], 15), (90, [2], [], -2147483648), (91, [2], [], 2147483647)], (4000, [1, 13], [4], 15)),
  ([(10, [12, 2], [], 1), (45, [2, 3], [], 0), (0, [3], [], 12), (5000, [0, 1, 2], [0, 1], 15), (90, [2], [], -2147483648), (91, [2], [], 2147483647)], (4000, [1, 12], [4], 15))]
theorem r_84_15 : vCovO true (eRc e_84 L_84 cs_84 2000 (15, [(0, (3, 4, 30, 0)), (1, (0, -2147483648, 2147483647, 0))])) p_84_15 = true := by decide +kernel
theorem m_84 (d : Nat) : eC e_84 (d + 6) := eC_ok (e := e_84) (L := L_84) (cs := cs_84) (n := 2000) (d := d + 5) (A := A_84) (μ := mu_84) (tp := true) (p0 := p_84_s) rfl ⟨m_64 (d + 4), ⟨m_66 (d + 3), ⟨m_85 (d + 4), ⟨m_86 (d + 1), ⟨m_87 d, ⟨m_97 (d + 4), trivial⟩⟩⟩⟩⟩⟩ rfl (.inr pre0_ok) (by decide +kernel) (fun _ => post0_ok) r_84_s (allC c_84_s_0 allN) (allC (.inl ⟨p_84_15, r_84_15, fun q0 => (allC c_84_15_0 (allC c_84_15_1 (allC c_84_15_2 allN)))⟩) allN)
/- Reader.endSheet (I)V -/
noncomputable def s_70 : vM := ([(3, 4, 30, 0), (0, -2147483648, 2147483647, 0)], (9, 0, 0, 0), 0, 0, [(4, 1), (4, 2), (4, 3), (4, 4), (4, 5), (4, 6)])
noncomputable def e_70 : vE := (70, s_70, pre0, post0)
noncomputable def L_70 : List vE := [e_65, e_66, e_199k740]
def cs_70 : List vC := []
def A_70 : Int → List Int → gH → gH → Prop := fun c xs h0 h => True
def mu_70 : Int → List Int → gH → gH → Nat := fun c xs h0 h => 0
def p_70_s : List vG := []
theorem r_70_s : vCovO true (eR0 e_70 L_70 cs_70 2000) p_70_s = true := by decide +kernel
theorem m_70 (d : Nat) : eC e_70 (d + 3) := eC_ok (e := e_70) (L := L_70) (cs := cs_70) (n := 2000) (d := d + 2) (A := A_70) (μ := mu_70) (tp := true) (p0 := p_70_s) rfl ⟨m_65 (d + 1), ⟨m_66 d, ⟨m_199k740 (d + 1), trivial⟩⟩⟩ rfl (.inr pre0_ok) (by decide +kernel) (fun _ => post0_ok) r_70_s allN allN
/- Reader.check ([II)I -/
noncomputable def s_60 : vM := ([(3, 4, 30, 0), (2, 692, -1, 0), (0, -2147483648, 2147483647, 0)], (0, -2147483648, 2147483647, 0), 0, 0, [(1, 0), (1, 1), (1, 2), (1, 3), (1, 4), (1, 5), (1, 6), (1, 7), (1, 8), (1, 9), (1, 10), (1, 11), (1, 12), (1, 13), (1, 14), (1, 15), (1, 16), (1, 18), (4, 1), (4, 2), (4, 3), (4, 4), (4, 5), (4, 6), (4, 7), (4, 13), (4, 15), (5, 0), (5, 2), (8, 4), (100, 0), (716, 0), (725, 0), (733, 0), (740, 0), (796, 0)])
noncomputable def e_60 : vE := (60, s_60, pre0, post0)
noncomputable def L_60 : List vE := [e_61, e_64, e_66, e_68, e_69, e_70, e_72, e_84, e_125]
def cs_60 : List vC := [(15, [(0, (3, 4, 30, 0)), (1, (2, 692, -1, 0)), (2, (0, -2147483648, 2147483647, 0)), (3, (0, -2147483648, 2147483647, 0))])]
def mub_60_15 (a0 a1 a2 x0 x1 x2 x3 : Int) (h0 h : gH) : Nat := (2147483648 - x3).toNat
def A_60 : Int → List Int → gH → gH → Prop := fun c xs h0 h => True
def mu_60 : Int → List Int → gH → gH → Nat := fun c xs h0 h => match c.toNat with
  | 15 => (match xs with
    | [a0, a1, a2, x0, x1, x2, x3] => mub_60_15 a0 a1 a2 x0 x1 x2 x3 h0 h
    | _ => 0)
  | _ => 0
theorem q_60_0 {n0 n1 n2 n3 : Int} {H0 H1 : gH}  : True ∧ ∀ q, none = some q → mub_60_15 n0 n1 n2 n0 n1 n2 n3 H0 H1 < q := by
  exact ⟨trivial, fun q hq => nomatch hq⟩
theorem c_60_s_0 : vOkm T0 (eP e_60 L_60 A_60 mu_60 none) 3 ([], (4000, [0, 1, 2, 4], [2], 15)) := vOk_inI fun ρ η => q_60_0 (n0 := ρ 0) (n1 := ρ 1) (n2 := ρ 2) (n3 := ρ 4) (H0 := η 0) (H1 := η 2)
def p_60_s : List vG := [([], (4000, [0, 1, 2, 4], [2], 15))]
theorem r_60_s : vCovO true (eR0 e_60 L_60 cs_60 2000) p_60_s = true := by decide +kernel
theorem q_60_1 {q0 : Nat} {n0 n1 n2 n3 n4 n5 n6 n7 n8 : Int} {H0 H1 H2 : gH} (f0 : n0 ≤ 2147483647) (f1 : (-2147483648) ≤ n0) (f2 : (hLe T0 H0 H1 ∧ hFr s_60.2.2.2.2 H0 H1 ∧ hWt T0 H1) ∧ (True ∧ True) ∧ some q0 = some (mub_60_15 n1 n2 n3 n4 n5 n6 n0 H0 H1)) (f3 : n7 = 6) (f4 : n0 ≤ n7) (f5 : n8 = w32 (n0 + 1)) : True ∧ ∀ q, some q0 = some q → mub_60_15 n1 n2 n3 n4 n5 n6 n8 H0 H2 < q := by
  have g5 := Option.some.inj f2.2.2
  unfold mub_60_15 at g5
  unfold mub_60_15
  unfold w32 at f5
  refine ⟨?_, fun q hq => ?_⟩
  · trivial
  · have g6 := Option.some.inj hq
    subst g6
    omega
theorem c_60_15_0 {q0 : Nat} : vOkm T0 (eP e_60 L_60 A_60 mu_60 (some q0)) 3 ([(10, [11, 6], [], 1), (45, [6, 7], [], 0), (0, [7], [], 6), (5000, [0, 1, 2, 3, 4, 5, 6], [0, 1], 15), (90, [6], [], -2147483648), (91, [6], [], 2147483647)], (4000, [3, 4, 5, 11], [4], 15)) := vOk_inI fun ρ η f0 f1 f2 f3 f4 f5 => q_60_1 (q0 := q0) (n0 := ρ 6) (n1 := ρ 0) (n2 := ρ 1) (n3 := ρ 2) (n4 := ρ 3) (n5 := ρ 4) (n6 := ρ 5) (n7 := ρ 7) (n8 := ρ 11) (H0 := η 0) (H1 := η 1) (H2 := η 4) f5 f4 f3 f2 f1 f0
def p_60_15 : List vG := [([(10, [11, 6], [], 1), (45, [6, 7], [], 0), (0, [7], [], 6), (5000, [0, 1, 2, 3, 4, 5, 6], [0, 1], 15), (90, [6], [], -2147483648), (91, [6], [], 2147483647)], (4000, [3, 4, 5, 11], [4], 15))]
theorem r_60_15 : vCovO true (eRc e_60 L_60 cs_60 2000 (15, [(0, (3, 4, 30, 0)), (1, (2, 692, -1, 0)), (2, (0, -2147483648, 2147483647, 0)), (3, (0, -2147483648, 2147483647, 0))])) p_60_15 = true := by decide +kernel
theorem m_60 (d : Nat) : eC e_60 (d + 7) := eC_ok (e := e_60) (L := L_60) (cs := cs_60) (n := 2000) (d := d + 6) (A := A_60) (μ := mu_60) (tp := true) (p0 := p_60_s) rfl ⟨m_61 (d + 4), ⟨m_64 (d + 5), ⟨m_66 (d + 4), ⟨m_68 (d + 3), ⟨m_69 (d + 3), ⟨m_70 (d + 3), ⟨m_72 d, ⟨m_84 d, ⟨m_125 (d + 1), trivial⟩⟩⟩⟩⟩⟩⟩⟩⟩ rfl (.inr pre0_ok) (by decide +kernel) (fun _ => post0_ok) r_60_s (allC c_60_s_0 allN) (allC (.inl ⟨p_60_15, r_60_15, fun q0 => (allC c_60_15_0 allN)⟩) allN)
/- Reader.placeOfFault ()I -/
noncomputable def s_62 : vM := ([(3, 4, 30, 0)], (0, -2147483648, 2147483647, 0), 0, 0, [])
noncomputable def e_62 : vE := (62, s_62, pre0, post0)
noncomputable def L_62 : List vE := [e_124]
def cs_62 : List vC := []
def A_62 : Int → List Int → gH → gH → Prop := fun c xs h0 h => True
def mu_62 : Int → List Int → gH → gH → Nat := fun c xs h0 h => 0
def p_62_s : List vG := []
theorem r_62_s : vCovO true (eR0 e_62 L_62 cs_62 2000) p_62_s = true := by decide +kernel
theorem m_62 (d : Nat) : eC e_62 (d + 3) := eC_ok (e := e_62) (L := L_62) (cs := cs_62) (n := 2000) (d := d + 2) (A := A_62) (μ := mu_62) (tp := true) (p0 := p_62_s) rfl ⟨m_124 d, trivial⟩ rfl (.inr pre0_ok) (by decide +kernel) (fun _ => post0_ok) r_62_s allN allN
/- Reader.exchange (LMixStage$Rules;)LMixStage$Rules; -/
noncomputable def s_63 : vM := ([(3, 4, 30, 0), (3, 5, -1, 0)], (3, 5, -1, 0), 0, 0, [(4, 8)])
noncomputable def e_63 : vE := (63, s_63, pre0, post0)
noncomputable def L_63 : List vE := []
def cs_63 : List vC := []
def A_63 : Int → List Int → gH → gH → Prop := fun c xs h0 h => True
def mu_63 : Int → List Int → gH → gH → Nat := fun c xs h0 h => 0
def p_63_s : List vG := []
theorem r_63_s : vCovO true (eR0 e_63 L_63 cs_63 2000) p_63_s = true := by decide +kernel
theorem m_63 (d : Nat) : eC e_63 (d + 1) := eC_ok (e := e_63) (L := L_63) (cs := cs_63) (n := 2000) (d := d + 0) (A := A_63) (μ := mu_63) (tp := true) (p0 := p_63_s) rfl trivial rfl (.inr pre0_ok) (by decide +kernel) (fun _ => post0_ok) r_63_s allN allN
/- Sheet.add (LMixStage$Cue;II)V -/
noncomputable def s_116 : vM := ([(3, 6, -1, 0), (3, 1, -1, 0), (0, -2147483648, 2147483647, 0), (0, -2147483648, 2147483647, 0)], (9, 0, 0, 0), 1, 1, [(1, 0), (1, 1), (1, 2), (1, 3), (1, 4), (1, 5), (1, 6), (1, 7), (1, 8), (1, 9), (1, 10), (1, 11), (1, 12), (1, 13), (1, 14), (1, 15), (1, 16), (1, 18), (6, 2), (6, 3), (6, 4), (106, 0), (796, 0)])
def preb_116 (a0 a1 a2 a3 : Int) (h : gH) : Prop := True
def pre_116 : List Int → gH → Prop := fun xs h => match xs with
  | [a0, a1, a2, a3] => preb_116 a0 a1 a2 a3 h
  | _ => False
def postb_116 (a0 a1 a2 a3 : Int) (h0 h : gH) : Prop := (h.length : Int) ≤ h0.length + 2 * (hV h (a0).toNat 2 - hV h0 (a0).toNat 2) ∧ hV h (a0).toNat 2 ≤ 40
def post_116 : List Int → gH → gH → Prop := fun xs h0 h => match xs with
  | [a0, a1, a2, a3] => postb_116 a0 a1 a2 a3 h0 h
  | _ => True
noncomputable def e_116 : vE := (116, s_116, pre_116, post_116)
noncomputable def L_116 : List vE := [e_23, e_25, e_26]
def cs_116 : List vC := [(20, [(0, (3, 6, -1, 0)), (1, (3, 1, -1, 0)), (2, (0, -2147483648, 2147483647, 0)), (3, (0, -2147483648, 2147483647, 0))]), (29, [(0, (3, 6, -1, 0)), (1, (3, 1, -1, 0)), (2, (0, -2147483648, 2147483647, 0)), (3, (0, -2147483648, 2147483647, 0)), (4, (3, 1, -1, 0))]), (66, [(0, (3, 6, -1, 0)), (1, (3, 1, -1, 0)), (2, (0, -2147483648, 2147483647, 0)), (3, (0, -2147483648, 2147483647, 0)), (4, (3, 1, -1, 0))]), (99, [(0, (3, 6, -1, 0)), (1, (3, 1, -1, 0)), (2, (0, -2147483648, 2147483647, 0)), (3, (0, -2147483648, 2147483647, 0)), (4, (3, 1, -1, 0))]), (133, [(0, (3, 6, -1, 0)), (1, (3, 1, -1, 0)), (2, (0, -2147483648, 2147483647, 0)), (3, (0, -2147483648, 2147483647, 0)), (4, (3, 1, -1, 0))])]
def Ab_116_20 (a0 a1 a2 a3 x0 x1 x2 x3 : Int) (h0 h : gH) : Prop := x0 = a0 ∧ hK h (a0).toNat = 6 ∧ h.length = h0.length ∧ hV h (a0).toNat 2 = hV h0 (a0).toNat 2 ∧ 0 ≤ hV h (a0).toNat 2 ∧ hV h (a0).toNat 2 < 40
def mub_116_20 (a0 a1 a2 a3 x0 x1 x2 x3 : Int) (h0 h : gH) : Nat := 9
def Ab_116_29 (a0 a1 a2 a3 x0 x1 x2 x3 x4 : Int) (h0 h : gH) : Prop := x0 = a0 ∧ hK h (a0).toNat = 6 ∧ h.length = h0.length + 2 ∧ hV h (a0).toNat 2 = hV h0 (a0).toNat 2 ∧ 0 ≤ hV h (a0).toNat 2 ∧ hV h (a0).toNat 2 < 40
def mub_116_29 (a0 a1 a2 a3 x0 x1 x2 x3 x4 : Int) (h0 h : gH) : Nat := 8
def Ab_116_66 (a0 a1 a2 a3 x0 x1 x2 x3 x4 : Int) (h0 h : gH) : Prop := x0 = a0 ∧ hK h (a0).toNat = 6 ∧ h.length = h0.length + 2 ∧ hV h (a0).toNat 2 = hV h0 (a0).toNat 2 ∧ 0 ≤ hV h (a0).toNat 2 ∧ hV h (a0).toNat 2 < 40
def mub_116_66 (a0 a1 a2 a3 x0 x1 x2 x3 x4 : Int) (h0 h : gH) : Nat := 7
def Ab_116_99 (a0 a1 a2 a3 x0 x1 x2 x3 x4 : Int) (h0 h : gH) : Prop := x0 = a0 ∧ hK h (a0).toNat = 6 ∧ h.length = h0.length + 2 ∧ hV h (a0).toNat 2 = hV h0 (a0).toNat 2 ∧ 0 ≤ hV h (a0).toNat 2 ∧ hV h (a0).toNat 2 < 40
def mub_116_99 (a0 a1 a2 a3 x0 x1 x2 x3 x4 : Int) (h0 h : gH) : Nat := 6
def Ab_116_133 (a0 a1 a2 a3 x0 x1 x2 x3 x4 : Int) (h0 h : gH) : Prop := x0 = a0 ∧ hK h (a0).toNat = 6 ∧ h.length = h0.length + 2 ∧ hV h (a0).toNat 2 = hV h0 (a0).toNat 2 ∧ 0 ≤ hV h (a0).toNat 2 ∧ hV h (a0).toNat 2 < 40
def mub_116_133 (a0 a1 a2 a3 x0 x1 x2 x3 x4 : Int) (h0 h : gH) : Nat := 5
def A_116 : Int → List Int → gH → gH → Prop := fun c xs h0 h => match c.toNat with
  | 20 => (match xs with
    | [a0, a1, a2, a3, x0, x1, x2, x3] => Ab_116_20 a0 a1 a2 a3 x0 x1 x2 x3 h0 h
    | _ => False)
  | 29 => (match xs with
    | [a0, a1, a2, a3, x0, x1, x2, x3, x4] => Ab_116_29 a0 a1 a2 a3 x0 x1 x2 x3 x4 h0 h
    | _ => False)
  | 66 => (match xs with
    | [a0, a1, a2, a3, x0, x1, x2, x3, x4] => Ab_116_66 a0 a1 a2 a3 x0 x1 x2 x3 x4 h0 h
    | _ => False)
  | 99 => (match xs with
    | [a0, a1, a2, a3, x0, x1, x2, x3, x4] => Ab_116_99 a0 a1 a2 a3 x0 x1 x2 x3 x4 h0 h
    | _ => False)
  | 133 => (match xs with
    | [a0, a1, a2, a3, x0, x1, x2, x3, x4] => Ab_116_133 a0 a1 a2 a3 x0 x1 x2 x3 x4 h0 h
    | _ => False)
  | _ => True
def mu_116 : Int → List Int → gH → gH → Nat := fun c xs h0 h => match c.toNat with
  | 20 => 9
  | 29 => 8
  | 66 => 7
  | 99 => 6
  | 133 => 5
  | _ => 0
theorem q_116_0 {n0 n1 n2 n3 n4 : Int} {H0 : gH} (f0 : n0 ≤ 2147483647) (f1 : (-2147483648) ≤ n0) (f2 : n1 ≤ 2147483647) (f3 : (-2147483648) ≤ n1) (f4 : 0 ≤ n2) (f5 : 0 ≤ n3) (f6 : hWt T0 H0 ∧ preb_116 n3 n2 n1 n0 H0) (f7 : n4 ≤ 40) (f8 : 0 ≤ n4) (f9 : hK H0 (n3).toNat = 6) (f10 : n4 = hV H0 (n3).toNat 2) (f11 : n4 < 0) : postb_116 n3 n2 n1 n0 H0 H0 := by
  unfold preb_116 at f6
  unfold postb_116
  have e0 : n4 = hV H0 (n3).toNat 2 := f10
  omega
theorem c_116_s_0 : vOkm T0 (eP e_116 L_116 A_116 mu_116 none) 4 ([(32, [4], [], 0), (20, [4, 0], [0], 2), (23, [0], [0], 6), (90, [4], [], 0), (91, [4], [], 40), (6000, [0, 1, 2, 3], [0], 0), (51, [0], [], 0), (51, [1], [], 0), (90, [2], [], -2147483648), (91, [2], [], 2147483647), (90, [3], [], -2147483648), (91, [3], [], 2147483647)], (3000, [], [0], 19)) := vOk_inI fun ρ η f0 f1 f2 f3 f4 f5 f6 f7 f8 f9 f10 f11 => q_116_0 (n0 := ρ 3) (n1 := ρ 2) (n2 := ρ 1) (n3 := ρ 0) (n4 := ρ 4) (H0 := η 0) f11 f10 f9 f8 f7 f6 f5 f4 f3 f2 f1 f0
theorem q_116_1 {n0 n1 n2 n3 n4 n5 n6 n7 : Int} {H0 : gH} (f0 : n0 ≤ 2147483647) (f1 : (-2147483648) ≤ n0) (f2 : n1 ≤ 2147483647) (f3 : (-2147483648) ≤ n1) (f4 : 0 ≤ n2) (f5 : 0 ≤ n3) (f6 : hWt T0 H0 ∧ preb_116 n3 n2 n1 n0 H0) (f7 : n4 ≤ 40) (f8 : 0 ≤ n4) (f9 : hK H0 (n3).toNat = 6) (f10 : n4 = hV H0 (n3).toNat 2) (f11 : 0 ≤ n4) (f12 : n5 ≤ 40) (f13 : 0 ≤ n5) (f14 : hK H0 (n3).toNat = 6) (f15 : n5 = hV H0 (n3).toNat 2) (f16 : 0 ≤ n6) (f17 : hK H0 (n3).toNat = 6) (f18 : n6 = hV H0 (n3).toNat 1) (f19 : n7 = (hN H0 (n6).toNat : Int)) (f20 : n7 = 40) (f21 : n5 < n7) : Ab_116_20 n3 n2 n1 n0 n3 n2 n1 n0 H0 H0 ∧ ∀ q, none = some q → mub_116_20 n3 n2 n1 n0 n3 n2 n1 n0 H0 H0 < q := by
  unfold preb_116 at f6
  unfold Ab_116_20
  have e0 : n4 = hV H0 (n3).toNat 2 := f10
  have e1 : n5 = hV H0 (n3).toNat 2 := f15
  have e2 : n6 = hV H0 (n3).toNat 1 := f18
  refine ⟨?_, fun q hq => ?_⟩
  · and_intros <;> first | trivial | omega | assumption | rfl
  · exact nomatch hq
theorem c_116_s_1 : vOkm T0 (eP e_116 L_116 A_116 mu_116 none) 4 ([(42, [5, 7], [], 0), (0, [7], [], 40), (21, [7, 6], [0], 0), (20, [6, 0], [0], 1), (23, [0], [0], 6), (51, [6], [], 0), (20, [5, 0], [0], 2), (23, [0], [0], 6), (90, [5], [], 0), (91, [5], [], 40), (33, [4], [], 0), (20, [4, 0], [0], 2), (23, [0], [0], 6), (90, [4], [], 0), (91, [4], [], 40), (6000, [0, 1, 2, 3], [0], 0), (51, [0], [], 0), (51, [1], [], 0), (90, [2], [], -2147483648), (91, [2], [], 2147483647), (90, [3], [], -2147483648), (91, [3], [], 2147483647)], (4000, [0, 1, 2, 3], [0], 20)) := vOk_inI fun ρ η f0 f1 f2 f3 f4 f5 f6 f7 f8 f9 f10 f11 f12 f13 f14 f15 f16 f17 f18 f19 f20 f21 => q_116_1 (n0 := ρ 3) (n1 := ρ 2) (n2 := ρ 1) (n3 := ρ 0) (n4 := ρ 4) (n5 := ρ 5) (n6 := ρ 6) (n7 := ρ 7) (H0 := η 0) f21 f20 f19 f18 f17 f16 f15 f14 f13 f12 f11 f10 f9 f8 f7 f6 f5 f4 f3 f2 f1 f0
theorem q_116_2 {n0 n1 n2 n3 n4 n5 n6 n7 : Int} {H0 : gH} (f0 : n0 ≤ 2147483647) (f1 : (-2147483648) ≤ n0) (f2 : n1 ≤ 2147483647) (f3 : (-2147483648) ≤ n1) (f4 : 0 ≤ n2) (f5 : 0 ≤ n3) (f6 : hWt T0 H0 ∧ preb_116 n3 n2 n1 n0 H0) (f7 : n4 ≤ 40) (f8 : 0 ≤ n4) (f9 : hK H0 (n3).toNat = 6) (f10 : n4 = hV H0 (n3).toNat 2) (f11 : 0 ≤ n4) (f12 : n5 ≤ 40) (f13 : 0 ≤ n5) (f14 : hK H0 (n3).toNat = 6) (f15 : n5 = hV H0 (n3).toNat 2) (f16 : 0 ≤ n6) (f17 : hK H0 (n3).toNat = 6) (f18 : n6 = hV H0 (n3).toNat 1) (f19 : n7 = (hN H0 (n6).toNat : Int)) (f20 : n7 = 40) (f21 : n7 ≤ n5) : postb_116 n3 n2 n1 n0 H0 H0 := by
  unfold preb_116 at f6
  unfold postb_116
  have e0 : n4 = hV H0 (n3).toNat 2 := f10
  have e1 : n5 = hV H0 (n3).toNat 2 := f15
  have e2 : n6 = hV H0 (n3).toNat 1 := f18
  omega
theorem c_116_s_2 : vOkm T0 (eP e_116 L_116 A_116 mu_116 none) 4 ([(43, [5, 7], [], 0), (0, [7], [], 40), (21, [7, 6], [0], 0), (20, [6, 0], [0], 1), (23, [0], [0], 6), (51, [6], [], 0), (20, [5, 0], [0], 2), (23, [0], [0], 6), (90, [5], [], 0), (91, [5], [], 40), (33, [4], [], 0), (20, [4, 0], [0], 2), (23, [0], [0], 6), (90, [4], [], 0), (91, [4], [], 40), (6000, [0, 1, 2, 3], [0], 0), (51, [0], [], 0), (51, [1], [], 0), (90, [2], [], -2147483648), (91, [2], [], 2147483647), (90, [3], [], -2147483648), (91, [3], [], 2147483647)], (3000, [], [0], 19)) := vOk_inI fun ρ η f0 f1 f2 f3 f4 f5 f6 f7 f8 f9 f10 f11 f12 f13 f14 f15 f16 f17 f18 f19 f20 f21 => q_116_2 (n0 := ρ 3) (n1 := ρ 2) (n2 := ρ 1) (n3 := ρ 0) (n4 := ρ 4) (n5 := ρ 5) (n6 := ρ 6) (n7 := ρ 7) (H0 := η 0) f21 f20 f19 f18 f17 f16 f15 f14 f13 f12 f11 f10 f9 f8 f7 f6 f5 f4 f3 f2 f1 f0
def p_116_s : List vG := [([(32, [4], [], 0), (20, [4, 0], [0], 2), (23, [0], [0], 6), (90, [4], [], 0), (91, [4], [], 40), (6000, [0, 1, 2, 3], [0], 0), (51, [0], [], 0), (51, [1], [], 0), (90, [2], [], -2147483648), (91, [2], [], 2147483647), (90, [3], [], -2147483648), (91, [3], [], 2147483647)], (3000, [], [0], 19)),
  ([(42, [5, 7], [], 0), (0, [7], [], 40), (21, [7, 6], [0], 0), (20, [6, 0], [0], 1), (23, [0], [0], 6), (51, [6], [], 0), (20, [5, 0], [0], 2), (23, [0], [0], 6), (90, [5], [], 0), (91, [5], [], 40), (33, [4], [], 0), (20, [4, 0], [0], 2), (23, [0], [0], 6), (90, [4], [], 0), (91, [4], [], 40), (6000, [0, 1, 2, 3], [0], 0), (51, [0], [], 0), (51, [1], [], 0), (90, [2], [], -2147483648), (91, [2], [], 2147483647), (90, [3], [], -2147483648), (91, [3], [], 2147483647)], (4000, [0, 1, 2, 3], [0], 20)),
  ([(43, [5, 7], [], 0), (0, [7], [], 40), (21, [7, 6], [0], 0), (20, [6, 0], [0], 1), (23, [0], [0], 6), (51, [6], [], 0), (20, [5, 0], [0], 2), (23, [0], [0], 6), (90, [5], [], 0), (91, [5], [], 40), (33, [4], [], 0), (20, [4, 0], [0], 2), (23, [0], [0], 6), (90, [4], [], 0), (91, [4], [], 40), (6000, [0, 1, 2, 3], [0], 0), (51, [0], [], 0), (51, [1], [], 0), (90, [2], [], -2147483648), (91, [2], [], 2147483647), (90, [3], [], -2147483648), (91, [3], [], 2147483647)], (3000, [], [0], 19))]
theorem r_116_s : vCovO false (eR0 e_116 L_116 cs_116 2000) p_116_s = true := by decide +kernel
theorem q_116_3 {q0 : Nat} {n0 n1 n2 n3 n4 n5 n6 n7 n8 : Int} {H0 H1 H2 H3 : gH} (f0 : 0 ≤ n0) (f1 : n1 ≤ 2147483647) (f2 : (-2147483648) ≤ n1) (f3 : n2 ≤ 2147483647) (f4 : (-2147483648) ≤ n2) (f5 : 0 ≤ n3) (f6 : 0 ≤ n4) (f7 : n5 ≤ 2147483647) (f8 : (-2147483648) ≤ n5) (f9 : n6 ≤ 2147483647) (f10 : (-2147483648) ≤ n6) (f11 : 0 ≤ n7) (f12 : 0 ≤ n8) (f13 : (hLe T0 H0 H1 ∧ hFr s_116.2.2.2.2 H0 H1 ∧ hWt T0 H1) ∧ (Ab_116_29 n8 n7 n6 n5 n4 n3 n2 n1 n0 H0 H1 ∧ preb_116 n8 n7 n6 n5 H0) ∧ some q0 = some (mub_116_29 n8 n7 n6 n5 n4 n3 n2 n1 n0 H0 H1)) (f14 : (hLe T0 H1 H2 ∧ hFr s_25.2.2.2.2 H1 H2 ∧ ((0 : Int) = 0 → H2.length = H1.length) ∧ hWt T0 H2) ∧ True) (f15 : (hLe T0 H2 H3 ∧ hFr s_26.2.2.2.2 H2 H3 ∧ ((0 : Int) = 0 → H3.length = H2.length) ∧ hWt T0 H3) ∧ True) (f16 : hK H3 (n0).toNat = 1) : Ab_116_66 n8 n7 n6 n5 n4 n3 n2 n1 n0 H0 H3 ∧ ∀ q, some q0 = some q → mub_116_66 n8 n7 n6 n5 n4 n3 n2 n1 n0 H0 H3 < q := by
  have g4 := f13.2.1.1
  unfold Ab_116_29 at g4
  have h0_ := g4.1
  subst h0_
  have g3 := f13.2.1.2
  unfold preb_116 at g3
  have g5 := Option.some.inj f13.2.2
  unfold mub_116_29 at g5
  unfold Ab_116_66
  unfold mub_116_66
  have e0 : hK H2 (n4).toNat = 6 := kLe f14.1.1 g4.2.1 rfl
  have e1 : hV H3 (n4).toNat 2 = hV H2 (n4).toNat 2 := f15.1.2.1.2.2 _ _ e0 rfl 2 (by decide +kernel)
  have e2 : hV H2 (n4).toNat 2 = hV H1 (n4).toNat 2 := f14.1.2.1.2.2 _ _ g4.2.1 rfl 2 (by decide +kernel)
  have e3 : hV H3 (n4).toNat 2 = hV H1 (n4).toNat 2 := (e1).trans e2
  have e4 : hK H3 (n4).toNat = 6 := kLe f15.1.1 e0 rfl
  have l14 := f14.1.2.2.1 rfl
  have l15 := f15.1.2.2.1 rfl
  try simp only [e3] at g3
  refine ⟨?_, fun q hq => ?_⟩
  · and_intros <;> first | trivial | omega | assumption | rfl
  · have g6 := Option.some.inj hq
    subst g6
    omega
theorem c_116_29_0 {q0 : Nat} : vOkm T0 (eP e_116 L_116 A_116 mu_116 (some q0)) 4 ([(23, [8], [3], 1), (1026, [8, 6, 7], [2, 3], 0), (1025, [8, 5], [1, 2], 0), (5000, [0, 1, 2, 3, 4, 5, 6, 7, 8], [0, 1], 29), (51, [0], [], 0), (51, [1], [], 0), (90, [2], [], -2147483648), (91, [2], [], 2147483647), (90, [3], [], -2147483648), (91, [3], [], 2147483647), (51, [4], [], 0), (51, [5], [], 0), (90, [6], [], -2147483648), (91, [6], [], 2147483647), (90, [7], [], -2147483648), (91, [7], [], 2147483647), (51, [8], [], 0)], (4000, [4, 5, 6, 7, 8], [3], 66)) := vOk_inI fun ρ η f0 f1 f2 f3 f4 f5 f6 f7 f8 f9 f10 f11 f12 f13 f14 f15 f16 => q_116_3 (q0 := q0) (n0 := ρ 8) (n1 := ρ 7) (n2 := ρ 6) (n3 := ρ 5) (n4 := ρ 4) (n5 := ρ 3) (n6 := ρ 2) (n7 := ρ 1) (n8 := ρ 0) (H0 := η 0) (H1 := η 1) (H2 := η 2) (H3 := η 3) f16 f15 f14 f13 f12 f11 f10 f9 f8 f7 f6 f5 f4 f3 f2 f1 f0
theorem q_116_4 {q0 : Nat} {n0 n1 n2 n3 n4 n5 n6 n7 n8 n9 n10 n11 n12 n13 n14 : Int} {H0 H1 H2 H3 H4 : gH} (f0 : 0 ≤ n0) (f1 : n1 ≤ 2147483647) (f2 : (-2147483648) ≤ n1) (f3 : n2 ≤ 2147483647) (f4 : (-2147483648) ≤ n2) (f5 : 0 ≤ n3) (f6 : 0 ≤ n4) (f7 : n5 ≤ 2147483647) (f8 : (-2147483648) ≤ n5) (f9 : n6 ≤ 2147483647) (f10 : (-2147483648) ≤ n6) (f11 : 0 ≤ n7) (f12 : 0 ≤ n8) (f13 : (hLe T0 H0 H1 ∧ hFr s_116.2.2.2.2 H0 H1 ∧ hWt T0 H1) ∧ (Ab_116_29 n8 n7 n6 n5 n4 n3 n2 n1 n0 H0 H1 ∧ preb_116 n8 n7 n6 n5 H0) ∧ some q0 = some (mub_116_29 n8 n7 n6 n5 n4 n3 n2 n1 n0 H0 H1)) (f14 : (hLe T0 H1 H2 ∧ hFr s_25.2.2.2.2 H1 H2 ∧ ((0 : Int) = 0 → H2.length = H1.length) ∧ hWt T0 H2) ∧ True) (f15 : (hLe T0 H2 H3 ∧ hFr s_26.2.2.2.2 H2 H3 ∧ ((0 : Int) = 0 → H3.length = H2.length) ∧ hWt T0 H3) ∧ True) (f16 : hK H3 (n0).toNat = 1) (f17 : n9 ≤ 2147483647) (f18 : (-2147483648) ≤ n9) (f19 : hK H3 (n4).toNat = 6) (f20 : n9 = hV H3 (n4).toNat 3) (f21 : n10 = 1) (f22 : n11 ≤ 2147483647) (f23 : (-2147483648) ≤ n11) (f24 : hK H3 (n0).toNat = 1) (f25 : n11 = hV H3 (n0).toNat 2) (f26 : n12 = o32 (fun x y => x <<< (y &&& 31)) n10 n11) (f27 : n13 = o32 (fun x y => x ||| y) n9 n12) (f28 : hK H3 (n4).toNat = 6) (f29 : n14 = 3) (f30 : hUpd H4 H3 n4 n14 n13) : Ab_116_66 n8 n7 n6 n5 n4 n3 n2 n1 n0 H0 H4 ∧ ∀ q, some q0 = some q → mub_116_66 n8 n7 n6 n5 n4 n3 n2 n1 n0 H0 H4 < q := by
  have g4 := f13.2.1.1
  unfold Ab_116_29 at g4
  have h0_ := g4.1
  subst h0_
  have g3 := f13.2.1.2
  unfold preb_116 at g3
  have g5 := Option.some.inj f13.2.2
  unfold mub_116_29 at g5
  unfold Ab_116_66
  unfold mub_116_66
  have e0 : hK H2 (n4).toNat = 6 := kLe f14.1.1 g4.2.1 rfl
  have e1 : hV H3 (n4).toNat 3 = hV H2 (n4).toNat 3 := f15.1.2.1.2.2 _ _ e0 rfl 3 (by decide +kernel)
  have e2 : hV H2 (n4).toNat 3 = hV H1 (n4).toNat 3 := f14.1.2.1.2.2 _ _ g4.2.1 rfl 3 (by decide +kernel)
  have e3 : n9 = hV H1 (n4).toNat 3 := f20.trans ((e1).trans e2)
  have e4 : n11 = hV H3 (n0).toNat 2 := f25
  have e6 : hV H3 (n4).toNat 2 = hV H2 (n4).toNat 2 := f15.1.2.1.2.2 _ _ e0 rfl 2 (by decide +kernel)
  have e7 : hV H2 (n4).toNat 2 = hV H1 (n4).toNat 2 := f14.1.2.1.2.2 _ _ g4.2.1 rfl 2 (by decide +kernel)
  have e8 : hV H4 (n4).toNat 2 = hV H1 (n4).toNat 2 := ((uSlot f30 ((n4).toNat) 2 (iS (show n14 = ((3 : Nat) : Int) from f29) rfl))).trans ((e6).trans e7)
  have e9 : hK H4 (n4).toNat = 6 := kUp f30 f19
  have l14 := f14.1.2.2.1 rfl
  have l15 := f15.1.2.2.1 rfl
  have l30 := f30.2.1
  try simp only [e8] at g3
  refine ⟨?_, fun q hq => ?_⟩
  · and_intros <;> first | trivial | omega | assumption | rfl
  · have g6 := Option.some.inj hq
    subst g6
    omega
theorem c_116_29_1 {q0 : Nat} : vOkm T0 (eP e_116 L_116 A_116 mu_116 (some q0)) 4 ([(80, [4, 15, 14], [4, 3], 0), (0, [15], [], 3), (23, [4], [3], 6), (5, [14, 10, 13], [], 0), (7, [13, 11, 12], [], 0), (20, [12, 8], [3], 2), (23, [8], [3], 1), (90, [12], [], -2147483648), (91, [12], [], 2147483647), (0, [11], [], 1), (20, [10, 4], [3], 3), (23, [4], [3], 6), (90, [10], [], -2147483648), (91, [10], [], 2147483647), (23, [8], [3], 1), (1026, [8, 6, 7], [2, 3], 0), (1025, [8, 5], [1, 2], 0), (5000, [0, 1, 2, 3, 4, 5, 6, 7, 8], [0, 1], 29), (51, [0], [], 0), (51, [1], [], 0), (90, [2], [], -2147483648), (91, [2], [], 2147483647), (90, [3], [], -2147483648), (91, [3], [], 2147483647), (51, [4], [], 0), (51, [5], [], 0), (90, [6], [], -2147483648), (91, [6], [], 2147483647), (90, [7], [], -2147483648), (91, [7], [], 2147483647), (51, [8], [], 0)], (4000, [4, 5, 6, 7, 8], [4], 66)) := vOk_inI fun ρ η f0 f1 f2 f3 f4 f5 f6 f7 f8 f9 f10 f11 f12 f13 f14 f15 f16 f17 f18 f19 f20 f21 f22 f23 f24 f25 f26 f27 f28 f29 f30 => q_116_4 (q0 := q0) (n0 := ρ 8) (n1 := ρ 7) (n2 := ρ 6) (n3 := ρ 5) (n4 := ρ 4) (n5 := ρ 3) (n6 := ρ 2) (n7 := ρ 1) (n8 := ρ 0) (n9 := ρ 10) (n10 := ρ 11) (n11 := ρ 12) (n12 := ρ 13) (n13 := ρ 14) (n14 := ρ 15) (H0 := η 0) (H1 := η 1) (H2 := η 2) (H3 := η 3) (H4 := η 4) f30 f29 f28 f27 f26 f25 f24 f23 f22 f21 f20 f19 f18 f17 f16 f15 f14 f13 f12 f11 f10 f9 f8 f7 f6 f5 f4 f3 f2 f1 f0
def p_116_29 : List vG := [([(23, [8], [3], 1), (1026, [8, 6, 7], [2, 3], 0), (1025, [8, 5], [1, 2], 0), (5000, [0, 1, 2, 3, 4, 5, 6, 7, 8], [0, 1], 29), (51, [0], [], 0), (51, [1], [], 0), (90, [2], [], -2147483648), (91, [2], [], 2147483647), (90, [3], [], -2147483648), (91, [3], [], 2147483647), (51, [4], [], 0), (51, [5], [], 0), (90, [6], [], -2147483648), (91, [6], [], 2147483647), (90, [7], [], -2147483648), (91, [7], [], 2147483647), (51, [8], [], 0)], (4000, [4, 5, 6, 7, 8], [3], 66)),
  ([(80, [4, 15, 14], [4, 3], 0), (0, [15], [], 3), (23, [4], [3], 6), (5, [14, 10, 13], [], 0), (7, [13, 11, 12], [], 0), (20, [12, 8], [3], 2), (23, [8], [3], 1), (90, [12], [], -2147483648), (91, [12], [], 2147483647), (0, [11], [], 1), (20, [10, 4], [3], 3), (23, [4], [3], 6), (90, [10], [], -2147483648), (91, [10], [], 2147483647), (23, [8], [3], 1), (1026, [8, 6, 7], [2, 3], 0), (1025, [8, 5], [1, 2], 0), (5000, [0, 1, 2, 3, 4, 5, 6, 7, 8], [0, 1], 29), (51, [0], [], 0), (51, [1], [], 0), (90, [2], [], -2147483648), (91, [2], [], 2147483647), (90, [3], [], -2147483648), (91, [3], [], 2147483647), (51, [4], [], 0), (51, [5], [], 0), (90, [6], [], -2147483648), (91, [6], [], 2147483647), (90, [7], [], -2147483648), (91, [7], [], 2147483647), (51, [8], [], 0)], (4000, [4, 5, 6, 7, 8], [4], 66))]
theorem r_116_29 : vCovO false (eRc e_116 L_116 cs_116 2000 (29, [(0, (3, 6, -1, 0)), (1, (3, 1, -1, 0)), (2, (0, -2147483648, 2147483647, 0)), (3, (0, -2147483648, 2147483647, 0)), (4, (3, 1, -1, 0))])) p_116_29 = true := by decide +kernel
theorem q_116_5 {q0 : Nat} {n0 n1 n2 n3 n4 n5 n6 n7 n8 n9 : Int} {H0 H1 H2 : gH} (f0 : 0 ≤ n0) (f1 : n1 ≤ 2147483647) (f2 : (-2147483648) ≤ n1) (f3 : n2 ≤ 2147483647) (f4 : (-2147483648) ≤ n2) (f5 : 0 ≤ n3) (f6 : 0 ≤ n4) (f7 : n5 ≤ 2147483647) (f8 : (-2147483648) ≤ n5) (f9 : n6 ≤ 2147483647) (f10 : (-2147483648) ≤ n6) (f11 : 0 ≤ n7) (f12 : 0 ≤ n8) (f13 : (hLe T0 H0 H1 ∧ hFr s_116.2.2.2.2 H0 H1 ∧ hWt T0 H1) ∧ (Ab_116_66 n8 n7 n6 n5 n4 n3 n2 n1 n0 H0 H1 ∧ preb_116 n8 n7 n6 n5 H0) ∧ some q0 = some (mub_116_66 n8 n7 n6 n5 n4 n3 n2 n1 n0 H0 H1)) (f14 : n9 ≤ 1) (f15 : 0 ≤ n9) (f16 : (hLe T0 H1 H2 ∧ hFr s_23.2.2.2.2 H1 H2 ∧ ((0 : Int) = 0 → H2.length = H1.length) ∧ hWt T0 H2) ∧ True) (f17 : n9 = 0) : Ab_116_99 n8 n7 n6 n5 n4 n3 n2 n1 n0 H0 H2 ∧ ∀ q, some q0 = some q → mub_116_99 n8 n7 n6 n5 n4 n3 n2 n1 n0 H0 H2 < q := by
  have g4 := f13.2.1.1
  unfold Ab_116_66 at g4
  have h0_ := g4.1
  subst h0_
  have g3 := f13.2.1.2
  unfold preb_116 at g3
  have g5 := Option.some.inj f13.2.2
  unfold mub_116_66 at g5
  unfold Ab_116_99
  unfold mub_116_99
  have e0 : hV H2 (n4).toNat 2 = hV H1 (n4).toNat 2 := f16.1.2.1.2.2 _ _ g4.2.1 rfl 2 (by decide +kernel)
  have e1 : hV H2 (n4).toNat 2 = hV H1 (n4).toNat 2 := e0
  have e2 : hK H2 (n4).toNat = 6 := kLe f16.1.1 g4.2.1 rfl
  have l16 := f16.1.2.2.1 rfl
  try simp only [e1] at g3
  refine ⟨?_, fun q hq => ?_⟩
  · and_intros <;> first | trivial | omega | assumption | rfl
  · have g6 := Option.some.inj hq
    subst g6
    omega
theorem c_116_66_0 {q0 : Nat} : vOkm T0 (eP e_116 L_116 A_116 mu_116 (some q0)) 4 ([(30, [9], [], 0), (1023, [9, 8], [1, 2], 0), (90, [9], [], 0), (91, [9], [], 1), (5000, [0, 1, 2, 3, 4, 5, 6, 7, 8], [0, 1], 66), (51, [0], [], 0), (51, [1], [], 0), (90, [2], [], -2147483648), (91, [2], [], 2147483647), (90, [3], [], -2147483648), (91, [3], [], 2147483647), (51, [4], [], 0), (51, [5], [], 0), (90, [6], [], -2147483648), (91, [6], [], 2147483647), (90, [7], [], -2147483648), (91, [7], [], 2147483647), (51, [8], [], 0)], (4000, [4, 5, 6, 7, 8], [2], 99)) := vOk_inI fun ρ η f0 f1 f2 f3 f4 f5 f6 f7 f8 f9 f10 f11 f12 f13 f14 f15 f16 f17 => q_116_5 (q0 := q0) (n0 := ρ 8) (n1 := ρ 7) (n2 := ρ 6) (n3 := ρ 5) (n4 := ρ 4) (n5 := ρ 3) (n6 := ρ 2) (n7 := ρ 1) (n8 := ρ 0) (n9 := ρ 9) (H0 := η 0) (H1 := η 1) (H2 := η 2) f17 f16 f15 f14 f13 f12 f11 f10 f9 f8 f7 f6 f5 f4 f3 f2 f1 f0
theorem q_116_6 {q0 : Nat} {n0 n1 n2 n3 n4 n5 n6 n7 n8 n9 : Int} {H0 H1 H2 : gH} (f0 : 0 ≤ n0) (f1 : n1 ≤ 2147483647) (f2 : (-2147483648) ≤ n1) (f3 : n2 ≤ 2147483647) (f4 : (-2147483648) ≤ n2) (f5 : 0 ≤ n3) (f6 : 0 ≤ n4) (f7 : n5 ≤ 2147483647) (f8 : (-2147483648) ≤ n5) (f9 : n6 ≤ 2147483647) (f10 : (-2147483648) ≤ n6) (f11 : 0 ≤ n7) (f12 : 0 ≤ n8) (f13 : (hLe T0 H0 H1 ∧ hFr s_116.2.2.2.2 H0 H1 ∧ hWt T0 H1) ∧ (Ab_116_66 n8 n7 n6 n5 n4 n3 n2 n1 n0 H0 H1 ∧ preb_116 n8 n7 n6 n5 H0) ∧ some q0 = some (mub_116_66 n8 n7 n6 n5 n4 n3 n2 n1 n0 H0 H1)) (f14 : n9 ≤ 1) (f15 : 0 ≤ n9) (f16 : (hLe T0 H1 H2 ∧ hFr s_23.2.2.2.2 H1 H2 ∧ ((0 : Int) = 0 → H2.length = H1.length) ∧ hWt T0 H2) ∧ True) (f17 : n9 ≠ 0) (f18 : hK H2 (n0).toNat = 1) : Ab_116_99 n8 n7 n6 n5 n4 n3 n2 n1 n0 H0 H2 ∧ ∀ q, some q0 = some q → mub_116_99 n8 n7 n6 n5 n4 n3 n2 n1 n0 H0 H2 < q := by
  have g4 := f13.2.1.1
  unfold Ab_116_66 at g4
  have h0_ := g4.1
  subst h0_
  have g3 := f13.2.1.2
  unfold preb_116 at g3
  have g5 := Option.some.inj f13.2.2
  unfold mub_116_66 at g5
  unfold Ab_116_99
  unfold mub_116_99
  have e0 : hV H2 (n4).toNat 2 = hV H1 (n4).toNat 2 := f16.1.2.1.2.2 _ _ g4.2.1 rfl 2 (by decide +kernel)
  have e1 : hV H2 (n4).toNat 2 = hV H1 (n4).toNat 2 := e0
  have e2 : hK H2 (n4).toNat = 6 := kLe f16.1.1 g4.2.1 rfl
  have l16 := f16.1.2.2.1 rfl
  try simp only [e1] at g3
  refine ⟨?_, fun q hq => ?_⟩
  · and_intros <;> first | trivial | omega | assumption | rfl
  · have g6 := Option.some.inj hq
    subst g6
    omega
theorem c_116_66_1 {q0 : Nat} : vOkm T0 (eP e_116 L_116 A_116 mu_116 (some q0)) 4 ([(23, [8], [2], 1), (31, [9], [], 0), (1023, [9, 8], [1, 2], 0), (90, [9], [], 0), (91, [9], [], 1), (5000, [0, 1, 2, 3, 4, 5, 6, 7, 8], [0, 1], 66), (51, [0], [], 0), (51, [1], [], 0), (90, [2], [], -2147483648), (91, [2], [], 2147483647), (90, [3], [], -2147483648), (91, [3], [], 2147483647), (51, [4], [], 0), (51, [5], [], 0), (90, [6], [], -2147483648), (91, [6], [], 2147483647), (90, [7], [], -2147483648), (91, [7], [], 2147483647), (51, [8], [], 0)], (4000, [4, 5, 6, 7, 8], [2], 99)) := vOk_inI fun ρ η f0 f1 f2 f3 f4 f5 f6 f7 f8 f9 f10 f11 f12 f13 f14 f15 f16 f17 f18 => q_116_6 (q0 := q0) (n0 := ρ 8) (n1 := ρ 7) (n2 := ρ 6) (n3 := ρ 5) (n4 := ρ 4) (n5 := ρ 3) (n6 := ρ 2) (n7 := ρ 1) (n8 := ρ 0) (n9 := ρ 9) (H0 := η 0) (H1 := η 1) (H2 := η 2) f18 f17 f16 f15 f14 f13 f12 f11 f10 f9 f8 f7 f6 f5 f4 f3 f2 f1 f0
theorem q_116_7 {q0 : Nat} {n0 n1 n2 n3 n4 n5 n6 n7 n8 n9 n10 n11 n12 n13 n14 n15 n16 n17 : Int} {H0 H1 H2 H3 : gH} (f0 : 0 ≤ n0) (f1 : n1 ≤ 2147483647) (f2 : (-2147483648) ≤ n1) (f3 : n2 ≤ 2147483647) (f4 : (-2147483648) ≤ n2) (f5 : 0 ≤ n3) (f6 : 0 ≤ n4) (f7 : n5 ≤ 2147483647) (f8 : (-2147483648) ≤ n5) (f9 : n6 ≤ 2147483647) (f10 : (-2147483648) ≤ n6) (f11 : 0 ≤ n7) (f12 : 0 ≤ n8) (f13 : (hLe T0 H0 H1 ∧ hFr s_116.2.2.2.2 H0 H1 ∧ hWt T0 H1) ∧ (Ab_116_66 n8 n7 n6 n5 n4 n3 n2 n1 n0 H0 H1 ∧ preb_116 n8 n7 n6 n5 H0) ∧ some q0 = some (mub_116_66 n8 n7 n6 n5 n4 n3 n2 n1 n0 H0 H1)) (f14 : n9 ≤ 1) (f15 : 0 ≤ n9) (f16 : (hLe T0 H1 H2 ∧ hFr s_23.2.2.2.2 H1 H2 ∧ ((0 : Int) = 0 → H2.length = H1.length) ∧ hWt T0 H2) ∧ True) (f17 : n9 ≠ 0) (f18 : n10 ≤ 2147483647) (f19 : (-2147483648) ≤ n10) (f20 : hK H2 (n0).toNat = 1) (f21 : n10 = hV H2 (n0).toNat 4) (f22 : n11 = (-1)) (f23 : n10 ≠ n11) (f24 : n12 ≤ 2147483647) (f25 : (-2147483648) ≤ n12) (f26 : hK H2 (n4).toNat = 6) (f27 : n12 = hV H2 (n4).toNat 4) (f28 : n13 = 1) (f29 : n14 ≤ 2147483647) (f30 : (-2147483648) ≤ n14) (f31 : hK H2 (n0).toNat = 1) (f32 : n14 = hV H2 (n0).toNat 4) (f33 : n15 = o32 (fun x y => x <<< (y &&& 31)) n13 n14) (f34 : n16 = o32 (fun x y => x ||| y) n12 n15) (f35 : hK H2 (n4).toNat = 6) (f36 : n17 = 4) (f37 : hUpd H3 H2 n4 n17 n16) : Ab_116_99 n8 n7 n6 n5 n4 n3 n2 n1 n0 H0 H3 ∧ ∀ q, some q0 = some q → mub_116_99 n8 n7 n6 n5 n4 n3 n2 n1 n0 H0 H3 < q := by
  have g4 := f13.2.1.1
  unfold Ab_116_66 at g4
  have h0_ := g4.1
  subst h0_
  have g3 := f13.2.1.2
  unfold preb_116 at g3
  have g5 := Option.some.inj f13.2.2
  unfold mub_116_66 at g5
  unfold Ab_116_99
  unfold mub_116_99
  have e0 : n10 = hV H2 (n0).toNat 4 := f21
  have e1 : hV H2 (n4).toNat 4 = hV H1 (n4).toNat 4 := f16.1.2.1.2.2 _ _ g4.2.1 rfl 4 (by decide +kernel)
  have e2 : n12 = hV H1 (n4).toNat 4 := f27.trans (e1)
  have e3 : n14 = hV H2 (n0).toNat 4 := f32
  have e5 : hV H2 (n4).toNat 2 = hV H1 (n4).toNat 2 := f16.1.2.1.2.2 _ _ g4.2.1 rfl 2 (by decide +kernel)
  have e6 : hV H3 (n4).toNat 2 = hV H1 (n4).toNat 2 := ((uSlot f37 ((n4).toNat) 2 (iS (show n17 = ((4 : Nat) : Int) from f36) rfl))).trans e5
  have e7 : hK H3 (n4).toNat = 6 := kUp f37 f26
  have l16 := f16.1.2.2.1 rfl
  have l37 := f37.2.1
  try simp only [e6] at g3
  refine ⟨?_, fun q hq => ?_⟩
  · and_intros <;> first | trivial | omega | assumption | rfl
  · have g6 := Option.some.inj hq
    subst g6
    omega
theorem c_116_66_2 {q0 : Nat} : vOkm T0 (eP e_116 L_116 A_116 mu_116 (some q0)) 4 ([(80, [4, 17, 16], [3, 2], 0), (0, [17], [], 4), (23, [4], [2], 6), (5, [16, 12, 15], [], 0), (7, [15, 13, 14], [], 0), (20, [14, 8], [2], 4), (23, [8], [2], 1), (90, [14], [], -2147483648), (91, [14], [], 2147483647), (0, [13], [], 1), (20, [12, 4], [2], 4), (23, [4], [2], 6), (90, [12], [], -2147483648), (91, [12], [], 2147483647), (41, [10, 11], [], 0), (0, [11], [], -1), (20, [10, 8], [2], 4), (23, [8], [2], 1), (90, [10], [], -2147483648), (91, [10], [], 2147483647), (31, [9], [], 0), (1023, [9, 8], [1, 2], 0), (90, [9], [], 0), (91, [9], [], 1), (5000, [0, 1, 2, 3, 4, 5, 6, 7, 8], [0, 1], 66), (51, [0], [], 0), (51, [1], [], 0), (90, [2], [], -2147483648), (91, [2], [], 2147483647), (90, [3], [], -2147483648), (91, [3], [], 2147483647), (51, [4], [], 0), (51, [5], [], 0), (90, [6], [], -2147483648), (91, [6], [], 2147483647), (90, [7], [], -2147483648), (91, [7], [], 2147483647), (51, [8], [], 0)], (4000, [4, 5, 6, 7, 8], [3], 99)) := vOk_inI fun ρ η f0 f1 f2 f3 f4 f5 f6 f7 f8 f9 f10 f11 f12 f13 f14 f15 f16 f17 f18 f19 f20 f21 f22 f23 f24 f25 f26 f27 f28 f29 f30 f31 f32 f33 f34 f35 f36 f37 => q_116_7 (q0 := q0) (n0 := ρ 8) (n1 := ρ 7) (n2 := ρ 6) (n3 := ρ 5) (n4 := ρ 4) (n5 := ρ 3) (n6 := ρ 2) (n7 := ρ 1) (n8 := ρ 0) (n9 := ρ 9) (n10 := ρ 10) (n11 := ρ 11) (n12 := ρ 12) (n13 := ρ 13) (n14 := ρ 14) (n15 := ρ 15) (n16 := ρ 16) (n17 := ρ 17) (H0 := η 0) (H1 := η 1) (H2 := η 2) (H3 := η 3) f37 f36 f35 f34 f33 f32 f31 f30 f29 f28 f27 f26 f25 f24 f23 f22 f21 f20 f19 f18 f17 f16 f15 f14 f13 f12 f11 f10 f9 f8 f7 f6 f5 f4 f3 f2 f1 f0
def p_116_66 : List vG := [([(30, [9], [], 0), (1023, [9, 8], [1, 2], 0), (90, [9], [], 0), (91, [9], [], 1), (5000, [0, 1, 2, 3, 4, 5, 6, 7, 8], [0, 1], 66), (51, [0], [], 0), (51, [1], [], 0), (90, [2], [], -2147483648), (91, [2], [], 2147483647), (90, [3], [], -2147483648), (91, [3], [], 2147483647), (51, [4], [], 0), (51, [5], [], 0), (90, [6], [], -2147483648), (91, [6], [], 2147483647), (90, [7], [], -2147483648), (91, [7], [], 2147483647), (51, [8], [], 0)], (4000, [4, 5, 6, 7, 8], [2], 99)),
  ([(23, [8], [2], 1), (31, [9], [], 0), (1023, [9, 8], [1, 2], 0), (90, [9], [], 0), (91, [9], [], 1), (5000, [0, 1, 2, 3, 4, 5, 6, 7, 8], [0, 1], 66), (51, [0], [], 0), (51, [1], [], 0), (90, [2], [], -2147483648), (91, [2], [], 2147483647), (90, [3], [], -2147483648), (91, [3], [], 2147483647), (51, [4], [], 0), (51, [5], [], 0), (90, [6], [], -2147483648), (91, [6], [], 2147483647), (90, [7], [], -2147483648), (91, [7], [], 2147483647), (51, [8], [], 0)], (4000, [4, 5, 6, 7, 8], [2], 99)),
  ([(80, [4, 17, 16], [3, 2], 0), (0, [17], [], 4), (23, [4], [2], 6), (5, [16, 12, 15], [], 0), (7, [15, 13, 14], [], 0), (20, [14, 8], [2], 4), (23, [8], [2], 1), (90, [14], [], -2147483648), (91, [14], [], 2147483647), (0, [13], [], 1), (20, [12, 4], [2], 4), (23, [4], [2], 6), (90, [12], [], -2147483648), (91, [12], [], 2147483647), (41, [10, 11], [], 0), (0, [11], [], -1), (20, [10, 8], [2], 4), (23, [8], [2], 1), (90, [10], [], -2147483648), (91, [10], [], 2147483647), (31, [9], [], 0), (1023, [9, 8], [1, 2], 0), (90, [9], [], 0), (91, [9], [], 1), (5000, [0, 1, 2, 3, 4, 5, 6, 7, 8], [0, 1], 66), (51, [0], [], 0), (51, [1], [], 0), (90, [2], [], -2147483648), (91, [2], [], 2147483647), (90, [3], [], -2147483648), (91, [3], [], 2147483647), (51, [4], [], 0), (51, [5], [], 0), (90, [6], [], -2147483648), (91, [6], [], 2147483647), (90, [7], [], -2147483648), (91, [7], [], 2147483647), (51, [8], [], 0)], (4000, [4, 5, 6, 7, 8], [3], 99))]
theorem r_116_66 : vCovO false (eRc e_116 L_116 cs_116 2000 (66, [(0, (3, 6, -1, 0)), (1, (3, 1, -1, 0)), (2, (0, -2147483648, 2147483647, 0)), (3, (0, -2147483648, 2147483647, 0)), (4, (3, 1, -1, 0))])) p_116_66 = true := by decide +kernel
theorem q_116_8 {q0 : Nat} {n0 n1 n2 n3 n4 n5 n6 n7 n8 : Int} {H0 H1 : gH} (f0 : 0 ≤ n0) (f1 : n1 ≤ 2147483647) (f2 : (-2147483648) ≤ n1) (f3 : n2 ≤ 2147483647) (f4 : (-2147483648) ≤ n2) (f5 : 0 ≤ n3) (f6 : 0 ≤ n4) (f7 : n5 ≤ 2147483647) (f8 : (-2147483648) ≤ n5) (f9 : n6 ≤ 2147483647) (f10 : (-2147483648) ≤ n6) (f11 : 0 ≤ n7) (f12 : 0 ≤ n8) (f13 : (hLe T0 H0 H1 ∧ hFr s_116.2.2.2.2 H0 H1 ∧ hWt T0 H1) ∧ (Ab_116_99 n8 n7 n6 n5 n4 n3 n2 n1 n0 H0 H1 ∧ preb_116 n8 n7 n6 n5 H0) ∧ some q0 = some (mub_116_99 n8 n7 n6 n5 n4 n3 n2 n1 n0 H0 H1)) (f14 : hK H1 (n0).toNat = 1) : Ab_116_133 n8 n7 n6 n5 n4 n3 n2 n1 n0 H0 H1 ∧ ∀ q, some q0 = some q → mub_116_133 n8 n7 n6 n5 n4 n3 n2 n1 n0 H0 H1 < q := by
  have g4 := f13.2.1.1
  unfold Ab_116_99 at g4
  have h0_ := g4.1
  subst h0_
  have g3 := f13.2.1.2
  unfold preb_116 at g3
  have g5 := Option.some.inj f13.2.2
  unfold mub_116_99 at g5
  unfold Ab_116_133
  unfold mub_116_133
  refine ⟨?_, fun q hq => ?_⟩
  · and_intros <;> first | trivial | omega | assumption | rfl
  · have g6 := Option.some.inj hq
    subst g6
    omega
theorem c_116_99_0 {q0 : Nat} : vOkm T0 (eP e_116 L_116 A_116 mu_116 (some q0)) 4 ([(23, [8], [1], 1), (5000, [0, 1, 2, 3, 4, 5, 6, 7, 8], [0, 1], 99), (51, [0], [], 0), (51, [1], [], 0), (90, [2], [], -2147483648), (91, [2], [], 2147483647), (90, [3], [], -2147483648), (91, [3], [], 2147483647), (51, [4], [], 0), (51, [5], [], 0), (90, [6], [], -2147483648), (91, [6], [], 2147483647), (90, [7], [], -2147483648), (91, [7], [], 2147483647), (51, [8], [], 0)], (4000, [4, 5, 6, 7, 8], [1], 133)) := vOk_inI fun ρ η f0 f1 f2 f3 f4 f5 f6 f7 f8 f9 f10 f11 f12 f13 f14 => q_116_8 (q0 := q0) (n0 := ρ 8) (n1 := ρ 7) (n2 := ρ 6) (n3 := ρ 5) (n4 := ρ 4) (n5 := ρ 3) (n6 := ρ 2) (n7 := ρ 1) (n8 := ρ 0) (H0 := η 0) (H1 := η 1) f14 f13 f12 f11 f10 f9 f8 f7 f6 f5 f4 f3 f2 f1 f0
theorem q_116_9 {q0 : Nat} {n0 n1 n2 n3 n4 n5 n6 n7 n8 : Int} {H0 H1 : gH} (f0 : 0 ≤ n0) (f1 : n1 ≤ 2147483647) (f2 : (-2147483648) ≤ n1) (f3 : n2 ≤ 2147483647) (f4 : (-2147483648) ≤ n2) (f5 : 0 ≤ n3) (f6 : 0 ≤ n4) (f7 : n5 ≤ 2147483647) (f8 : (-2147483648) ≤ n5) (f9 : n6 ≤ 2147483647) (f10 : (-2147483648) ≤ n6) (f11 : 0 ≤ n7) (f12 : 0 ≤ n8) (f13 : (hLe T0 H0 H1 ∧ hFr s_116.2.2.2.2 H0 H1 ∧ hWt T0 H1) ∧ (Ab_116_99 n8 n7 n6 n5 n4 n3 n2 n1 n0 H0 H1 ∧ preb_116 n8 n7 n6 n5 H0) ∧ some q0 = some (mub_116_99 n8 n7 n6 n5 n4 n3 n2 n1 n0 H0 H1)) (f14 : hK H1 (n0).toNat = 1) (f15 : hK H1 (n0).toNat = 1) : Ab_116_133 n8 n7 n6 n5 n4 n3 n2 n1 n0 H0 H1 ∧ ∀ q, some q0 = some q → mub_116_133 n8 n7 n6 n5 n4 n3 n2 n1 n0 H0 H1 < q := by
  have g4 := f13.2.1.1
  unfold Ab_116_99 at g4
  have h0_ := g4.1
  subst h0_
  have g3 := f13.2.1.2
  unfold preb_116 at g3
  have g5 := Option.some.inj f13.2.2
  unfold mub_116_99 at g5
  unfold Ab_116_133
  unfold mub_116_133
  refine ⟨?_, fun q hq => ?_⟩
  · and_intros <;> first | trivial | omega | assumption | rfl
  · have g6 := Option.some.inj hq
    subst g6
    omega
theorem c_116_99_1 {q0 : Nat} : vOkm T0 (eP e_116 L_116 A_116 mu_116 (some q0)) 4 ([(23, [8], [1], 1), (23, [8], [1], 1), (5000, [0, 1, 2, 3, 4, 5, 6, 7, 8], [0, 1], 99), (51, [0], [], 0), (51, [1], [], 0), (90, [2], [], -2147483648), (91, [2], [], 2147483647), (90, [3], [], -2147483648), (91, [3], [], 2147483647), (51, [4], [], 0), (51, [5], [], 0), (90, [6], [], -2147483648), (91, [6], [], 2147483647), (90, [7], [], -2147483648), (91, [7], [], 2147483647), (51, [8], [], 0)], (4000, [4, 5, 6, 7, 8], [1], 133)) := vOk_inI fun ρ η f0 f1 f2 f3 f4 f5 f6 f7 f8 f9 f10 f11 f12 f13 f14 f15 => q_116_9 (q0 := q0) (n0 := ρ 8) (n1 := ρ 7) (n2 := ρ 6) (n3 := ρ 5) (n4 := ρ 4) (n5 := ρ 3) (n6 := ρ 2) (n7 := ρ 1) (n8 := ρ 0) (H0 := η 0) (H1 := η 1) f15 f14 f13 f12 f11 f10 f9 f8 f7 f6 f5 f4 f3 f2 f1 f0
theorem q_116_10 {q0 : Nat} {n0 n1 n2 n3 n4 n5 n6 n7 n8 n9 n10 n11 n12 n13 n14 n15 n16 : Int} {H0 H1 H2 : gH} (f0 : 0 ≤ n0) (f1 : n1 ≤ 2147483647) (f2 : (-2147483648) ≤ n1) (f3 : n2 ≤ 2147483647) (f4 : (-2147483648) ≤ n2) (f5 : 0 ≤ n3) (f6 : 0 ≤ n4) (f7 : n5 ≤ 2147483647) (f8 : (-2147483648) ≤ n5) (f9 : n6 ≤ 2147483647) (f10 : (-2147483648) ≤ n6) (f11 : 0 ≤ n7) (f12 : 0 ≤ n8) (f13 : (hLe T0 H0 H1 ∧ hFr s_116.2.2.2.2 H0 H1 ∧ hWt T0 H1) ∧ (Ab_116_99 n8 n7 n6 n5 n4 n3 n2 n1 n0 H0 H1 ∧ preb_116 n8 n7 n6 n5 H0) ∧ some q0 = some (mub_116_99 n8 n7 n6 n5 n4 n3 n2 n1 n0 H0 H1)) (f14 : hK H1 (n0).toNat = 1) (f15 : n9 ≤ 2147483647) (f16 : (-2147483648) ≤ n9) (f17 : hK H1 (n0).toNat = 1) (f18 : n9 = hV H1 (n0).toNat 6) (f19 : n10 = (-1)) (f20 : n9 ≠ n10) (f21 : n11 ≤ 2147483647) (f22 : (-2147483648) ≤ n11) (f23 : hK H1 (n4).toNat = 6) (f24 : n11 = hV H1 (n4).toNat 4) (f25 : n12 = 1) (f26 : n13 ≤ 2147483647) (f27 : (-2147483648) ≤ n13) (f28 : hK H1 (n0).toNat = 1) (f29 : n13 = hV H1 (n0).toNat 6) (f30 : n14 = o32 (fun x y => x <<< (y &&& 31)) n12 n13) (f31 : n15 = o32 (fun x y => x ||| y) n11 n14) (f32 : hK H1 (n4).toNat = 6) (f33 : n16 = 4) (f34 : hUpd H2 H1 n4 n16 n15) : Ab_116_133 n8 n7 n6 n5 n4 n3 n2 n1 n0 H0 H2 ∧ ∀ q, some q0 = some q → mub_116_133 n8 n7 n6 n5 n4 n3 n2 n1 n0 H0 H2 < q := by
  have g4 := f13.2.1.1
  unfold Ab_116_99 at g4
  have h0_ := g4.1
  subst h0_
  have g3 := f13.2.1.2
  unfold preb_116 at g3
  have g5 := Option.some.inj f13.2.2
  unfold mub_116_99 at g5
  unfold Ab_116_133
  unfold mub_116_133
  have e0 : n9 = hV H1 (n0).toNat 6 := f18
  have e1 : n11 = hV H1 (n4).toNat 4 := f24
  have e2 : n13 = hV H1 (n0).toNat 6 := f29
  have e4 : hV H2 (n4).toNat 2 = hV H1 (n4).toNat 2 := (uSlot f34 ((n4).toNat) 2 (iS (show n16 = ((4 : Nat) : Int) from f33) rfl))
  have e5 : hK H2 (n4).toNat = 6 := kUp f34 f23
  have l34 := f34.2.1
  try simp only [e4] at g3
  refine ⟨?_, fun q hq => ?_⟩
  · and_intros <;> first | trivial | omega | assumption | rfl
  · have g6 := Option.some.inj hq
    subst g6
    omega
theorem c_116_99_2 {q0 : Nat} : vOkm T0 (eP e_116 L_116 A_116 mu_116 (some q0)) 4 ([(80, [4, 18, 17], [2, 1], 0), (0, [18], [], 4), (23, [4], [1], 6), (5, [17, 13, 16], [], 0), (7, [16, 14, 15], [], 0), (20, [15, 8], [1], 6), (23, [8], [1], 1), (90, [15], [], -2147483648), (91, [15], [], 2147483647), (0, [14], [], 1), (20, [13, 4], [1], 4), (23, [4], [1], 6), (90, [13], [], -2147483648), (91, [13], [], 2147483647), (41, [11, 12], [], 0), (0, [12], [], -1), (20, [11, 8], [1], 6), (23, [8], [1], 1), (90, [11], [], -2147483648), (91, [11], [], 2147483647), (23, [8], [1], 1), (5000, [0, 1, 2, 3, 4, 5, 6, 7, 8], [0, 1], 99), (51, [0], [], 0), (51, [1], [], 0), (90, [2], [], -2147483648), (91, [2], [], 2147483647), (90, [3], [], -2147483648), (91, [3], [], 2147483647), (51, [4], [], 0), (51, [5], [], 0), (90, [6], [], -2147483648), (91, [6], [], 2147483647), (90, [7], [], -2147483648), (91, [7], [], 2147483647), (51, [8], [], 0)], (4000, [4, 5, 6, 7, 8], [2], 133)) := vOk_inI fun ρ η f0 f1 f2 f3 f4 f5 f6 f7 f8 f9 f10 f11 f12 f13 f14 f15 f16 f17 f18 f19 f20 f21 f22 f23 f24 f25 f26 f27 f28 f29 f30 f31 f32 f33 f34 => q_116_10 (q0 := q0) (n0 := ρ 8) (n1 := ρ 7) (n2 := ρ 6) (n3 := ρ 5) (n4 := ρ 4) (n5 := ρ 3) (n6 := ρ 2) (n7 := ρ 1) (n8 := ρ 0) (n9 := ρ 11) (n10 := ρ 12) (n11 := ρ 13) (n12 := ρ 14) (n13 := ρ 15) (n14 := ρ 16) (n15 := ρ 17) (n16 := ρ 18) (H0 := η 0) (H1 := η 1) (H2 := η 2) f34 f33 f32 f31 f30 f29 f28 f27 f26 f25 f24 f23 f22 f21 f20 f19 f18 f17 f16 f15 f14 f13 f12 f11 f10 f9 f8 f7 f6 f5 f4 f3 f2 f1 f0
def p_116_99 : List vG := [([(23, [8], [1], 1), (5000, [0, 1, 2, 3, 4, 5, 6, 7, 8], [0, 1], 99), (51, [0], [], 0), (51, [1], [], 0), (90, [2], [], -2147483648), (91, [2], [], 2147483647), (90, [3], [], -2147483648), (91, [3], [], 2147483647), (51, [4], [], 0), (51, [5], [], 0), (90, [6], [], -2147483648), (91, [6], [], 2147483647), (90, [7], [], -2147483648), (91, [7], [], 2147483647), (51, [8], [], 0)], (4000, [4, 5, 6, 7, 8], [1], 133)),
  ([(23, [8], [1], 1), (23, [8], [1], 1), (5000, [0, 1, 2, 3, 4, 5, 6, 7, 8], [0, 1], 99), (51, [0], [], 0), (51, [1], [], 0), (90, [2], [], -2147483648), (91, [2], [], 2147483647), (90, [3], [], -2147483648), (91, [3], [], 2147483647), (51, [4], [], 0), (51, [5], [], 0), (90, [6], [], -2147483648), (91, [6], [], 2147483647), (90, [7], [], -2147483648), (91, [7], [], 2147483647), (51, [8], [], 0)], (4000, [4, 5, 6, 7, 8], [1], 133)),
  ([(80, [4, 18, 17], [2, 1], 0), (0, [18], [], 4), (23, [4], [1], 6), (5, [17, 13, 16], [], 0), (7, [16, 14, 15], [], 0), (20, [15, 8], [1], 6), (23, [8], [1], 1), (90, [15], [], -2147483648), (91, [15], [], 2147483647), (0, [14], [], 1), (20, [13, 4], [1], 4), (23, [4], [1], 6), (90, [13], [], -2147483648), (91, [13], [], 2147483647), (41, [11, 12], [], 0), (0, [12], [], -1), (20, [11, 8], [1], 6), (23, [8], [1], 1), (90, [11], [], -2147483648), (91, [11], [], 2147483647), (23, [8], [1], 1), (5000, [0, 1, 2, 3, 4, 5, 6, 7, 8], [0, 1], 99), (51, [0], [], 0), (51, [1], [], 0), (90, [2], [], -2147483648), (91, [2], [], 2147483647), (90, [3], [], -2147483648), (91, [3], [], 2147483647), (51, [4], [], 0), (51, [5], [], 0), (90, [6], [], -2147483648), (91, [6], [], 2147483647), (90, [7], [], -2147483648), (91, [7], [], 2147483647), (51, [8], [], 0)], (4000, [4, 5, 6, 7, 8], [2], 133))]
theorem r_116_99 : vCovO false (eRc e_116 L_116 cs_116 2000 (99, [(0, (3, 6, -1, 0)), (1, (3, 1, -1, 0)), (2, (0, -2147483648, 2147483647, 0)), (3, (0, -2147483648, 2147483647, 0)), (4, (3, 1, -1, 0))])) p_116_99 = true := by decide +kernel
theorem q_116_11 {q0 : Nat} {n0 n1 n2 n3 n4 n5 n6 n7 n8 n9 : Int} {H0 H1 : gH} (f0 : 0 ≤ n0) (f1 : n1 ≤ 2147483647) (f2 : (-2147483648) ≤ n1) (f3 : n2 ≤ 2147483647) (f4 : (-2147483648) ≤ n2) (f5 : 0 ≤ n3) (f6 : 0 ≤ n4) (f7 : n5 ≤ 2147483647) (f8 : (-2147483648) ≤ n5) (f9 : n6 ≤ 2147483647) (f10 : (-2147483648) ≤ n6) (f11 : 0 ≤ n7) (f12 : 0 ≤ n8) (f13 : (hLe T0 H0 H1 ∧ hFr s_116.2.2.2.2 H0 H1 ∧ hWt T0 H1) ∧ (Ab_116_133 n8 n7 n6 n5 n4 n3 n2 n1 n0 H0 H1 ∧ preb_116 n8 n7 n6 n5 H0) ∧ some q0 = some (mub_116_133 n8 n7 n6 n5 n4 n3 n2 n1 n0 H0 H1)) (f14 : hK H1 (n4).toNat = 6) (f15 : n9 ≤ 40) (f16 : 0 ≤ n9) (f17 : hK H1 (n4).toNat = 6) (f18 : n9 = hV H1 (n4).toNat 2) : 0 ≤ n9 ∧ n9 < 40 := by
  have g4 := f13.2.1.1
  unfold Ab_116_133 at g4
  have h0_ := g4.1
  subst h0_
  have g3 := f13.2.1.2
  unfold preb_116 at g3
  have g5 := Option.some.inj f13.2.2
  unfold mub_116_133 at g5
  have e0 : n9 = hV H1 (n4).toNat 2 := f18
  omega
theorem c_116_133_0 {q0 : Nat} : vOkm T0 (eP e_116 L_116 A_116 mu_116 (some q0)) 4 ([(20, [10, 4], [1], 2), (23, [4], [1], 6), (90, [10], [], 0), (91, [10], [], 40), (23, [4], [1], 6), (5000, [0, 1, 2, 3, 4, 5, 6, 7, 8], [0, 1], 133), (51, [0], [], 0), (51, [1], [], 0), (90, [2], [], -2147483648), (91, [2], [], 2147483647), (90, [3], [], -2147483648), (91, [3], [], 2147483647), (51, [4], [], 0), (51, [5], [], 0), (90, [6], [], -2147483648), (91, [6], [], 2147483647), (90, [7], [], -2147483648), (91, [7], [], 2147483647), (51, [8], [], 0)], (70, [10], [], 40)) := vOk_inI fun ρ η f0 f1 f2 f3 f4 f5 f6 f7 f8 f9 f10 f11 f12 f13 f14 f15 f16 f17 f18 => q_116_11 (q0 := q0) (n0 := ρ 8) (n1 := ρ 7) (n2 := ρ 6) (n3 := ρ 5) (n4 := ρ 4) (n5 := ρ 3) (n6 := ρ 2) (n7 := ρ 1) (n8 := ρ 0) (n9 := ρ 10) (H0 := η 0) (H1 := η 1) f18 f17 f16 f15 f14 f13 f12 f11 f10 f9 f8 f7 f6 f5 f4 f3 f2 f1 f0
theorem q_116_12 {q0 : Nat} {n0 n1 n2 n3 n4 n5 n6 n7 n8 n9 n10 n11 n12 n13 : Int} {H0 H1 H2 : gH} (f0 : 0 ≤ n0) (f1 : n1 ≤ 2147483647) (f2 : (-2147483648) ≤ n1) (f3 : n2 ≤ 2147483647) (f4 : (-2147483648) ≤ n2) (f5 : 0 ≤ n3) (f6 : 0 ≤ n4) (f7 : n5 ≤ 2147483647) (f8 : (-2147483648) ≤ n5) (f9 : n6 ≤ 2147483647) (f10 : (-2147483648) ≤ n6) (f11 : 0 ≤ n7) (f12 : 0 ≤ n8) (f13 : (hLe T0 H0 H1 ∧ hFr s_116.2.2.2.2 H0 H1 ∧ hWt T0 H1) ∧ (Ab_116_133 n8 n7 n6 n5 n4 n3 n2 n1 n0 H0 H1 ∧ preb_116 n8 n7 n6 n5 H0) ∧ some q0 = some (mub_116_133 n8 n7 n6 n5 n4 n3 n2 n1 n0 H0 H1)) (f14 : 0 ≤ n9) (f15 : hK H1 (n4).toNat = 6) (f16 : n9 = hV H1 (n4).toNat 1) (f17 : n10 ≤ 40) (f18 : 0 ≤ n10) (f19 : hK H1 (n4).toNat = 6) (f20 : n10 = hV H1 (n4).toNat 2) (f21 : hK H1 (n9).toNat = 106) (f22 : hUpd H2 H1 n9 n10 n0) (f23 : n11 ≤ 40) (f24 : 0 ≤ n11) (f25 : hK H2 (n4).toNat = 6) (f26 : n11 = hV H2 (n4).toNat 2) (f27 : n12 = 1) (f28 : n13 = w32 (n11 + n12)) : 0 ≤ n13 := by
  have g4 := f13.2.1.1
  unfold Ab_116_133 at g4
  have h0_ := g4.1
  subst h0_
  have g3 := f13.2.1.2
  unfold preb_116 at g3
  have g5 := Option.some.inj f13.2.2
  unfold mub_116_133 at g5
  have e0 : n9 = hV H1 (n4).toNat 1 := f16
  have e1 : n10 = hV H1 (n4).toNat 2 := f20
  have e3 : n11 = hV H1 (n4).toNat 2 := f26.trans ((uPlace f22 ((n4).toNat) 2 (fun z => kNe f15 f21 rfl z)))
  have l22 := f22.2.1
  unfold w32 at f28
  omega
theorem c_116_133_1 {q0 : Nat} : vOkm T0 (eP e_116 L_116 A_116 mu_116 (some q0)) 4 ([(1, [13, 11, 12], [], 0), (0, [12], [], 1), (20, [11, 4], [2], 2), (23, [4], [2], 6), (90, [11], [], 0), (91, [11], [], 40), (80, [9, 10, 8], [2, 1], 2), (23, [9], [1], 106), (20, [10, 4], [1], 2), (23, [4], [1], 6), (90, [10], [], 0), (91, [10], [], 40), (20, [9, 4], [1], 1), (23, [4], [1], 6), (51, [9], [], 0), (5000, [0, 1, 2, 3, 4, 5, 6, 7, 8], [0, 1], 133), (51, [0], [], 0), (51, [1], [], 0), (90, [2], [], -2147483648), (91, [2], [], 2147483647), (90, [3], [], -2147483648), (91, [3], [], 2147483647), (51, [4], [], 0), (51, [5], [], 0), (90, [6], [], -2147483648), (91, [6], [], 2147483647), (90, [7], [], -2147483648), (91, [7], [], 2147483647), (51, [8], [], 0)], (90, [13], [], 0)) := vOk_inI fun ρ η f0 f1 f2 f3 f4 f5 f6 f7 f8 f9 f10 f11 f12 f13 f14 f15 f16 f17 f18 f19 f20 f21 f22 f23 f24 f25 f26 f27 f28 => q_116_12 (q0 := q0) (n0 := ρ 8) (n1 := ρ 7) (n2 := ρ 6) (n3 := ρ 5) (n4 := ρ 4) (n5 := ρ 3) (n6 := ρ 2) (n7 := ρ 1) (n8 := ρ 0) (n9 := ρ 9) (n10 := ρ 10) (n11 := ρ 11) (n12 := ρ 12) (n13 := ρ 13) (H0 := η 0) (H1 := η 1) (H2 := η 2) f28 f27 f26 f25 f24 f23 f22 f21 f20 f19 f18 f17 f16 f15 f14 f13 f12 f11 f10 f9 f8 f7 f6 f5 f4 f3 f2 f1 f0
theorem q_116_13 {q0 : Nat} {n0 n1 n2 n3 n4 n5 n6 n7 n8 n9 n10 n11 n12 n13 : Int} {H0 H1 H2 : gH} (f0 : 0 ≤ n0) (f1 : n1 ≤ 2147483647) (f2 : (-2147483648) ≤ n1) (f3 : n2 ≤ 2147483647) (f4 : (-2147483648) ≤ n2) (f5 : 0 ≤ n3) (f6 : 0 ≤ n4) (f7 : n5 ≤ 2147483647) (f8 : (-2147483648) ≤ n5) (f9 : n6 ≤ 2147483647) (f10 : (-2147483648) ≤ n6) (f11 : 0 ≤ n7) (f12 : 0 ≤ n8) (f13 : (hLe T0 H0 H1 ∧ hFr s_116.2.2.2.2 H0 H1 ∧ hWt T0 H1) ∧ (Ab_116_133 n8 n7 n6 n5 n4 n3 n2 n1 n0 H0 H1 ∧ preb_116 n8 n7 n6 n5 H0) ∧ some q0 = some (mub_116_133 n8 n7 n6 n5 n4 n3 n2 n1 n0 H0 H1)) (f14 : 0 ≤ n9) (f15 : hK H1 (n4).toNat = 6) (f16 : n9 = hV H1 (n4).toNat 1) (f17 : n10 ≤ 40) (f18 : 0 ≤ n10) (f19 : hK H1 (n4).toNat = 6) (f20 : n10 = hV H1 (n4).toNat 2) (f21 : hK H1 (n9).toNat = 106) (f22 : hUpd H2 H1 n9 n10 n0) (f23 : n11 ≤ 40) (f24 : 0 ≤ n11) (f25 : hK H2 (n4).toNat = 6) (f26 : n11 = hV H2 (n4).toNat 2) (f27 : n12 = 1) (f28 : n13 = w32 (n11 + n12)) : n13 ≤ 40 := by
  have g4 := f13.2.1.1
  unfold Ab_116_133 at g4
  have h0_ := g4.1
  subst h0_
  have g3 := f13.2.1.2
  unfold preb_116 at g3
  have g5 := Option.some.inj f13.2.2
  unfold mub_116_133 at g5
  have e0 : n9 = hV H1 (n4).toNat 1 := f16
  have e1 : n10 = hV H1 (n4).toNat 2 := f20
  have e3 : n11 = hV H1 (n4).toNat 2 := f26.trans ((uPlace f22 ((n4).toNat) 2 (fun z => kNe f15 f21 rfl z)))
  have l22 := f22.2.1
  unfold w32 at f28
  omega
theorem c_116_133_2 {q0 : Nat} : vOkm T0 (eP e_116 L_116 A_116 mu_116 (some q0)) 4 ([(1, [13, 11, 12], [], 0), (0, [12], [], 1), (20, [11, 4], [2], 2), (23, [4], [2], 6), (90, [11], [], 0), (91, [11], [], 40), (80, [9, 10, 8], [2, 1], 2), (23, [9], [1], 106), (20, [10, 4], [1], 2), (23, [4], [1], 6), (90, [10], [], 0), (91, [10], [], 40), (20, [9, 4], [1], 1), (23, [4], [1], 6), (51, [9], [], 0), (5000, [0, 1, 2, 3, 4, 5, 6, 7, 8], [0, 1], 133), (51, [0], [], 0), (51, [1], [], 0), (90, [2], [], -2147483648), (91, [2], [], 2147483647), (90, [3], [], -2147483648), (91, [3], [], 2147483647), (51, [4], [], 0), (51, [5], [], 0), (90, [6], [], -2147483648), (91, [6], [], 2147483647), (90, [7], [], -2147483648), (91, [7], [], 2147483647), (51, [8], [], 0)], (91, [13], [], 40)) := vOk_inI fun ρ η f0 f1 f2 f3 f4 f5 f6 f7 f8 f9 f10 f11 f12 f13 f14 f15 f16 f17 f18 f19 f20 f21 f22 f23 f24 f25 f26 f27 f28 => q_116_13 (q0 := q0) (n0 := ρ 8) (n1 := ρ 7) (n2 := ρ 6) (n3 := ρ 5) (n4 := ρ 4) (n5 := ρ 3) (n6 := ρ 2) (n7 := ρ 1) (n8 := ρ 0) (n9 := ρ 9) (n10 := ρ 10) (n11 := ρ 11) (n12 := ρ 12) (n13 := ρ 13) (H0 := η 0) (H1 := η 1) (H2 := η 2) f28 f27 f26 f25 f24 f23 f22 f21 f20 f19 f18 f17 f16 f15 f14 f13 f12 f11 f10 f9 f8 f7 f6 f5 f4 f3 f2 f1 f0
theorem q_116_14 {q0 : Nat} {n0 n1 n2 n3 n4 n5 n6 n7 n8 n9 n10 n11 n12 n13 n14 : Int} {H0 H1 H2 H3 : gH} (f0 : 0 ≤ n0) (f1 : n1 ≤ 2147483647) (f2 : (-2147483648) ≤ n1) (f3 : n2 ≤ 2147483647) (f4 : (-2147483648) ≤ n2) (f5 : 0 ≤ n3) (f6 : 0 ≤ n4) (f7 : n5 ≤ 2147483647) (f8 : (-2147483648) ≤ n5) (f9 : n6 ≤ 2147483647) (f10 : (-2147483648) ≤ n6) (f11 : 0 ≤ n7) (f12 : 0 ≤ n8) (f13 : (hLe T0 H0 H1 ∧ hFr s_116.2.2.2.2 H0 H1 ∧ hWt T0 H1) ∧ (Ab_116_133 n8 n7 n6 n5 n4 n3 n2 n1 n0 H0 H1 ∧ preb_116 n8 n7 n6 n5 H0) ∧ some q0 = some (mub_116_133 n8 n7 n6 n5 n4 n3 n2 n1 n0 H0 H1)) (f14 : 0 ≤ n9) (f15 : hK H1 (n4).toNat = 6) (f16 : n9 = hV H1 (n4).toNat 1) (f17 : n10 ≤ 40) (f18 : 0 ≤ n10) (f19 : hK H1 (n4).toNat = 6) (f20 : n10 = hV H1 (n4).toNat 2) (f21 : hK H1 (n9).toNat = 106) (f22 : hUpd H2 H1 n9 n10 n0) (f23 : n11 ≤ 40) (f24 : 0 ≤ n11) (f25 : hK H2 (n4).toNat = 6) (f26 : n11 = hV H2 (n4).toNat 2) (f27 : n12 = 1) (f28 : n13 = w32 (n11 + n12)) (f29 : hK H2 (n4).toNat = 6) (f30 : n14 = 2) (f31 : hUpd H3 H2 n4 n14 n13) : postb_116 n8 n7 n6 n5 H0 H3 := by
  have g4 := f13.2.1.1
  unfold Ab_116_133 at g4
  have h0_ := g4.1
  subst h0_
  have g3 := f13.2.1.2
  unfold preb_116 at g3
  have g5 := Option.some.inj f13.2.2
  unfold mub_116_133 at g5
  unfold postb_116
  have e0 : n9 = hV H1 (n4).toNat 1 := f16
  have e1 : n10 = hV H1 (n4).toNat 2 := f20
  have e3 : n11 = hV H1 (n4).toNat 2 := f26.trans ((uPlace f22 ((n4).toNat) 2 (fun z => kNe f15 f21 rfl z)))
  have e4 : hV H3 (n4).toNat 2 = n13 := uSame f31 ((n4).toNat) 2 (Int.toNat_of_nonneg (by omega)) f30.symm
  have e5 : hV H3 (n4).toNat 2 = n13 := e4
  have l22 := f22.2.1
  have l31 := f31.2.1
  try simp only [e5] at g3
  unfold w32 at f28
  omega
theorem c_116_133_3 {q0 : Nat} : vOkm T0 (eP e_116 L_116 A_116 mu_116 (some q0)) 4 ([(80, [4, 14, 13], [3, 2], 0), (0, [14], [], 2), (23, [4], [2], 6), (1, [13, 11, 12], [], 0), (0, [12], [], 1), (20, [11, 4], [2], 2), (23, [4], [2], 6), (90, [11], [], 0), (91, [11], [], 40), (80, [9, 10, 8], [2, 1], 2), (23, [9], [1], 106), (20, [10, 4], [1], 2), (23, [4], [1], 6), (90, [10], [], 0), (91, [10], [], 40), (20, [9, 4], [1], 1), (23, [4], [1], 6), (51, [9], [], 0), (5000, [0, 1, 2, 3, 4, 5, 6, 7, 8], [0, 1], 133), (51, [0], [], 0), (51, [1], [], 0), (90, [2], [], -2147483648), (91, [2], [], 2147483647), (90, [3], [], -2147483648), (91, [3], [], 2147483647), (51, [4], [], 0), (51, [5], [], 0), (90, [6], [], -2147483648), (91, [6], [], 2147483647), (90, [7], [], -2147483648), (91, [7], [], 2147483647), (51, [8], [], 0)], (3000, [], [3], 154)) := vOk_inI fun ρ η f0 f1 f2 f3 f4 f5 f6 f7 f8 f9 f10 f11 f12 f13 f14 f15 f16 f17 f18 f19 f20 f21 f22 f23 f24 f25 f26 f27 f28 f29 f30 f31 => q_116_14 (q0 := q0) (n0 := ρ 8) (n1 := ρ 7) (n2 := ρ 6) (n3 := ρ 5) (n4 := ρ 4) (n5 := ρ 3) (n6 := ρ 2) (n7 := ρ 1) (n8 := ρ 0) (n9 := ρ 9) (n10 := ρ 10) (n11 := ρ 11) (n12 := ρ 12) (n13 := ρ 13) (n14 := ρ 14) (H0 := η 0) (H1 := η 1) (H2 := η 2) (H3 := η 3) f31 f30 f29 f28 f27 f26 f25 f24 f23 f22 f21 f20 f19 f18 f17 f16 f15 f14 f13 f12 f11 f10 f9 f8 f7 f6 f5 f4 f3 f2 f1 f0
def p_116_133 : List vG := [([(20, [10, 4], [1], 2), (23, [4], [1], 6), (90, [10], [], 0), (91, [10], [], 40), (23, [4], [1], 6), (5000, [0, 1, 2, 3, 4, 5, 6, 7, 8], [0, 1], 133), (51, [0], [], 0), (51, [1], [], 0), (90, [2], [], -2147483648), (91, [2], [], 2147483647), (90, [3], [], -2147483648), (91, [3], [], 2147483647), (51, [4], [], 0), (51, [5], [], 0), (90, [6], [], -2147483648), (91, [6], [], 2147483647), (90, [7], [], -2147483648), (91, [7], [], 2147483647), (51, [8], [], 0)], (70, [10], [], 40)),
  ([(1, [13, 11, 12], [], 0), (0, [12], [], 1), (20, [11, 4], [2], 2), (23, [4], [2], 6), (90, [11], [], 0), (91, [11], [], 40), (80, [9, 10, 8], [2, 1], 2), (23, [9], [1], 106), (20, [10, 4], [1], 2), (23, [4], [1], 6), (90, [10], [], 0), (91, [10], [], 40), (20, [9, 4], [1], 1), (23, [4], [1], 6), (51, [9], [], 0), (5000, [0, 1, 2, 3, 4, 5, 6, 7, 8], [0, 1], 133), (51, [0], [], 0), (51, [1], [], 0), (90, [2], [], -2147483648), (91, [2], [], 2147483647), (90, [3], [], -2147483648), (91, [3], [], 2147483647), (51, [4], [], 0), (51, [5], [], 0), (90, [6], [], -2147483648), (91, [6], [], 2147483647), (90, [7], [], -2147483648), (91, [7], [], 2147483647), (51, [8], [], 0)], (90, [13], [], 0)),
  ([(1, [13, 11, 12], [], 0), (0, [12], [], 1), (20, [11, 4], [2], 2), (23, [4], [2], 6), (90, [11], [], 0), (91, [11], [], 40), (80, [9, 10, 8], [2, 1], 2), (23, [9], [1], 106), (20, [10, 4], [1], 2), (23, [4], [1], 6), (90, [10], [], 0), (91, [10], [], 40), (20, [9, 4], [1], 1), (23, [4], [1], 6), (51, [9], [], 0), (5000, [0, 1, 2, 3, 4, 5, 6, 7, 8], [0, 1], 133), (51, [0], [], 0), (51, [1], [], 0), (90, [2], [], -2147483648), (91, [2], [], 2147483647), (90, [3], [], -2147483648), (91, [3], [], 2147483647), (51, [4], [], 0), (51, [5], [], 0), (90, [6], [], -2147483648), (91, [6], [], 2147483647), (90, [7], [], -2147483648), (91, [7], [], 2147483647), (51, [8], [], 0)], (91, [13], [], 40)),
  ([(80, [4, 14, 13], [3, 2], 0), (0, [14], [], 2), (23, [4], [2], 6), (1, [13, 11, 12], [], 0), (0, [12], [], 1), (20, [11, 4], [2], 2), (23, [4], [2], 6), (90, [11], [], 0), (91, [11], [], 40), (80, [9, 10, 8], [2, 1], 2), (23, [9], [1], 106), (20, [10, 4], [1], 2), (23, [4], [1], 6), (90, [10], [], 0), (91, [10], [], 40), (20, [9, 4], [1], 1), (23, [4], [1], 6), (51, [9], [], 0), (5000, [0, 1, 2, 3, 4, 5, 6, 7, 8], [0, 1], 133), (51, [0], [], 0), (51, [1], [], 0), (90, [2], [], -2147483648), (91, [2], [], 2147483647), (90, [3], [], -2147483648), (91, [3], [], 2147483647), (51, [4], [], 0), (51, [5], [], 0), (90, [6], [], -2147483648), (91, [6], [], 2147483647), (90, [7], [], -2147483648), (91, [7], [], 2147483647), (51, [8], [], 0)], (3000, [], [3], 154))]
theorem r_116_133 : vCovO false (eRc e_116 L_116 cs_116 2000 (133, [(0, (3, 6, -1, 0)), (1, (3, 1, -1, 0)), (2, (0, -2147483648, 2147483647, 0)), (3, (0, -2147483648, 2147483647, 0)), (4, (3, 1, -1, 0))])) p_116_133 = true := by decide +kernel
theorem st_116_20 {n d : Nat} {lv : gL} {st : List Value} {lh : gH} : gRun (n + 1) 116 d 20 lv st lh = gI_new (gRun n 116 d) 20 1 lv st lh := gs (e := (20, .new 9, 1, 0, 0, [4051, 1233, 1011])) rfl
theorem st_116_23 {n d : Nat} {lv : gL} {st : List Value} {lh : gH} : gRun (n + 1) 116 d 23 lv st lh = gI_dup (gRun n 116 d) 23 lv st lh := gs (e := (23, .dup, 0, 0, 0, [])) rfl
theorem st_116_24 {n d : Nat} {lv : gL} {st : List Value} {lh : gH} : gRun (n + 1) 116 d 24 lv st lh = gI_spec (gRun n 116 d) (gCall (gRun n) d) (Nat.ble 1 d) 24 22 0 lv st lh := gs (e := (24, .invokespecial 30, 22, 0, 1, [4087, 1235, 1011, 1236])) rfl
theorem st_116_27 {n d : Nat} {lv : gL} {st : List Value} {lh : gH} : gRun (n + 1) 116 d 27 lv st lh = gI_astore (gRun n 116 d) 27 lv st lh 4 2 := gs (e := (27, .astore 4, 0, 0, 0, [])) rfl
theorem go_116 {n d : Nat} {lv : gL} {lh : gH} {o : gO} (h7 : 7 ≤ lh.length) (e : gRun n 116 (d + 2) 29 (gSt1 lv 4 (.ref lh.length)) [] (lh ++ cs_new_22 lh.length) = some o) : gRun (n + 70) 116 (d + 2) 20 lv [] lh = some o := by
  have r1 := run_22 (h := lh) h7 d
  have r2 := gRun_le (n := 62) (m := n + 67) (Nat.le_trans (by decide) (Nat.le_add_left 67 n)) _ _ _ _ _ _ _ r1
  have r3 := gRun_le (n := n) (m := n + 66) (Nat.le_add_right n 66) _ _ _ _ _ _ _ e
  refine st_116_20.trans ?_
  refine (z_new 23 rfl).trans ?_
  refine st_116_23.trans ?_
  refine (z_dup 24 rfl).trans ?_
  refine st_116_24.trans ?_
  refine (z_spec0 rfl rfl).trans ?_
  refine (z_back r2 27 rfl).trans ?_
  refine st_116_27.trans ?_
  refine (z_astore 29 rfl).trans ?_
  exact r3
theorem hand_116_20 (d : Nat) : eHand e_116 A_116 mu_116 cs_116 (d + 1) (20, [(0, (3, 6, -1, 0)), (1, (3, 1, -1, 0)), (2, (0, -2147483648, 2147483647, 0)), (3, (0, -2147483648, 2147483647, 0))]) := by
  intro Q xs h0 q hp ih lv lh ys hW hL hA hAs hmu
  obtain ⟨b0, b1, b2, b3, rfl⟩ : ∃ b0 b1 b2 b3, xs = [b0, b1, b2, b3] := by
    rcases xs with _ | ⟨b0, _ | ⟨b1, _ | ⟨b2, _ | ⟨b3, _ | ⟨b4, xs⟩⟩⟩⟩⟩ <;> first | exact hp.elim | exact ⟨_, _, _, _, rfl⟩
  have h3 := hW.1.len
  have h7 : 7 ≤ lh.length := Nat.le_trans (by decide) h3
  have h23 : 23 < lh.length := Nat.lt_of_lt_of_le (by decide) h3
  obtain ⟨y0, t0, rfl, ⟨w0, g0, z0, k0, _⟩, hA0⟩ := vAts_inv hA
  obtain ⟨y1, t1, rfl, ⟨w1, g1, z1, k1, _⟩, hA1⟩ := vAts_inv hA0
  obtain ⟨y2, t2, rfl, ⟨w2, g2, z2, k2, _⟩, hA2⟩ := vAts_inv hA1
  obtain ⟨y3, t3, rfl, ⟨w3, g3, z3, k3, _⟩, hA3⟩ := vAts_inv hA2
  have ht := vAts_nil hA3
  subst ht
  obtain ⟨x2, rfl, _, _⟩ := k2
  obtain ⟨x3, rfl, _, _⟩ := k3
  have hnew := new_22 hW 
  have hat : vAts T0 (lh ++ cs_new_22  lh.length) (gSt1 lv 4 (.ref lh.length)) ([(0, (3, 6, -1, 0)), (1, (3, 1, -1, 0)), (2, (0, -2147483648, 2147483647, 0)), (3, (0, -2147483648, 2147483647, 0))] ++ [(4, (3, 1, -1, 0))]) ([y0, y1, y2, y3] ++ [(lh.length : Int)]) := vAts.snoc (q := (4, (3, 1, -1, 0))) ⟨.ref lh.length, rfl, rfl, (show vOK T0 _ (3, 1, -1, 0) (.ref lh.length) from ⟨_, rfl, hnew.2⟩), rfl⟩ (hA.sto (hLe.app _ _) (by decide))
  have hl : (lh ++ cs_new_22  lh.length).length = lh.length + 2 := by rw [List.length_append]; rfl
  have ha : y0 = b0 ∧ hK (lh ++ cs_new_22 lh.length) (b0).toNat = 6 ∧ (lh ++ cs_new_22 lh.length).length = h0.length + 2 ∧ hV (lh ++ cs_new_22 lh.length) (b0).toNat 2 = hV h0 (b0).toNat 2 ∧ 0 ≤ hV (lh ++ cs_new_22 lh.length) (b0).toNat 2 ∧ hV (lh ++ cs_new_22 lh.length) (b0).toNat 2 < 40 := by
    obtain ⟨p0, pk, p1, p2⟩ : y0 = b0 ∧ hK lh (b0).toNat = 6 ∧ lh.length = h0.length ∧ hV lh (b0).toNat 2 = hV h0 (b0).toNat 2 ∧ 0 ≤ hV lh (b0).toNat 2 ∧ hV lh (b0).toNat 2 < 40 := hAs
    have p3 : hV (lh ++ cs_new_22 lh.length) (b0).toNat 2 = hV lh (b0).toNat 2 := by
      unfold hV hVal
      rw [app_lo (hK_lt pk (by decide))]
    rw [p3]
    exact ⟨p0, kLe (hLe.app (T := T0) _ _) pk rfl, by rw [hl, p1], p2⟩
  obtain ⟨n, o, e, hq⟩ := ih 8 (by rw [← (show (9 : Nat) = q from hmu)]; decide) (29, [(0, (3, 6, -1, 0)), (1, (3, 1, -1, 0)), (2, (0, -2147483648, 2147483647, 0)), (3, (0, -2147483648, 2147483647, 0)), (4, (3, 1, -1, 0))]) (by unfold cs_116; simp) _ _ _ hnew.1 (hL.trans (hLw.app _ _ (Nat.le_of_ble_eq_true rfl))) hat ha rfl
  exact ⟨n + 70, o, go_116 h7 e, hq⟩

theorem m_116 (d : Nat) : eC e_116 (d + 3) := eC_ok (e := e_116) (L := L_116) (cs := cs_116) (n := 2000) (d := d + 2) (A := A_116) (μ := mu_116) (tp := false) (p0 := p_116_s) rfl ⟨m_23 (d + 1), ⟨m_25 d, ⟨m_26 (d + 1), trivial⟩⟩⟩ rfl (.inl rfl) (by decide +kernel) (fun z => nomatch z) r_116_s (allC c_116_s_0 (allC c_116_s_1 (allC c_116_s_2 allN))) (allC (.inr (hand_116_20 (d + 1))) (allC (.inl ⟨p_116_29, r_116_29, fun q0 => (allC c_116_29_0 (allC c_116_29_1 allN))⟩) (allC (.inl ⟨p_116_66, r_116_66, fun q0 => (allC c_116_66_0 (allC c_116_66_1 (allC c_116_66_2 allN)))⟩) (allC (.inl ⟨p_116_99, r_116_99, fun q0 => (allC c_116_99_0 (allC c_116_99_1 (allC c_116_99_2 allN)))⟩) (allC (.inl ⟨p_116_133, r_116_133, fun q0 => (allC c_116_133_0 (allC c_116_133_1 (allC c_116_133_2 (allC c_116_133_3 allN))))⟩) allN)))))
/- Rules.firstLoud ()I -/
noncomputable def s_103 : vM := ([(3, 5, -1, 0)], (0, -2147483648, 2147483647, 0), 0, 0, [])
noncomputable def e_103 : vE := (103, s_103, pre0, post0)
noncomputable def L_103 : List vE := [e_199k100]
def cs_103 : List vC := [(2, [(0, (3, 5, -1, 0)), (1, (0, -2147483648, 2147483647, 0))])]
def mub_103_2 (a0 x0 x1 : Int) (h0 h : gH) : Nat := (2147483648 - x1).toNat
def A_103 : Int → List Int → gH → gH → Prop := fun c xs h0 h => True
def mu_103 : Int → List Int → gH → gH → Nat := fun c xs h0 h => match c.toNat with
  | 2 => (match xs with
    | [a0, x0, x1] => mub_103_2 a0 x0 x1 h0 h
    | _ => 0)
  | _ => 0
theorem q_103_0 {n0 n1 : Int} {H0 : gH}  : True ∧ ∀ q, none = some q → mub_103_2 n0 n0 n1 H0 H0 < q := by
  exact ⟨trivial, fun q hq => nomatch hq⟩
theorem c_103_s_0 : vOkm T0 (eP e_103 L_103 A_103 mu_103 none) 1 ([], (4000, [0, 1], [0], 2)) := vOk_inI fun ρ η => q_103_0 (n0 := ρ 0) (n1 := ρ 1) (H0 := η 0)
def p_103_s : List vG := [([], (4000, [0, 1], [0], 2))]
theorem r_103_s : vCovO true (eR0 e_103 L_103 cs_103 2000) p_103_s = true := by decide +kernel
theorem q_103_1 {q0 : Nat} {n0 n1 n2 n3 n4 : Int} {H0 H1 H2 : gH} (f0 : n0 ≤ 2147483647) (f1 : (-2147483648) ≤ n0) (f2 : (hLe T0 H0 H1 ∧ hFr s_103.2.2.2.2 H0 H1 ∧ hWt T0 H1) ∧ (True ∧ True) ∧ some q0 = some (mub_103_2 n1 n2 n0 H0 H1)) (f3 : n3 ≤ 2147483647) (f4 : (-2147483648) ≤ n3) (f5 : n0 < n3) (f6 : n4 = w32 (n0 + 1)) : True ∧ ∀ q, some q0 = some q → mub_103_2 n1 n2 n4 H0 H2 < q := by
  have g5 := Option.some.inj f2.2.2
  unfold mub_103_2 at g5
  unfold mub_103_2
  unfold w32 at f6
  refine ⟨?_, fun q hq => ?_⟩
  · trivial
  · have g6 := Option.some.inj hq
    subst g6
    omega
theorem c_103_2_0 {q0 : Nat} : vOkm T0 (eP e_103 L_103 A_103 mu_103 (some q0)) 1 ([(10, [6, 2], [], 1), (42, [2, 3], [], 0), (90, [3], [], -2147483648), (91, [3], [], 2147483647), (5000, [0, 1, 2], [0, 1], 2), (90, [2], [], -2147483648), (91, [2], [], 2147483647)], (4000, [1, 6], [2], 2)) := vOk_inI fun ρ η f0 f1 f2 f3 f4 f5 f6 => q_103_1 (q0 := q0) (n0 := ρ 2) (n1 := ρ 0) (n2 := ρ 1) (n3 := ρ 3) (n4 := ρ 6) (H0 := η 0) (H1 := η 1) (H2 := η 2) f6 f5 f4 f3 f2 f1 f0
def p_103_2 : List vG := [([(10, [6, 2], [], 1), (42, [2, 3], [], 0), (90, [3], [], -2147483648), (91, [3], [], 2147483647), (5000, [0, 1, 2], [0, 1], 2), (90, [2], [], -2147483648), (91, [2], [], 2147483647)], (4000, [1, 6], [2], 2))]
theorem r_103_2 : vCovO true (eRc e_103 L_103 cs_103 2000 (2, [(0, (3, 5, -1, 0)), (1, (0, -2147483648, 2147483647, 0))])) p_103_2 = true := by decide +kernel
theorem m_103 (d : Nat) : eC e_103 (d + 2) := eC_ok (e := e_103) (L := L_103) (cs := cs_103) (n := 2000) (d := d + 1) (A := A_103) (μ := mu_103) (tp := true) (p0 := p_103_s) rfl ⟨m_199k100 d, trivial⟩ rfl (.inr pre0_ok) (by decide +kernel) (fun _ => post0_ok) r_103_s (allC c_103_s_0 allN) (allC (.inl ⟨p_103_2, r_103_2, fun q0 => (allC c_103_2_0 allN)⟩) allN)
/- Rules.hundredsOf (I)I -/
noncomputable def s_104 : vM := ([(3, 5, -1, 0), (0, -2147483648, 2147483647, 0)], (0, -2147483648, 2147483647, 0), 0, 0, [])
noncomputable def e_104 : vE := (104, s_104, pre0, post0)
noncomputable def L_104 : List vE := [e_199k100]
def cs_104 : List vC := []
def A_104 : Int → List Int → gH → gH → Prop := fun c xs h0 h => True
def mu_104 : Int → List Int → gH → gH → Nat := fun c xs h0 h => 0
def p_104_s : List vG := []
theorem r_104_s : vCovO true (eR0 e_104 L_104 cs_104 2000) p_104_s = true := by decide +kernel
theorem m_104 (d : Nat) : eC e_104 (d + 2) := eC_ok (e := e_104) (L := L_104) (cs := cs_104) (n := 2000) (d := d + 1) (A := A_104) (μ := mu_104) (tp := true) (p0 := p_104_s) rfl ⟨m_199k100 d, trivial⟩ rfl (.inr pre0_ok) (by decide +kernel) (fun _ => post0_ok) r_104_s allN allN
/- Rules.widthOf (I)I -/
noncomputable def s_105 : vM := ([(3, 5, -1, 0), (0, -2147483648, 2147483647, 0)], (0, -2147483648, 2147483647, 0), 0, 0, [])
noncomputable def e_105 : vE := (105, s_105, pre0, post0)
noncomputable def L_105 : List vE := [e_199k100]
def cs_105 : List vC := []
def A_105 : Int → List Int → gH → gH → Prop := fun c xs h0 h => True
def mu_105 : Int → List Int → gH → gH → Nat := fun c xs h0 h => 0
def p_105_s : List vG := []
theorem r_105_s : vCovO true (eR0 e_105 L_105 cs_105 2000) p_105_s = true := by decide +kernel
theorem m_105 (d : Nat) : eC e_105 (d + 2) := eC_ok (e := e_105) (L := L_105) (cs := cs_105) (n := 2000) (d := d + 1) (A := A_105) (μ := mu_105) (tp := true) (p0 := p_105_s) rfl ⟨m_199k100 d, trivial⟩ rfl (.inr pre0_ok) (by decide +kernel) (fun _ => post0_ok) r_105_s allN allN
/- Rules.set (II)V -/
noncomputable def s_106 : vM := ([(3, 5, -1, 0), (0, -2147483648, 2147483647, 0), (0, -2147483648, 2147483647, 0)], (9, 0, 0, 0), 0, 0, [(100, 0)])
noncomputable def e_106 : vE := (106, s_106, pre0, post0)
noncomputable def L_106 : List vE := [e_201k100]
def cs_106 : List vC := []
def A_106 : Int → List Int → gH → gH → Prop := fun c xs h0 h => True
def mu_106 : Int → List Int → gH → gH → Nat := fun c xs h0 h => 0
def p_106_s : List vG := []
theorem r_106_s : vCovO true (eR0 e_106 L_106 cs_106 2000) p_106_s = true := by decide +kernel
theorem m_106 (d : Nat) : eC e_106 (d + 2) := eC_ok (e := e_106) (L := L_106) (cs := cs_106) (n := 2000) (d := d + 1) (A := A_106) (μ := mu_106) (tp := true) (p0 := p_106_s) rfl ⟨m_201k100 d, trivial⟩ rfl (.inr pre0_ok) (by decide +kernel) (fun _ => post0_ok) r_106_s allN allN
/- Rules.push (I)V -/
noncomputable def s_110 : vM := ([(3, 5, -1, 0), (0, -2147483648, 2147483647, 0)], (9, 0, 0, 0), 0, 0, [(5, 10), (100, 0)])
noncomputable def e_110 : vE := (110, s_110, pre0, post0)
noncomputable def L_110 : List vE := [e_201k100]
def cs_110 : List vC := []
def A_110 : Int → List Int → gH → gH → Prop := fun c xs h0 h => True
def mu_110 : Int → List Int → gH → gH → Nat := fun c xs h0 h => 0
def p_110_s : List vG := []
theorem r_110_s : vCovO true (eR0 e_110 L_110 cs_110 2000) p_110_s = true := by decide +kernel
theorem m_110 (d : Nat) : eC e_110 (d + 2) := eC_ok (e := e_110) (L := L_110) (cs := cs_110) (n := 2000) (d := d + 1) (A := A_110) (μ := mu_110) (tp := true) (p0 := p_110_s) rfl ⟨m_201k100 d, trivial⟩ rfl (.inr pre0_ok) (by decide +kernel) (fun _ => post0_ok) r_110_s allN allN
/- Rules.pop ()I -/
noncomputable def s_111 : vM := ([(3, 5, -1, 0)], (0, -2147483648, 2147483647, 0), 0, 0, [(5, 10)])
noncomputable def e_111 : vE := (111, s_111, pre0, post0)
noncomputable def L_111 : List vE := [e_199k100, e_317]
def cs_111 : List vC := []
def A_111 : Int → List Int → gH → gH → Prop := fun c xs h0 h => True
def mu_111 : Int → List Int → gH → gH → Nat := fun c xs h0 h => 0
def p_111_s : List vG := []
theorem r_111_s : vCovO true (eR0 e_111 L_111 cs_111 2000) p_111_s = true := by decide +kernel
theorem m_111 (d : Nat) : eC e_111 (d + 2) := eC_ok (e := e_111) (L := L_111) (cs := cs_111) (n := 2000) (d := d + 1) (A := A_111) (μ := mu_111) (tp := true) (p0 := p_111_s) rfl ⟨m_199k100 d, ⟨m_317 d, trivial⟩⟩ rfl (.inr pre0_ok) (by decide +kernel) (fun _ => post0_ok) r_111_s allN allN
/- Rules.divide (II)I -/
noncomputable def s_113 : vM := ([(3, 5, -1, 0), (0, -2147483648, 2147483647, 0), (0, -2147483648, 2147483647, 0)], (0, -2147483648, 2147483647, 0), 0, 0, [(5, 11)])
noncomputable def e_113 : vE := (113, s_113, pre0, post0)
noncomputable def L_113 : List vE := []
def cs_113 : List vC := []
def A_113 : Int → List Int → gH → gH → Prop := fun c xs h0 h => True
def mu_113 : Int → List Int → gH → gH → Nat := fun c xs h0 h => 0
def p_113_s : List vG := []
theorem r_113_s : vCovO true (eR0 e_113 L_113 cs_113 2000) p_113_s = true := by decide +kernel
theorem m_113 (d : Nat) : eC e_113 (d + 1) := eC_ok (e := e_113) (L := L_113) (cs := cs_113) (n := 2000) (d := d + 0) (A := A_113) (μ := mu_113) (tp := true) (p0 := p_113_s) rfl trivial rfl (.inr pre0_ok) (by decide +kernel) (fun _ => post0_ok) r_113_s allN allN
/- Rules.join (III)I -/
noncomputable def s_112 : vM := ([(3, 5, -1, 0), (0, -2147483648, 2147483647, 0), (0, -2147483648, 2147483647, 0), (0, -2147483648, 2147483647, 0)], (0, -2147483648, 2147483647, 0), 0, 0, [(5, 11)])
noncomputable def e_112 : vE := (112, s_112, pre0, post0)
noncomputable def L_112 : List vE := [e_113]
def cs_112 : List vC := []
def A_112 : Int → List Int → gH → gH → Prop := fun c xs h0 h => True
def mu_112 : Int → List Int → gH → gH → Nat := fun c xs h0 h => 0
def p_112_s : List vG := []
theorem r_112_s : vCovO true (eR0 e_112 L_112 cs_112 2000) p_112_s = true := by decide +kernel
theorem m_112 (d : Nat) : eC e_112 (d + 2) := eC_ok (e := e_112) (L := L_112) (cs := cs_112) (n := 2000) (d := d + 1) (A := A_112) (μ := mu_112) (tp := true) (p0 := p_112_s) rfl ⟨m_113 d, trivial⟩ rfl (.inr pre0_ok) (by decide +kernel) (fun _ => post0_ok) r_112_s allN allN
/- Rules.step (I)V -/
noncomputable def s_109 : vM := ([(3, 5, -1, 0), (0, -2147483648, 2147483647, 0)], (9, 0, 0, 0), 0, 0, [(5, 10), (5, 11), (100, 0)])
noncomputable def e_109 : vE := (109, s_109, pre0, post0)
noncomputable def L_109 : List vE := [e_110, e_111, e_112, e_199k100]
def cs_109 : List vC := []
def A_109 : Int → List Int → gH → gH → Prop := fun c xs h0 h => True
def mu_109 : Int → List Int → gH → gH → Nat := fun c xs h0 h => 0
def p_109_s : List vG := []
theorem r_109_s : vCovO true (eR0 e_109 L_109 cs_109 2000) p_109_s = true := by decide +kernel
theorem m_109 (d : Nat) : eC e_109 (d + 3) := eC_ok (e := e_109) (L := L_109) (cs := cs_109) (n := 2000) (d := d + 2) (A := A_109) (μ := mu_109) (tp := true) (p0 := p_109_s) rfl ⟨m_110 d, ⟨m_111 d, ⟨m_112 d, ⟨m_199k100 (d + 1), trivial⟩⟩⟩⟩ rfl (.inr pre0_ok) (by decide +kernel) (fun _ => post0_ok) r_109_s allN allN
/- Rules.work (II)I -/
noncomputable def s_108 : vM := ([(3, 5, -1, 0), (0, -2147483648, 2147483647, 0), (0, -2147483648, 2147483647, 0)], (0, -2147483648, 2147483647, 0), 0, 0, [(5, 10), (5, 11), (100, 0)])
noncomputable def e_108 : vE := (108, s_108, pre0, post0)
noncomputable def L_108 : List vE := [e_109, e_111, e_199k100]
def cs_108 : List vC := [(7, [(0, (3, 5, -1, 0)), (1, (0, -2147483648, 2147483647, 0)), (2, (0, -2147483648, 2147483647, 0)), (3, (0, -2147483648, 2147483647, 0))])]
def mub_108_7 (a0 a1 a2 x0 x1 x2 x3 : Int) (h0 h : gH) : Nat := (2147483648 - x3).toNat
def A_108 : Int → List Int → gH → gH → Prop := fun c xs h0 h => True
def mu_108 : Int → List Int → gH → gH → Nat := fun c xs h0 h => match c.toNat with
  | 7 => (match xs with
    | [a0, a1, a2, x0, x1, x2, x3] => mub_108_7 a0 a1 a2 x0 x1 x2 x3 h0 h
    | _ => 0)
  | _ => 0
theorem q_108_0 {n0 n1 n2 : Int} {H0 H1 : gH}  : True ∧ ∀ q, none = some q → mub_108_7 n0 n1 n2 n0 n1 n2 n1 H0 H1 < q := by
  exact ⟨trivial, fun q hq => nomatch hq⟩
theorem c_108_s_0 : vOkm T0 (eP e_108 L_108 A_108 mu_108 none) 3 ([], (4000, [0, 1, 2, 1], [1], 7)) := vOk_inI fun ρ η => q_108_0 (n0 := ρ 0) (n1 := ρ 1) (n2 := ρ 2) (H0 := η 0) (H1 := η 1)
def p_108_s : List vG := [([], (4000, [0, 1, 2, 1], [1], 7))]
theorem r_108_s : vCovO true (eR0 e_108 L_108 cs_108 2000) p_108_s = true := by decide +kernel
theorem q_108_1 {q0 : Nat} {n0 n1 n2 n3 n4 n5 n6 n7 : Int} {H0 H1 H2 : gH} (f0 : n0 ≤ 2147483647) (f1 : (-2147483648) ≤ n0) (f2 : n1 ≤ 2147483647) (f3 : (-2147483648) ≤ n1) (f4 : (hLe T0 H0 H1 ∧ hFr s_108.2.2.2.2 H0 H1 ∧ hWt T0 H1) ∧ (True ∧ True) ∧ some q0 = some (mub_108_7 n2 n3 n4 n5 n6 n1 n0 H0 H1)) (f5 : n0 < n1) (f6 : n7 = w32 (n0 + 1)) : True ∧ ∀ q, some q0 = some q → mub_108_7 n2 n3 n4 n5 n6 n1 n7 H0 H2 < q := by
  have g5 := Option.some.inj f4.2.2
  unfold mub_108_7 at g5
  unfold mub_108_7
  unfold w32 at f6
  refine ⟨?_, fun q hq => ?_⟩
  · trivial
  · have g6 := Option.some.inj hq
    subst g6
    omega
theorem c_108_7_0 {q0 : Nat} : vOkm T0 (eP e_108 L_108 A_108 mu_108 (some q0)) 3 ([(10, [9, 6], [], 1), (42, [6, 5], [], 0), (5000, [0, 1, 2, 3, 4, 5, 6], [0, 1], 7), (90, [5], [], -2147483648), (91, [5], [], 2147483647), (90, [6], [], -2147483648), (91, [6], [], 2147483647)], (4000, [3, 4, 5, 9], [3], 7)) := vOk_inI fun ρ η f0 f1 f2 f3 f4 f5 f6 => q_108_1 (q0 := q0) (n0 := ρ 6) (n1 := ρ 5) (n2 := ρ 0) (n3 := ρ 1) (n4 := ρ 2) (n5 := ρ 3) (n6 := ρ 4) (n7 := ρ 9) (H0 := η 0) (H1 := η 1) (H2 := η 3) f6 f5 f4 f3 f2 f1 f0
def p_108_7 : List vG := [([(10, [9, 6], [], 1), (42, [6, 5], [], 0), (5000, [0, 1, 2, 3, 4, 5, 6], [0, 1], 7), (90, [5], [], -2147483648), (91, [5], [], 2147483647), (90, [6], [], -2147483648), (91, [6], [], 2147483647)], (4000, [3, 4, 5, 9], [3], 7))]
theorem r_108_7 : vCovO true (eRc e_108 L_108 cs_108 2000 (7, [(0, (3, 5, -1, 0)), (1, (0, -2147483648, 2147483647, 0)), (2, (0, -2147483648, 2147483647, 0)), (3, (0, -2147483648, 2147483647, 0))])) p_108_7 = true := by decide +kernel
theorem m_108 (d : Nat) : eC e_108 (d + 4) := eC_ok (e := e_108) (L := L_108) (cs := cs_108) (n := 2000) (d := d + 3) (A := A_108) (μ := mu_108) (tp := true) (p0 := p_108_s) rfl ⟨m_109 d, ⟨m_111 (d + 1), ⟨m_199k100 (d + 2), trivial⟩⟩⟩ rfl (.inr pre0_ok) (by decide +kernel) (fun _ => post0_ok) r_108_s (allC c_108_s_0 allN) (allC (.inl ⟨p_108_7, r_108_7, fun q0 => (allC c_108_7_0 allN)⟩) allN)
/- Rules.firstRight ()I -/
noncomputable def s_107 : vM := ([(3, 5, -1, 0)], (0, -2147483648, 2147483647, 0), 0, 0, [(5, 10), (5, 11), (100, 0)])
noncomputable def e_107 : vE := (107, s_107, pre0, post0)
noncomputable def L_107 : List vE := [e_108, e_199k100]
def cs_107 : List vC := [(2, [(0, (3, 5, -1, 0)), (1, (0, -2147483648, 2147483647, 0))])]
def mub_107_2 (a0 x0 x1 : Int) (h0 h : gH) : Nat := (2147483648 - x1).toNat
def A_107 : Int → List Int → gH → gH → Prop := fun c xs h0 h => True
def mu_107 : Int → List Int → gH → gH → Nat := fun c xs h0 h => match c.toNat with
  | 2 => (match xs with
    | [a0, x0, x1] => mub_107_2 a0 x0 x1 h0 h
    | _ => 0)
  | _ => 0
theorem q_107_0 {n0 n1 : Int} {H0 : gH}  : True ∧ ∀ q, none = some q → mub_107_2 n0 n0 n1 H0 H0 < q := by
  exact ⟨trivial, fun q hq => nomatch hq⟩
theorem c_107_s_0 : vOkm T0 (eP e_107 L_107 A_107 mu_107 none) 1 ([], (4000, [0, 1], [0], 2)) := vOk_inI fun ρ η => q_107_0 (n0 := ρ 0) (n1 := ρ 1) (H0 := η 0)
def p_107_s : List vG := [([], (4000, [0, 1], [0], 2))]
theorem r_107_s : vCovO true (eR0 e_107 L_107 cs_107 2000) p_107_s = true := by decide +kernel
theorem q_107_1 {q0 : Nat} {n0 n1 n2 n3 n4 : Int} {H0 H1 H2 : gH} (f0 : n0 ≤ 2147483647) (f1 : (-2147483648) ≤ n0) (f2 : (hLe T0 H0 H1 ∧ hFr s_107.2.2.2.2 H0 H1 ∧ hWt T0 H1) ∧ (True ∧ True) ∧ some q0 = some (mub_107_2 n1 n2 n0 H0 H1)) (f3 : n3 ≤ 2147483647) (f4 : (-2147483648) ≤ n3) (f5 : n0 < n3) (f6 : n4 = w32 (n0 + 1)) : True ∧ ∀ q, some q0 = some q → mub_107_2 n1 n2 n4 H0 H2 < q := by
  have g5 := Option.some.inj f2.2.2
  unfold mub_107_2 at g5
  unfold mub_107_2
  unfold w32 at f6
  refine ⟨?_, fun q hq => ?_⟩
  · trivial
  · have g6 := Option.some.inj hq
    subst g6
    omega
theorem c_107_2_0 {q0 : Nat} : vOkm T0 (eP e_107 L_107 A_107 mu_107 (some q0)) 1 ([(10, [6, 2], [], 1), (42, [2, 3], [], 0), (90, [3], [], -2147483648), (91, [3], [], 2147483647), (5000, [0, 1, 2], [0, 1], 2), (90, [2], [], -2147483648), (91, [2], [], 2147483647)], (4000, [1, 6], [2], 2)) := vOk_inI fun ρ η f0 f1 f2 f3 f4 f5 f6 => q_107_1 (q0 := q0) (n0 := ρ 2) (n1 := ρ 0) (n2 := ρ 1) (n3 := ρ 3) (n4 := ρ 6) (H0 := η 0) (H1 := η 1) (H2 := η 2) f6 f5 f4 f3 f2 f1 f0
theorem c_107_2_1 {q0 : Nat} : vOkm T0 (eP e_107 L_107 A_107 mu_107 (some q0)) 1 ([(10, [19, 2], [], 1), (42, [2, 3], [], 0), (90, [3], [], -2147483648), (91, [3], [], 2147483647), (5000, [0, 1, 2], [0, 1], 2), (90, [2], [], -2147483648), (91, [2], [], 2147483647)], (4000, [1, 19], [8], 2)) := vOk_inI fun ρ η f0 f1 f2 f3 f4 f5 f6 => q_107_1 (q0 := q0) (n0 := ρ 2) (n1 := ρ 0) (n2 := ρ 1) (n3 := ρ 3) (n4 := ρ 19) (H0 := η 0) (H1 := η 1) (H2 := η 8) f6 f5 f4 f3 f2 f1 f0
theorem c_107_2_2 {q0 : Nat} : vOkm T0 (eP e_107 L_107 A_107 mu_107 (some q0)) 1 ([(10, [20, 2], [], 1), (42, [2, 3], [], 0), (90, [3], [], -2147483648), (91, [3], [], 2147483647), (5000, [0, 1, 2], [0, 1], 2), (90, [2], [], -2147483648), (91, [2], [], 2147483647)], (4000, [1, 20], [8], 2)) := vOk_inI fun ρ η f0 f1 f2 f3 f4 f5 f6 => q_107_1 (q0 := q0) (n0 := ρ 2) (n1 := ρ 0) (n2 := ρ 1) (n3 := ρ 3) (n4 := ρ 20) (H0 := η 0) (H1 := η 1) (H2 := η 8) f6 f5 f4 f3 f2 f1 f0
theorem c_107_2_3 {q0 : Nat} : vOkm T0 (eP e_107 L_107 A_107 mu_107 (some q0)) 1 ([(10, [24, 2], [], 1), (42, [2, 3], [], 0), (90, [3], [], -2147483648), (91, [3], [], 2147483647), (5000, [0, 1, 2], [0, 1], 2), (90, [2], [], -2147483648), (91, [2], [], 2147483647)], (4000, [1, 24], [11], 2)) := vOk_inI fun ρ η f0 f1 f2 f3 f4 f5 f6 => q_107_1 (q0 := q0) (n0 := ρ 2) (n1 := ρ 0) (n2 := ρ 1) (n3 := ρ 3) (n4 := ρ 24) (H0 := η 0) (H1 := η 1) (H2 := η 11) f6 f5 f4 f3 f2 f1 f0
theorem c_107_2_4 {q0 : Nat} : vOkm T0 (eP e_107 L_107 A_107 mu_107 (some q0)) 1 ([(10, [25, 2], [], 1), (42, [2, 3], [], 0), (90, [3], [], -2147483648), (91, [3], [], 2147483647), (5000, [0, 1, 2], [0, 1], 2), (90, [2], [], -2147483648), (91, [2], [], 2147483647)], (4000, [1, 25], [11], 2)) := vOk_inI fun ρ η f0 f1 f2 f3 f4 f5 f6 => q_107_1 (q0 := q0) (n0 := ρ 2) (n1 := ρ 0) (n2 := ρ 1) (n3 := ρ 3) (n4 := ρ 25) (H0 := η 0) (H1 := η 1) (H2 := η 11) f6 f5 f4 f3 f2 f1 f0
theorem c_107_2_5 {q0 : Nat} : vOkm T0 (eP e_107 L_107 A_107 mu_107 (some q0)) 1 ([(10, [24, 2], [], 1), (42, [2, 3], [], 0), (90, [3], [], -2147483648), (91, [3], [], 2147483647), (5000, [0, 1, 2], [0, 1], 2), (90, [2], [], -2147483648), (91, [2], [], 2147483647)], (4000, [1, 24], [11], 2)) := vOk_inI fun ρ η f0 f1 f2 f3 f4 f5 f6 => q_107_1 (q0 := q0) (n0 := ρ 2) (n1 := ρ 0) (n2 := ρ 1) (n3 := ρ 3) (n4 := ρ 24) (H0 := η 0) (H1 := η 1) (H2 := η 11) f6 f5 f4 f3 f2 f1 f0
theorem c_107_2_6 {q0 : Nat} : vOkm T0 (eP e_107 L_107 A_107 mu_107 (some q0)) 1 ([(10, [25, 2], [], 1), (42, [2, 3], [], 0), (90, [3], [], -2147483648), (91, [3], [], 2147483647), (5000, [0, 1, 2], [0, 1], 2), (90, [2], [], -2147483648), (91, [2], [], 2147483647)], (4000, [1, 25], [11], 2)) := vOk_inI fun ρ η f0 f1 f2 f3 f4 f5 f6 => q_107_1 (q0 := q0) (n0 := ρ 2) (n1 := ρ 0) (n2 := ρ 1) (n3 := ρ 3) (n4 := ρ 25) (H0 := η 0) (H1 := η 1) (H2 := η 11) f6 f5 f4 f3 f2 f1 f0
theorem c_107_2_7 {q0 : Nat} : vOkm T0 (eP e_107 L_107 A_107 mu_107 (some q0)) 1 ([(10, [19, 2], [], 1), (42, [2, 3], [], 0), (90, [3], [], -2147483648), (91, [3], [], 2147483647), (5000, [0, 1, 2], [0, 1], 2), (90, [2], [], -2147483648), (91, [2], [], 2147483647)], (4000, [1, 19], [8], 2)) := vOk_inI fun ρ η f0 f1 f2 f3 f4 f5 f6 => q_107_1 (q0 := q0) (n0 := ρ 2) (n1 := ρ 0) (n2 := ρ 1) (n3 := ρ 3) (n4 := ρ 19) (H0 := η 0) (H1 := η 1) (H2 := η 8) f6 f5 f4 f3 f2 f1 f0
theorem c_107_2_8 {q0 : Nat} : vOkm T0 (eP e_107 L_107 A_107 mu_107 (some q0)) 1 ([(10, [20, 2], [], 1), (42, [2, 3], [], 0), (90, [3], [], -2147483648), (91, [3], [], 2147483647), (5000, [0, 1, 2], [0, 1], 2), (90, [2], [], -2147483648), (91, [2], [], 2147483647)], (4000, [1, 20], [8], 2)) := vOk_inI fun ρ η f0 f1 f2 f3 f4 f5 f6 => q_107_1 (q0 := q0) (n0 := ρ 2) (n1 := ρ 0) (n2 := ρ 1) (n3 := ρ 3) (n4 := ρ 20) (H0 := η 0) (H1 := η 1) (H2 := η 8) f6 f5 f4 f3 f2 f1 f0
theorem c_107_2_9 {q0 : Nat} : vOkm T0 (eP e_107 L_107 A_107 mu_107 (some q0)) 1 ([(10, [24, 2], [], 1), (42, [2, 3], [], 0), (90, [3], [], -2147483648), (91, [3], [], 2147483647), (5000, [0, 1, 2], [0, 1], 2), (90, [2], [], -2147483648), (91, [2], [], 2147483647)], (4000, [1, 24], [11], 2)) := vOk_inI fun ρ η f0 f1 f2 f3 f4 f5 f6 => q_107_1 (q0 := q0) (n0 := ρ 2) (n1 := ρ 0) (n2 := ρ 1) (n3 := ρ 3) (n4 := ρ 24) (H0 := η 0) (H1 := η 1) (H2 := η 11) f6 f5 f4 f3 f2 f1 f0
theorem c_107_2_10 {q0 : Nat} : vOkm T0 (eP e_107 L_107 A_107 mu_107 (some q0)) 1 ([(10, [25, 2], [], 1), (42, [2, 3], [], 0), (90, [3], [], -2147483648), (91, [3], [], 2147483647), (5000, [0, 1, 2], [0, 1], 2), (90, [2], [], -2147483648), (91, [2], [], 2147483647)], (4000, [1, 25], [11], 2)) := vOk_inI fun ρ η f0 f1 f2 f3 f4 f5 f6 => q_107_1 (q0 := q0) (n0 := ρ 2) (n1 := ρ 0) (n2 := ρ 1) (n3 := ρ 3) (n4 := ρ 25) (H0 := η 0) (H1 := η 1) (H2 := η 11) f6 f5 f4 f3 f2 f1 f0
theorem c_107_2_11 {q0 : Nat} : vOkm T0 (eP e_107 L_107 A_107 mu_107 (some q0)) 1 ([(10, [24, 2], [], 1), (42, [2, 3], [], 0), (90, [3], [], -2147483648), (91, [3], [], 2147483647), (5000, [0, 1, 2], [0, 1], 2), (90, [2], [], -2147483648), (91, [2], [], 2147483647)], (4000, [1, 24], [11], 2)) := vOk_inI fun ρ η f0 f1 f2 f3 f4 f5 f6 => q_107_1 (q0 := q0) (n0 := ρ 2) (n1 := ρ 0) (n2 := ρ 1) (n3 := ρ 3) (n4 := ρ 24) (H0 := η 0) (H1 := η 1) (H2 := η 11) f6 f5 f4 f3 f2 f1 f0
theorem c_107_2_12 {q0 : Nat} : vOkm T0 (eP e_107 L_107 A_107 mu_107 (some q0)) 1 ([(10, [25, 2], [], 1), (42, [2, 3], [], 0), (90, [3], [], -2147483648), (91, [3], [], 2147483647), (5000, [0, 1, 2], [0, 1], 2), (90, [2], [], -2147483648), (91, [2], [], 2147483647)], (4000, [1, 25], [11], 2)) := vOk_inI fun ρ η f0 f1 f2 f3 f4 f5 f6 => q_107_1 (q0 := q0) (n0 := ρ 2) (n1 := ρ 0) (n2 := ρ 1) (n3 := ρ 3) (n4 := ρ 25) (H0 := η 0) (H1 := η 1) (H2 := η 11) f6 f5 f4 f3 f2 f1 f0
def p_107_2 : List vG := [([(10, [6, 2], [], 1), (42, [2, 3], [], 0), (90, [3], [], -2147483648), (91, [3], [], 2147483647), (5000, [0, 1, 2], [0, 1], 2), (90, [2], [], -2147483648), (91, [2], [], 2147483647)], (4000, [1, 6], [2], 2)),
  ([(10, [19, 2], [], 1), (42, [2, 3], [], 0), (90, [3], [], -2147483648), (91, [3], [], 2147483647), (5000, [0, 1, 2], [0, 1], 2), (90, [2], [], -2147483648), (91, [2], [], 2147483647)], (4000, [1, 19], [8], 2)),
  ([(10, [20, 2], [], 1), (42, [2, 3], [], 0), (90, [3], [], -2147483648), (91, [3], [], 2147483647), (5000, [0, 1, 2], [0, 1], 2), (90, [2], [], -2147483648), (91, [2], [], 2147483647)], (4000, [1, 20], [8], 2)),
  ([(10, [24, 2], [], 1), (42, [2, 3], [], 0), (90, [3], [], -2147483648), (91, [3], [], 2147483647), (5000, [0, 1, 2], [0, 1], 2), (90, [2], [], -2147483648), (91, [2], [], 2147483647)], (4000, [1, 24], [11], 2)),
  ([(10, [25, 2], [], 1), (42, [2, 3], [], 0), (90, [3], [], -2147483648), (91, [3], [], 2147483647), (5000, [0, 1, 2], [0, 1], 2), (90, [2], [], -2147483648), (91, [2], [], 2147483647)], (4000, [1, 25], [11], 2)),
  ([(10, [24, 2], [], 1), (42, [2, 3], [], 0), (90, [3], [], -2147483648), (91, [3], [], 2147483647), (5000, [0, 1, 2], [0, 1], 2), (90, [2], [], -2147483648), (91, [2], [], 2147483647)], (4000, [1, 24], [11], 2)),
  ([(10, [25, 2], [], 1), (42, [2, 3], [], 0), (90, [3], [], -2147483648), (91, [3], [], 2147483647), (5000, [0, 1, 2], [0, 1], 2), (90, [2], [], -2147483648), (91, [2], [], 2147483647)], (4000, [1, 25], [11], 2)),
  ([(10, [19, 2], [], 1), (42, [2, 3], [], 0), (90, [3], [], -2147483648), (91, [3], [], 2147483647), (5000, [0, 1, 2], [0, 1], 2), (90, [2], [], -2147483648), (91, [2], [], 2147483647)], (4000, [1, 19], [8], 2)),
  ([(10, [20, 2], [], 1), (42, [2, 3], [], 0), (90, [3], [], -2147483648), (91, [3], [], 2147483647), (5000, [0, 1, 2], [0, 1], 2), (90, [2], [], -2147483648), (91, [2], [], 2147483647)], (4000, [1, 20], [8], 2)),
  ([(10, [24, 2], [], 1), (42, [2, 3], [], 0), (90, [3], [], -2147483648), (91, [3], [], 2147483647), (5000, [0, 1, 2], [0, 1], 2), (90, [2], [], -2147483648), (91, [2], [], 2147483647)], (4000, [1, 24], [11], 2)),
  ([(10, [25, 2], [], 1), (42, [2, 3], [], 0), (90, [3], [], -2147483648), (91, [3], [], 2147483647), (5000, [0, 1, 2], [0, 1], 2), (90, [2], [], -2147483648), (91, [2], [], 2147483647)], (4000, [1, 25], [11], 2)),
  ([(10, [24, 2], [], 1), (42, [2, 3], [], 0), (90, [3], [], -2147483648), (91, [3], [], 2147483647), (5000, [0, 1, 2], [0, 1], 2), (90, [2], [], -2147483648), (91, [2], [], 2147483647)], (4000, [1, 24], [11], 2)),
  ([(10, [25, 2], [], 1), (42, [2, 3], [], 0), (90, [3], [], -2147483648), (91, [3], [], 2147483647), (5000, [0, 1, 2], [0, 1], 2), (90, [2], [], -2147483648), (91, [2], [], 2147483647)], (4000, [1, 25], [11], 2))]
theorem r_107_2 : vCovO true (eRc e_107 L_107 cs_107 2000 (2, [(0, (3, 5, -1, 0)), (1, (0, -2147483648, 2147483647, 0))])) p_107_2 = true := by decide +kernel
theorem m_107 (d : Nat) : eC e_107 (d + 5) := eC_ok (e := e_107) (L := L_107) (cs := cs_107) (n := 2000) (d := d + 4) (A := A_107) (μ := mu_107) (tp := true) (p0 := p_107_s) rfl ⟨m_108 d, ⟨m_199k100 (d + 3), trivial⟩⟩ rfl (.inr pre0_ok) (by decide +kernel) (fun _ => post0_ok) r_107_s (allC c_107_s_0 allN) (allC (.inl ⟨p_107_2, r_107_2, fun q0 => (allC c_107_2_0 (allC c_107_2_1 (allC c_107_2_2 (allC c_107_2_3 (allC c_107_2_4 (allC c_107_2_5 (allC c_107_2_6 (allC c_107_2_7 (allC c_107_2_8 (allC c_107_2_9 (allC c_107_2_10 (allC c_107_2_11 (allC c_107_2_12 allN)))))))))))))⟩) allN)
/- MixStage.isSample (J)Z -/
noncomputable def s_198 : vM := ([(1, 0, 0, 0)], (0, 0, 1, 0), 0, 0, [])
noncomputable def e_198 : vE := (198, s_198, pre0, post0)
noncomputable def L_198 : List vE := []
def cs_198 : List vC := []
def A_198 : Int → List Int → gH → gH → Prop := fun c xs h0 h => True
def mu_198 : Int → List Int → gH → gH → Nat := fun c xs h0 h => 0
def p_198_s : List vG := []
theorem r_198_s : vCovO true (eR0 e_198 L_198 cs_198 2000) p_198_s = true := by decide +kernel
theorem m_198 (d : Nat) : eC e_198 (d + 1) := eC_ok (e := e_198) (L := L_198) (cs := cs_198) (n := 2000) (d := d + 0) (A := A_198) (μ := mu_198) (tp := true) (p0 := p_198_s) rfl trivial rfl (.inr pre0_ok) (by decide +kernel) (fun _ => post0_ok) r_198_s allN allN
/- Sound.canWave (IIII)Z -/
noncomputable def s_118 : vM := ([(3, 7, -1, 0), (0, -2147483648, 2147483647, 0), (0, -2147483648, 2147483647, 0), (0, -2147483648, 2147483647, 0), (0, -2147483648, 2147483647, 0)], (0, 0, 1, 0), 0, 0, [])
noncomputable def e_118 : vE := (118, s_118, pre0, post0)
noncomputable def L_118 : List vE := [e_198]
def cs_118 : List vC := []
def A_118 : Int → List Int → gH → gH → Prop := fun c xs h0 h => True
def mu_118 : Int → List Int → gH → gH → Nat := fun c xs h0 h => 0
def p_118_s : List vG := []
theorem r_118_s : vCovO true (eR0 e_118 L_118 cs_118 2000) p_118_s = true := by decide +kernel
theorem m_118 (d : Nat) : eC e_118 (d + 2) := eC_ok (e := e_118) (L := L_118) (cs := cs_118) (n := 2000) (d := d + 1) (A := A_118) (μ := mu_118) (tp := true) (p0 := p_118_s) rfl ⟨m_198 d, trivial⟩ rfl (.inr pre0_ok) (by decide +kernel) (fun _ => post0_ok) r_118_s allN allN
/- Tracer.seekHeard (ILMixStage$Cue;)V -/
noncomputable def s_134 : vM := ([(3, 9, 281, 0), (0, -2147483648, 2147483647, 0), (3, 1, -1, 0)], (9, 0, 0, 0), 0, 0, [(10, 0), (10, 1), (10, 2), (748, 0), (764, 0)])
noncomputable def e_134 : vE := (134, s_134, pre0, post0)
noncomputable def L_134 : List vE := [e_37, e_40, e_53, e_201k764, e_203k764]
def cs_134 : List vC := [(32, [(0, (3, 9, 281, 0)), (1, (0, -2147483648, 2147483647, 0)), (2, (3, 1, -1, 0)), (3, (0, -2147483648, 2147483647, 0)), (4, (0, -2147483648, 2147483647, 0))])]
def mub_134_32 (a0 a1 a2 x0 x1 x2 x3 x4 : Int) (h0 h : gH) : Nat := (2147483648 - x4).toNat
def A_134 : Int → List Int → gH → gH → Prop := fun c xs h0 h => True
def mu_134 : Int → List Int → gH → gH → Nat := fun c xs h0 h => match c.toNat with
  | 32 => (match xs with
    | [a0, a1, a2, x0, x1, x2, x3, x4] => mub_134_32 a0 a1 a2 x0 x1 x2 x3 x4 h0 h
    | _ => 0)
  | _ => 0
theorem q_134_0 {n0 n1 n2 n3 n4 : Int} {H0 H1 : gH}  : True ∧ ∀ q, none = some q → mub_134_32 n0 n1 n2 n0 n1 n2 n3 n4 H0 H1 < q := by
  exact ⟨trivial, fun q hq => nomatch hq⟩
theorem c_134_s_0 : vOkm T0 (eP e_134 L_134 A_134 mu_134 none) 3 ([], (4000, [0, 1, 2, 6, 11], [3], 32)) := vOk_inI fun ρ η => q_134_0 (n0 := ρ 0) (n1 := ρ 1) (n2 := ρ 2) (n3 := ρ 6) (n4 := ρ 11) (H0 := η 0) (H1 := η 3)
def p_134_s : List vG := [([], (4000, [0, 1, 2, 6, 11], [3], 32))]
theorem r_134_s : vCovO true (eR0 e_134 L_134 cs_134 2000) p_134_s = true := by decide +kernel
theorem q_134_1 {q0 : Nat} {n0 n1 n2 n3 n4 n5 n6 n7 n8 : Int} {H0 H1 H2 : gH} (f0 : n0 ≤ 2147483647) (f1 : (-2147483648) ≤ n0) (f2 : n1 ≤ 2147483647) (f3 : (-2147483648) ≤ n1) (f4 : (hLe T0 H0 H1 ∧ hFr s_134.2.2.2.2 H0 H1 ∧ hWt T0 H1) ∧ (True ∧ True) ∧ some q0 = some (mub_134_32 n2 n3 n4 n5 n6 n7 n1 n0 H0 H1)) (f5 : n0 < n1) (f6 : n8 = w32 (n0 + 1)) : True ∧ ∀ q, some q0 = some q → mub_134_32 n2 n3 n4 n5 n6 n7 n1 n8 H0 H2 < q := by
  have g5 := Option.some.inj f4.2.2
  unfold mub_134_32 at g5
  unfold mub_134_32
  unfold w32 at f6
  refine ⟨?_, fun q hq => ?_⟩
  · trivial
  · have g6 := Option.some.inj hq
    subst g6
    omega
theorem c_134_32_0 {q0 : Nat} : vOkm T0 (eP e_134 L_134 A_134 mu_134 (some q0)) 3 ([(10, [11, 7], [], 1), (42, [7, 6], [], 0), (5000, [0, 1, 2, 3, 4, 5, 6, 7], [0, 1], 32), (90, [6], [], -2147483648), (91, [6], [], 2147483647), (90, [7], [], -2147483648), (91, [7], [], 2147483647)], (4000, [3, 4, 5, 6, 11], [2], 32)) := vOk_inI fun ρ η f0 f1 f2 f3 f4 f5 f6 => q_134_1 (q0 := q0) (n0 := ρ 7) (n1 := ρ 6) (n2 := ρ 0) (n3 := ρ 1) (n4 := ρ 2) (n5 := ρ 3) (n6 := ρ 4) (n7 := ρ 5) (n8 := ρ 11) (H0 := η 0) (H1 := η 1) (H2 := η 2) f6 f5 f4 f3 f2 f1 f0
theorem c_134_32_1 {q0 : Nat} : vOkm T0 (eP e_134 L_134 A_134 mu_134 (some q0)) 3 ([(10, [15, 7], [], 1), (42, [7, 6], [], 0), (5000, [0, 1, 2, 3, 4, 5, 6, 7], [0, 1], 32), (90, [6], [], -2147483648), (91, [6], [], 2147483647), (90, [7], [], -2147483648), (91, [7], [], 2147483647)], (4000, [3, 4, 5, 6, 15], [3], 32)) := vOk_inI fun ρ η f0 f1 f2 f3 f4 f5 f6 => q_134_1 (q0 := q0) (n0 := ρ 7) (n1 := ρ 6) (n2 := ρ 0) (n3 := ρ 1) (n4 := ρ 2) (n5 := ρ 3) (n6 := ρ 4) (n7 := ρ 5) (n8 := ρ 15) (H0 := η 0) (H1 := η 1) (H2 := η 3) f6 f5 f4 f3 f2 f1 f0
def p_134_32 : List vG := [([(10, [11, 7], [], 1), (42, [7, 6], [], 0), (5000, [0, 1, 2, 3, 4, 5, 6, 7], [0, 1], 32), (90, [6], [], -2147483648), (91, [6], [], 2147483647), (90, [7], [], -2147483648), (91, [7], [], 2147483647)], (4000, [3, 4, 5, 6, 11], [2], 32)),
  ([(10, [15, 7], [], 1), (42, [7, 6], [], 0), (5000, [0, 1, 2, 3, 4, 5, 6, 7], [0, 1], 32), (90, [6], [], -2147483648), (91, [6], [], 2147483647), (90, [7], [], -2147483648), (91, [7], [], 2147483647)], (4000, [3, 4, 5, 6, 15], [3], 32))]
theorem r_134_32 : vCovO true (eRc e_134 L_134 cs_134 2000 (32, [(0, (3, 9, 281, 0)), (1, (0, -2147483648, 2147483647, 0)), (2, (3, 1, -1, 0)), (3, (0, -2147483648, 2147483647, 0)), (4, (0, -2147483648, 2147483647, 0))])) p_134_32 = true := by decide +kernel
theorem m_134 (d : Nat) : eC e_134 (d + 5) := eC_ok (e := e_134) (L := L_134) (cs := cs_134) (n := 2000) (d := d + 4) (A := A_134) (μ := mu_134) (tp := true) (p0 := p_134_s) rfl ⟨m_37 d, ⟨m_40 (d + 1), ⟨m_53 (d + 2), ⟨m_201k764 (d + 3), ⟨m_203k764 (d + 2), trivial⟩⟩⟩⟩⟩ rfl (.inr pre0_ok) (by decide +kernel) (fun _ => post0_ok) r_134_s (allC c_134_s_0 allN) (allC (.inl ⟨p_134_32, r_134_32, fun q0 => (allC c_134_32_0 (allC c_134_32_1 allN))⟩) allN)
/- Tracer.isSought (III)Z -/
noncomputable def s_135 : vM := ([(3, 9, 281, 0), (0, -2147483648, 2147483647, 0), (0, -2147483648, 2147483647, 0), (0, -2147483648, 2147483647, 0)], (0, 0, 1, 0), 0, 0, [])
noncomputable def e_135 : vE := (135, s_135, pre0, post0)
noncomputable def L_135 : List vE := [e_58, e_199k764]
def cs_135 : List vC := []
def A_135 : Int → List Int → gH → gH → Prop := fun c xs h0 h => True
def mu_135 : Int → List Int → gH → gH → Nat := fun c xs h0 h => 0
def p_135_s : List vG := []
theorem r_135_s : vCovO true (eR0 e_135 L_135 cs_135 2000) p_135_s = true := by decide +kernel
theorem m_135 (d : Nat) : eC e_135 (d + 3) := eC_ok (e := e_135) (L := L_135) (cs := cs_135) (n := 2000) (d := d + 2) (A := A_135) (μ := mu_135) (tp := true) (p0 := p_135_s) rfl ⟨m_58 d, ⟨m_199k764 (d + 1), trivial⟩⟩ rfl (.inr pre0_ok) (by decide +kernel) (fun _ => post0_ok) r_135_s allN allN
/- Tracer.firstFrameOf (ILMixStage$Cue;I)I -/
noncomputable def s_136 : vM := ([(3, 9, 281, 0), (0, -2147483648, 2147483647, 0), (3, 1, -1, 0), (0, -2147483648, 2147483647, 0)], (0, -2147483648, 2147483647, 0), 0, 0, [(10, 0), (10, 1), (10, 2), (748, 0), (764, 0)])
noncomputable def e_136 : vE := (136, s_136, pre0, post0)
noncomputable def L_136 : List vE := [e_53, e_134, e_135]
def cs_136 : List vC := [(19, [(0, (3, 9, 281, 0)), (1, (0, -2147483648, 2147483647, 0)), (2, (3, 1, -1, 0)), (3, (0, -2147483648, 2147483647, 0)), (4, (0, -2147483648, 2147483647, 0)), (5, (0, -2147483648, 2147483647, 0))])]
def mub_136_19 (a0 a1 a2 a3 x0 x1 x2 x3 x4 x5 : Int) (h0 h : gH) : Nat := (2147483648 - x5).toNat
def A_136 : Int → List Int → gH → gH → Prop := fun c xs h0 h => True
def mu_136 : Int → List Int → gH → gH → Nat := fun c xs h0 h => match c.toNat with
  | 19 => (match xs with
    | [a0, a1, a2, a3, x0, x1, x2, x3, x4, x5] => mub_136_19 a0 a1 a2 a3 x0 x1 x2 x3 x4 x5 h0 h
    | _ => 0)
  | _ => 0
theorem q_136_0 {n0 n1 n2 n3 n4 n5 : Int} {H0 H1 : gH}  : True ∧ ∀ q, none = some q → mub_136_19 n0 n1 n2 n3 n0 n1 n2 n3 n4 n5 H0 H1 < q := by
  exact ⟨trivial, fun q hq => nomatch hq⟩
theorem c_136_s_0 : vOkm T0 (eP e_136 L_136 A_136 mu_136 none) 4 ([], (4000, [0, 1, 2, 3, 5, 6], [2], 19)) := vOk_inI fun ρ η => q_136_0 (n0 := ρ 0) (n1 := ρ 1) (n2 := ρ 2) (n3 := ρ 3) (n4 := ρ 5) (n5 := ρ 6) (H0 := η 0) (H1 := η 2)
def p_136_s : List vG := [([], (4000, [0, 1, 2, 3, 5, 6], [2], 19))]
theorem r_136_s : vCovO true (eR0 e_136 L_136 cs_136 2000) p_136_s = true := by decide +kernel
theorem q_136_1 {q0 : Nat} {n0 n1 n2 n3 n4 n5 n6 n7 n8 n9 n10 : Int} {H0 H1 H2 : gH} (f0 : n0 ≤ 2147483647) (f1 : (-2147483648) ≤ n0) (f2 : n1 ≤ 2147483647) (f3 : (-2147483648) ≤ n1) (f4 : (hLe T0 H0 H1 ∧ hFr s_136.2.2.2.2 H0 H1 ∧ hWt T0 H1) ∧ (True ∧ True) ∧ some q0 = some (mub_136_19 n2 n3 n4 n5 n6 n7 n8 n9 n1 n0 H0 H1)) (f5 : n0 < n1) (f6 : n10 = w32 (n0 + 1)) : True ∧ ∀ q, some q0 = some q → mub_136_19 n2 n3 n4 n5 n6 n7 n8 n9 n1 n10 H0 H2 < q := by
  have g5 := Option.some.inj f4.2.2
  unfold mub_136_19 at g5
  unfold mub_136_19
  unfold w32 at f6
  refine ⟨?_, fun q hq => ?_⟩
  · trivial
  · have g6 := Option.some.inj hq
    subst g6
    omega
theorem c_136_19_0 {q0 : Nat} : vOkm T0 (eP e_136 L_136 A_136 mu_136 (some q0)) 4 ([(10, [11, 9], [], 1), (42, [9, 8], [], 0), (5000, [0, 1, 2, 3, 4, 5, 6, 7, 8, 9], [0, 1], 19), (90, [8], [], -2147483648), (91, [8], [], 2147483647), (90, [9], [], -2147483648), (91, [9], [], 2147483647)], (4000, [4, 5, 6, 7, 8, 11], [2], 19)) := vOk_inI fun ρ η f0 f1 f2 f3 f4 f5 f6 => q_136_1 (q0 := q0) (n0 := ρ 9) (n1 := ρ 8) (n2 := ρ 0) (n3 := ρ 1) (n4 := ρ 2) (n5 := ρ 3) (n6 := ρ 4) (n7 := ρ 5) (n8 := ρ 6) (n9 := ρ 7) (n10 := ρ 11) (H0 := η 0) (H1 := η 1) (H2 := η 2) f6 f5 f4 f3 f2 f1 f0
def p_136_19 : List vG := [([(10, [11, 9], [], 1), (42, [9, 8], [], 0), (5000, [0, 1, 2, 3, 4, 5, 6, 7, 8, 9], [0, 1], 19), (90, [8], [], -2147483648), (91, [8], [], 2147483647), (90, [9], [], -2147483648), (91, [9], [], 2147483647)], (4000, [4, 5, 6, 7, 8, 11], [2], 19))]
theorem r_136_19 : vCovO true (eRc e_136 L_136 cs_136 2000 (19, [(0, (3, 9, 281, 0)), (1, (0, -2147483648, 2147483647, 0)), (2, (3, 1, -1, 0)), (3, (0, -2147483648, 2147483647, 0)), (4, (0, -2147483648, 2147483647, 0)), (5, (0, -2147483648, 2147483647, 0))])) p_136_19 = true := by decide +kernel
theorem m_136 (d : Nat) : eC e_136 (d + 6) := eC_ok (e := e_136) (L := L_136) (cs := cs_136) (n := 2000) (d := d + 5) (A := A_136) (μ := mu_136) (tp := true) (p0 := p_136_s) rfl ⟨m_53 (d + 3), ⟨m_134 d, ⟨m_135 (d + 2), trivial⟩⟩⟩ rfl (.inr pre0_ok) (by decide +kernel) (fun _ => post0_ok) r_136_s (allC c_136_s_0 allN) (allC (.inl ⟨p_136_19, r_136_19, fun q0 => (allC c_136_19_0 allN)⟩) allN)
/- Tracer.nextSought (I)I -/
noncomputable def s_138 : vM := ([(3, 9, 281, 0), (0, -2147483648, 2147483647, 0)], (0, -2147483648, 2147483647, 0), 0, 0, [])
noncomputable def e_138 : vE := (138, s_138, pre0, post0)
noncomputable def L_138 : List vE := [e_199k764]
def cs_138 : List vC := [(4, [(0, (3, 9, 281, 0)), (1, (0, -2147483648, 2147483647, 0)), (2, (0, -2147483648, 2147483647, 0))])]
def mub_138_4 (a0 a1 x0 x1 x2 : Int) (h0 h : gH) : Nat := (2147483648 - x2).toNat
def A_138 : Int → List Int → gH → gH → Prop := fun c xs h0 h => True
def mu_138 : Int → List Int → gH → gH → Nat := fun c xs h0 h => match c.toNat with
  | 4 => (match xs with
    | [a0, a1, x0, x1, x2] => mub_138_4 a0 a1 x0 x1 x2 h0 h
    | _ => 0)
  | _ => 0
theorem q_138_0 {n0 n1 n2 : Int} {H0 : gH}  : True ∧ ∀ q, none = some q → mub_138_4 n0 n1 n0 n1 n2 H0 H0 < q := by
  exact ⟨trivial, fun q hq => nomatch hq⟩
theorem c_138_s_0 : vOkm T0 (eP e_138 L_138 A_138 mu_138 none) 2 ([], (4000, [0, 1, 3], [0], 4)) := vOk_inI fun ρ η => q_138_0 (n0 := ρ 0) (n1 := ρ 1) (n2 := ρ 3) (H0 := η 0)
def p_138_s : List vG := [([], (4000, [0, 1, 3], [0], 4))]
theorem r_138_s : vCovO true (eR0 e_138 L_138 cs_138 2000) p_138_s = true := by decide +kernel
theorem q_138_1 {q0 : Nat} {n0 n1 n2 n3 n4 n5 n6 : Int} {H0 H1 H2 : gH} (f0 : n0 ≤ 2147483647) (f1 : (-2147483648) ≤ n0) (f2 : (hLe T0 H0 H1 ∧ hFr s_138.2.2.2.2 H0 H1 ∧ hWt T0 H1) ∧ (True ∧ True) ∧ some q0 = some (mub_138_4 n1 n2 n3 n4 n0 H0 H1)) (f3 : n5 = 60) (f4 : n0 < n5) (f5 : n6 = w32 (n0 + 1)) : True ∧ ∀ q, some q0 = some q → mub_138_4 n1 n2 n3 n4 n6 H0 H2 < q := by
  have g5 := Option.some.inj f2.2.2
  unfold mub_138_4 at g5
  unfold mub_138_4
  unfold w32 at f5
  refine ⟨?_, fun q hq => ?_⟩
  · trivial
  · have g6 := Option.some.inj hq
    subst g6
    omega
theorem c_138_4_0 {q0 : Nat} : vOkm T0 (eP e_138 L_138 A_138 mu_138 (some q0)) 2 ([(10, [8, 4], [], 1), (42, [4, 5], [], 0), (0, [5], [], 60), (5000, [0, 1, 2, 3, 4], [0, 1], 4), (90, [4], [], -2147483648), (91, [4], [], 2147483647)], (4000, [2, 3, 8], [2], 4)) := vOk_inI fun ρ η f0 f1 f2 f3 f4 f5 => q_138_1 (q0 := q0) (n0 := ρ 4) (n1 := ρ 0) (n2 := ρ 1) (n3 := ρ 2) (n4 := ρ 3) (n5 := ρ 5) (n6 := ρ 8) (H0 := η 0) (H1 := η 1) (H2 := η 2) f5 f4 f3 f2 f1 f0
def p_138_4 : List vG := [([(10, [8, 4], [], 1), (42, [4, 5], [], 0), (0, [5], [], 60), (5000, [0, 1, 2, 3, 4], [0, 1], 4), (90, [4], [], -2147483648), (91, [4], [], 2147483647)], (4000, [2, 3, 8], [2], 4))]
theorem r_138_4 : vCovO true (eRc e_138 L_138 cs_138 2000 (4, [(0, (3, 9, 281, 0)), (1, (0, -2147483648, 2147483647, 0)), (2, (0, -2147483648, 2147483647, 0))])) p_138_4 = true := by decide +kernel
theorem m_138 (d : Nat) : eC e_138 (d + 2) := eC_ok (e := e_138) (L := L_138) (cs := cs_138) (n := 2000) (d := d + 1) (A := A_138) (μ := mu_138) (tp := true) (p0 := p_138_s) rfl ⟨m_199k764 d, trivial⟩ rfl (.inr pre0_ok) (by decide +kernel) (fun _ => post0_ok) r_138_s (allC c_138_s_0 allN) (allC (.inl ⟨p_138_4, r_138_4, fun q0 => (allC c_138_4_0 allN)⟩) allN)
/- Tracer.countSought ()I -/
noncomputable def s_139 : vM := ([(3, 9, 281, 0)], (0, -2147483648, 2147483647, 0), 0, 0, [])
noncomputable def e_139 : vE := (139, s_139, pre0, post0)
noncomputable def L_139 : List vE := [e_199k764]
def cs_139 : List vC := [(4, [(0, (3, 9, 281, 0)), (1, (0, -2147483648, 2147483647, 0)), (2, (0, -2147483648, 2147483647, 0))])]
def mub_139_4 (a0 x0 x1 x2 : Int) (h0 h : gH) : Nat := (2147483648 - x2).toNat
def A_139 : Int → List Int → gH → gH → Prop := fun c xs h0 h => True
def mu_139 : Int → List Int → gH → gH → Nat := fun c xs h0 h => match c.toNat with
  | 4 => (match xs with
    | [a0, x0, x1, x2] => mub_139_4 a0 x0 x1 x2 h0 h
    | _ => 0)
  | _ => 0
theorem q_139_0 {n0 n1 n2 : Int} {H0 : gH}  : True ∧ ∀ q, none = some q → mub_139_4 n0 n0 n1 n2 H0 H0 < q := by
  exact ⟨trivial, fun q hq => nomatch hq⟩
theorem c_139_s_0 : vOkm T0 (eP e_139 L_139 A_139 mu_139 none) 1 ([], (4000, [0, 1, 2], [0], 4)) := vOk_inI fun ρ η => q_139_0 (n0 := ρ 0) (n1 := ρ 1) (n2 := ρ 2) (H0 := η 0)
def p_139_s : List vG := [([], (4000, [0, 1, 2], [0], 4))]
theorem r_139_s : vCovO true (eR0 e_139 L_139 cs_139 2000) p_139_s = true := by decide +kernel
theorem q_139_1 {q0 : Nat} {n0 n1 n2 n3 n4 n5 n6 : Int} {H0 H1 H2 : gH} (f0 : n0 ≤ 2147483647) (f1 : (-2147483648) ≤ n0) (f2 : (hLe T0 H0 H1 ∧ hFr s_139.2.2.2.2 H0 H1 ∧ hWt T0 H1) ∧ (True ∧ True) ∧ some q0 = some (mub_139_4 n1 n2 n3 n0 H0 H1)) (f3 : n4 = 60) (f4 : n0 < n4) (f5 : n5 = w32 (n0 + 1)) : True ∧ ∀ q, some q0 = some q → mub_139_4 n1 n2 n6 n5 H0 H2 < q := by
  have g5 := Option.some.inj f2.2.2
  unfold mub_139_4 at g5
  unfold mub_139_4
  unfold w32 at f5
  refine ⟨?_, fun q hq => ?_⟩
  · trivial
  · have g6 := Option.some.inj hq
    subst g6
    omega
theorem c_139_4_0 {q0 : Nat} : vOkm T0 (eP e_139 L_139 A_139 mu_139 (some q0)) 1 ([(10, [8, 3], [], 1), (42, [3, 4], [], 0), (0, [4], [], 60), (5000, [0, 1, 2, 3], [0, 1], 4), (90, [3], [], -2147483648), (91, [3], [], 2147483647)], (4000, [1, 7, 8], [2], 4)) := vOk_inI fun ρ η f0 f1 f2 f3 f4 f5 => q_139_1 (q0 := q0) (n0 := ρ 3) (n1 := ρ 0) (n2 := ρ 1) (n3 := ρ 2) (n4 := ρ 4) (n5 := ρ 8) (n6 := ρ 7) (H0 := η 0) (H1 := η 1) (H2 := η 2) f5 f4 f3 f2 f1 f0
def p_139_4 : List vG := [([(10, [8, 3], [], 1), (42, [3, 4], [], 0), (0, [4], [], 60), (5000, [0, 1, 2, 3], [0, 1], 4), (90, [3], [], -2147483648), (91, [3], [], 2147483647)], (4000, [1, 7, 8], [2], 4))]
theorem r_139_4 : vCovO true (eRc e_139 L_139 cs_139 2000 (4, [(0, (3, 9, 281, 0)), (1, (0, -2147483648, 2147483647, 0)), (2, (0, -2147483648, 2147483647, 0))])) p_139_4 = true := by decide +kernel
theorem m_139 (d : Nat) : eC e_139 (d + 2) := eC_ok (e := e_139) (L := L_139) (cs := cs_139) (n := 2000) (d := d + 1) (A := A_139) (μ := mu_139) (tp := true) (p0 := p_139_s) rfl ⟨m_199k764 d, trivial⟩ rfl (.inr pre0_ok) (by decide +kernel) (fun _ => post0_ok) r_139_s (allC c_139_s_0 allN) (allC (.inl ⟨p_139_4, r_139_4, fun q0 => (allC c_139_4_0 allN)⟩) allN)
/- Tracer.fateOf (ILMixStage$Cue;I)I -/
noncomputable def s_137 : vM := ([(3, 9, 281, 0), (0, -2147483648, 2147483647, 0), (3, 1, -1, 0), (0, -2147483648, 2147483647, 0)], (0, -2147483648, 2147483647, 0), 0, 0, [(10, 0), (10, 1), (10, 2), (748, 0), (764, 0)])
noncomputable def e_137 : vE := (137, s_137, pre0, post0)
noncomputable def L_137 : List vE := [e_53, e_58, e_134, e_135, e_138, e_139, e_199k764, e_201k764, e_203k764]
def cs_137 : List vC := [(42, [(0, (3, 9, 281, 0)), (1, (0, -2147483648, 2147483647, 0)), (2, (3, 1, -1, 0)), (3, (0, -2147483648, 2147483647, 0)), (4, (0, -2147483648, 2147483647, 0)), (5, (0, -2147483648, 2147483647, 0)), (6, (0, -2147483648, 2147483647, 0)), (7, (0, -2147483648, 2147483647, 0)), (8, (0, -2147483648, 2147483647, 0)), (9, (0, -2147483648, 2147483647, 0)), (10, (0, -2147483648, 2147483647, 0))])]
def mub_137_42 (a0 a1 a2 a3 x0 x1 x2 x3 x4 x5 x6 x7 x8 x9 x10 : Int) (h0 h : gH) : Nat := (2147483648 - x10).toNat
def A_137 : Int → List Int → gH → gH → Prop := fun c xs h0 h => True
def mu_137 : Int → List Int → gH → gH → Nat := fun c xs h0 h => match c.toNat with
  | 42 => (match xs with
    | [a0, a1, a2, a3, x0, x1, x2, x3, x4, x5, x6, x7, x8, x9, x10] => mub_137_42 a0 a1 a2 a3 x0 x1 x2 x3 x4 x5 x6 x7 x8 x9 x10 h0 h
    | _ => 0)
  | _ => 0
theorem q_137_0 {n0 n1 n2 n3 n4 n5 n6 n7 n8 n9 n10 : Int} {H0 H1 : gH}  : True ∧ ∀ q, none = some q → mub_137_42 n0 n1 n2 n3 n0 n1 n2 n3 n4 n5 n6 n7 n8 n9 n10 H0 H1 < q := by
  exact ⟨trivial, fun q hq => nomatch hq⟩
theorem c_137_s_0 : vOkm T0 (eP e_137 L_137 A_137 mu_137 none) 4 ([], (4000, [0, 1, 2, 3, 6, 7, 8, 9, 10, 12, 13], [3], 42)) := vOk_inI fun ρ η => q_137_0 (n0 := ρ 0) (n1 := ρ 1) (n2 := ρ 2) (n3 := ρ 3) (n4 := ρ 6) (n5 := ρ 7) (n6 := ρ 8) (n7 := ρ 9) (n8 := ρ 10) (n9 := ρ 12) (n10 := ρ 13) (H0 := η 0) (H1 := η 3)
def p_137_s : List vG := [([], (4000, [0, 1, 2, 3, 6, 7, 8, 9, 10, 12, 13], [3], 42))]
theorem r_137_s : vCovO true (eR0 e_137 L_137 cs_137 2000) p_137_s = true := by decide +kernel
theorem q_137_1 {q0 : Nat} {n0 n1 n2 n3 n4 n5 n6 n7 n8 n9 n10 n11 n12 n13 n14 n15 : Int} {H0 H1 H2 : gH} (f0 : n0 ≤ 2147483647) (f1 : (-2147483648) ≤ n0) (f2 : n1 ≤ 2147483647) (f3 : (-2147483648) ≤ n1) (f4 : (hLe T0 H0 H1 ∧ hFr s_137.2.2.2.2 H0 H1 ∧ hWt T0 H1) ∧ (True ∧ True) ∧ some q0 = some (mub_137_42 n2 n3 n4 n5 n6 n7 n8 n9 n10 n11 n12 n13 n14 n1 n0 H0 H1)) (f5 : n0 < n1) (f6 : n15 = w32 (n0 + 1)) : True ∧ ∀ q, some q0 = some q → mub_137_42 n2 n3 n4 n5 n6 n7 n8 n9 n10 n11 n12 n13 n14 n1 n15 H0 H2 < q := by
  have g5 := Option.some.inj f4.2.2
  unfold mub_137_42 at g5
  unfold mub_137_42
  unfold w32 at f6
  refine ⟨?_, fun q hq => ?_⟩
  · trivial
  · have g6 := Option.some.inj hq
    subst g6
    omega
theorem c_137_42_0 {q0 : Nat} : vOkm T0 (eP e_137 L_137 A_137 mu_137 (some q0)) 4 ([(10, [16, 14], [], 1), (42, [14, 13], [], 0), (5000, [0, 1, 2, 3, 4, 5, 6, 7, 8, 9, 10, 11, 12, 13, 14], [0, 1], 42), (90, [13], [], -2147483648), (91, [13], [], 2147483647), (90, [14], [], -2147483648), (91, [14], [], 2147483647)], (4000, [4, 5, 6, 7, 8, 9, 10, 11, 12, 13, 16], [2], 42)) := vOk_inI fun ρ η f0 f1 f2 f3 f4 f5 f6 => q_137_1 (q0 := q0) (n0 := ρ 14) (n1 := ρ 13) (n2 := ρ 0) (n3 := ρ 1) (n4 := ρ 2) (n5 := ρ 3) (n6 := ρ 4) (n7 := ρ 5) (n8 := ρ 6) (n9 := ρ 7) (n10 := ρ 8) (n11 := ρ 9) (n12 := ρ 10) (n13 := ρ 11) (n14 := ρ 12) (n15 := ρ 16) (H0 := η 0) (H1 := η 1) (H2 := η 2) f6 f5 f4 f3 f2 f1 f0
theorem q_137_2 {q0 : Nat} {n0 n1 n2 n3 n4 n5 n6 n7 n8 n9 n10 n11 n12 n13 n14 n15 n16 n17 n18 n19 : Int} {H0 H1 H2 : gH} (f0 : n0 ≤ 2147483647) (f1 : (-2147483648) ≤ n0) (f2 : n1 ≤ 2147483647) (f3 : (-2147483648) ≤ n1) (f4 : (hLe T0 H0 H1 ∧ hFr s_137.2.2.2.2 H0 H1 ∧ hWt T0 H1) ∧ (True ∧ True) ∧ some q0 = some (mub_137_42 n2 n3 n4 n5 n6 n7 n8 n9 n10 n11 n12 n13 n14 n1 n0 H0 H1)) (f5 : n0 < n1) (f6 : n15 = w32 (n0 + 1)) : True ∧ ∀ q, some q0 = some q → mub_137_42 n2 n3 n4 n5 n6 n7 n8 n9 n16 n0 n17 n18 n19 n1 n15 H0 H2 < q := by
  have g5 := Option.some.inj f4.2.2
  unfold mub_137_42 at g5
  unfold mub_137_42
  unfold w32 at f6
  refine ⟨?_, fun q hq => ?_⟩
  · trivial
  · have g6 := Option.some.inj hq
    subst g6
    omega
theorem c_137_42_1 {q0 : Nat} : vOkm T0 (eP e_137 L_137 A_137 mu_137 (some q0)) 4 ([(10, [27, 14], [], 1), (42, [14, 13], [], 0), (5000, [0, 1, 2, 3, 4, 5, 6, 7, 8, 9, 10, 11, 12, 13, 14], [0, 1], 42), (90, [13], [], -2147483648), (91, [13], [], 2147483647), (90, [14], [], -2147483648), (91, [14], [], 2147483647)], (4000, [4, 5, 6, 7, 26, 14, 17, 25, 21, 13, 27], [5], 42)) := vOk_inI fun ρ η f0 f1 f2 f3 f4 f5 f6 => q_137_2 (q0 := q0) (n0 := ρ 14) (n1 := ρ 13) (n2 := ρ 0) (n3 := ρ 1) (n4 := ρ 2) (n5 := ρ 3) (n6 := ρ 4) (n7 := ρ 5) (n8 := ρ 6) (n9 := ρ 7) (n10 := ρ 8) (n11 := ρ 9) (n12 := ρ 10) (n13 := ρ 11) (n14 := ρ 12) (n15 := ρ 27) (n16 := ρ 26) (n17 := ρ 17) (n18 := ρ 25) (n19 := ρ 21) (H0 := η 0) (H1 := η 1) (H2 := η 5) f6 f5 f4 f3 f2 f1 f0
theorem q_137_3 {q0 : Nat} {n0 n1 n2 n3 n4 n5 n6 n7 n8 n9 n10 n11 n12 n13 n14 n15 n16 n17 n18 n19 n20 n21 : Int} {H0 H1 H2 : gH} (f0 : n0 ≤ 2147483647) (f1 : (-2147483648) ≤ n0) (f2 : n1 ≤ 2147483647) (f3 : (-2147483648) ≤ n1) (f4 : n2 ≤ 2147483647) (f5 : (-2147483648) ≤ n2) (f6 : (hLe T0 H0 H1 ∧ hFr s_137.2.2.2.2 H0 H1 ∧ hWt T0 H1) ∧ (True ∧ True) ∧ some q0 = some (mub_137_42 n3 n4 n5 n6 n7 n8 n9 n10 n11 n2 n12 n13 n14 n1 n0 H0 H1)) (f7 : n0 < n1) (f8 : n15 = 1) (f9 : n16 = w32 (n2 + n15)) (f10 : n0 ≠ n16) (f11 : n17 = w32 (n0 + 1)) : True ∧ ∀ q, some q0 = some q → mub_137_42 n3 n4 n5 n6 n7 n8 n9 n10 n18 n0 n19 n20 n21 n1 n17 H0 H2 < q := by
  have g5 := Option.some.inj f6.2.2
  unfold mub_137_42 at g5
  unfold mub_137_42
  unfold w32 at f9 f11
  refine ⟨?_, fun q hq => ?_⟩
  · trivial
  · have g6 := Option.some.inj hq
    subst g6
    omega
theorem c_137_42_2 {q0 : Nat} : vOkm T0 (eP e_137 L_137 A_137 mu_137 (some q0)) 4 ([(10, [29, 14], [], 1), (41, [14, 25], [], 0), (1, [25, 9, 24], [], 0), (0, [24], [], 1), (42, [14, 13], [], 0), (5000, [0, 1, 2, 3, 4, 5, 6, 7, 8, 9, 10, 11, 12, 13, 14], [0, 1], 42), (90, [9], [], -2147483648), (91, [9], [], 2147483647), (90, [13], [], -2147483648), (91, [13], [], 2147483647), (90, [14], [], -2147483648), (91, [14], [], 2147483647)], (4000, [4, 5, 6, 7, 28, 14, 17, 27, 21, 13, 29], [5], 42)) := vOk_inI fun ρ η f0 f1 f2 f3 f4 f5 f6 f7 f8 f9 f10 f11 => q_137_3 (q0 := q0) (n0 := ρ 14) (n1 := ρ 13) (n2 := ρ 9) (n3 := ρ 0) (n4 := ρ 1) (n5 := ρ 2) (n6 := ρ 3) (n7 := ρ 4) (n8 := ρ 5) (n9 := ρ 6) (n10 := ρ 7) (n11 := ρ 8) (n12 := ρ 10) (n13 := ρ 11) (n14 := ρ 12) (n15 := ρ 24) (n16 := ρ 25) (n17 := ρ 29) (n18 := ρ 28) (n19 := ρ 17) (n20 := ρ 27) (n21 := ρ 21) (H0 := η 0) (H1 := η 1) (H2 := η 5) f11 f10 f9 f8 f7 f6 f5 f4 f3 f2 f1 f0
theorem q_137_4 {q0 : Nat} {n0 n1 n2 n3 n4 n5 n6 n7 n8 n9 n10 n11 n12 n13 n14 n15 n16 n17 n18 n19 n20 n21 : Int} {H0 H1 H2 : gH} (f0 : n0 ≤ 2147483647) (f1 : (-2147483648) ≤ n0) (f2 : n1 ≤ 2147483647) (f3 : (-2147483648) ≤ n1) (f4 : n2 ≤ 2147483647) (f5 : (-2147483648) ≤ n2) (f6 : (hLe T0 H0 H1 ∧ hFr s_137.2.2.2.2 H0 H1 ∧ hWt T0 H1) ∧ (True ∧ True) ∧ some q0 = some (mub_137_42 n3 n4 n5 n6 n7 n8 n9 n10 n11 n2 n12 n13 n14 n1 n0 H0 H1)) (f7 : n0 < n1) (f8 : n15 = 1) (f9 : n16 = w32 (n2 + n15)) (f10 : n0 = n16) (f11 : n17 = w32 (n0 + 1)) : True ∧ ∀ q, some q0 = some q → mub_137_42 n3 n4 n5 n6 n7 n8 n9 n10 n18 n0 n19 n20 n21 n1 n17 H0 H2 < q := by
  have g5 := Option.some.inj f6.2.2
  unfold mub_137_42 at g5
  unfold mub_137_42
  unfold w32 at f9 f11
  refine ⟨?_, fun q hq => ?_⟩
  · trivial
  · have g6 := Option.some.inj hq
    subst g6
    omega
theorem c_137_42_3 {q0 : Nat} : vOkm T0 (eP e_137 L_137 A_137 mu_137 (some q0)) 4 ([(10, [30, 14], [], 1), (40, [14, 25], [], 0), (1, [25, 9, 24], [], 0), (0, [24], [], 1), (42, [14, 13], [], 0), (5000, [0, 1, 2, 3, 4, 5, 6, 7, 8, 9, 10, 11, 12, 13, 14], [0, 1], 42), (90, [9], [], -2147483648), (91, [9], [], 2147483647), (90, [13], [], -2147483648), (91, [13], [], 2147483647), (90, [14], [], -2147483648), (91, [14], [], 2147483647)], (4000, [4, 5, 6, 7, 29, 14, 17, 28, 21, 13, 30], [6], 42)) := vOk_inI fun ρ η f0 f1 f2 f3 f4 f5 f6 f7 f8 f9 f10 f11 => q_137_4 (q0 := q0) (n0 := ρ 14) (n1 := ρ 13) (n2 := ρ 9) (n3 := ρ 0) (n4 := ρ 1) (n5 := ρ 2) (n6 := ρ 3) (n7 := ρ 4) (n8 := ρ 5) (n9 := ρ 6) (n10 := ρ 7) (n11 := ρ 8) (n12 := ρ 10) (n13 := ρ 11) (n14 := ρ 12) (n15 := ρ 24) (n16 := ρ 25) (n17 := ρ 30) (n18 := ρ 29) (n19 := ρ 17) (n20 := ρ 28) (n21 := ρ 21) (H0 := η 0) (H1 := η 1) (H2 := η 6) f11 f10 f9 f8 f7 f6 f5 f4 f3 f2 f1 f0
theorem c_137_42_4 {q0 : Nat} : vOkm T0 (eP e_137 L_137 A_137 mu_137 (some q0)) 4 ([(10, [30, 14], [], 1), (40, [14, 25], [], 0), (1, [25, 9, 24], [], 0), (0, [24], [], 1), (42, [14, 13], [], 0), (5000, [0, 1, 2, 3, 4, 5, 6, 7, 8, 9, 10, 11, 12, 13, 14], [0, 1], 42), (90, [9], [], -2147483648), (91, [9], [], 2147483647), (90, [13], [], -2147483648), (91, [13], [], 2147483647), (90, [14], [], -2147483648), (91, [14], [], 2147483647)], (4000, [4, 5, 6, 7, 29, 14, 17, 28, 21, 13, 30], [6], 42)) := vOk_inI fun ρ η f0 f1 f2 f3 f4 f5 f6 f7 f8 f9 f10 f11 => q_137_4 (q0 := q0) (n0 := ρ 14) (n1 := ρ 13) (n2 := ρ 9) (n3 := ρ 0) (n4 := ρ 1) (n5 := ρ 2) (n6 := ρ 3) (n7 := ρ 4) (n8 := ρ 5) (n9 := ρ 6) (n10 := ρ 7) (n11 := ρ 8) (n12 := ρ 10) (n13 := ρ 11) (n14 := ρ 12) (n15 := ρ 24) (n16 := ρ 25) (n17 := ρ 30) (n18 := ρ 29) (n19 := ρ 17) (n20 := ρ 28) (n21 := ρ 21) (H0 := η 0) (H1 := η 1) (H2 := η 6) f11 f10 f9 f8 f7 f6 f5 f4 f3 f2 f1 f0
theorem c_137_42_5 {q0 : Nat} : vOkm T0 (eP e_137 L_137 A_137 mu_137 (some q0)) 4 ([(10, [27, 14], [], 1), (42, [14, 13], [], 0), (5000, [0, 1, 2, 3, 4, 5, 6, 7, 8, 9, 10, 11, 12, 13, 14], [0, 1], 42), (90, [13], [], -2147483648), (91, [13], [], 2147483647), (90, [14], [], -2147483648), (91, [14], [], 2147483647)], (4000, [4, 5, 6, 7, 26, 14, 17, 25, 21, 13, 27], [5], 42)) := vOk_inI fun ρ η f0 f1 f2 f3 f4 f5 f6 => q_137_2 (q0 := q0) (n0 := ρ 14) (n1 := ρ 13) (n2 := ρ 0) (n3 := ρ 1) (n4 := ρ 2) (n5 := ρ 3) (n6 := ρ 4) (n7 := ρ 5) (n8 := ρ 6) (n9 := ρ 7) (n10 := ρ 8) (n11 := ρ 9) (n12 := ρ 10) (n13 := ρ 11) (n14 := ρ 12) (n15 := ρ 27) (n16 := ρ 26) (n17 := ρ 17) (n18 := ρ 25) (n19 := ρ 21) (H0 := η 0) (H1 := η 1) (H2 := η 5) f6 f5 f4 f3 f2 f1 f0
theorem c_137_42_6 {q0 : Nat} : vOkm T0 (eP e_137 L_137 A_137 mu_137 (some q0)) 4 ([(10, [29, 14], [], 1), (41, [14, 25], [], 0), (1, [25, 9, 24], [], 0), (0, [24], [], 1), (42, [14, 13], [], 0), (5000, [0, 1, 2, 3, 4, 5, 6, 7, 8, 9, 10, 11, 12, 13, 14], [0, 1], 42), (90, [9], [], -2147483648), (91, [9], [], 2147483647), (90, [13], [], -2147483648), (91, [13], [], 2147483647), (90, [14], [], -2147483648), (91, [14], [], 2147483647)], (4000, [4, 5, 6, 7, 28, 14, 17, 27, 21, 13, 29], [5], 42)) := vOk_inI fun ρ η f0 f1 f2 f3 f4 f5 f6 f7 f8 f9 f10 f11 => q_137_3 (q0 := q0) (n0 := ρ 14) (n1 := ρ 13) (n2 := ρ 9) (n3 := ρ 0) (n4 := ρ 1) (n5 := ρ 2) (n6 := ρ 3) (n7 := ρ 4) (n8 := ρ 5) (n9 := ρ 6) (n10 := ρ 7) (n11 := ρ 8) (n12 := ρ 10) (n13 := ρ 11) (n14 := ρ 12) (n15 := ρ 24) (n16 := ρ 25) (n17 := ρ 29) (n18 := ρ 28) (n19 := ρ 17) (n20 := ρ 27) (n21 := ρ 21) (H0 := η 0) (H1 := η 1) (H2 := η 5) f11 f10 f9 f8 f7 f6 f5 f4 f3 f2 f1 f0
theorem c_137_42_7 {q0 : Nat} : vOkm T0 (eP e_137 L_137 A_137 mu_137 (some q0)) 4 ([(10, [30, 14], [], 1), (40, [14, 25], [], 0), (1, [25, 9, 24], [], 0), (0, [24], [], 1), (42, [14, 13], [], 0), (5000, [0, 1, 2, 3, 4, 5, 6, 7, 8, 9, 10, 11, 12, 13, 14], [0, 1], 42), (90, [9], [], -2147483648), (91, [9], [], 2147483647), (90, [13], [], -2147483648), (91, [13], [], 2147483647), (90, [14], [], -2147483648), (91, [14], [], 2147483647)], (4000, [4, 5, 6, 7, 29, 14, 17, 28, 21, 13, 30], [6], 42)) := vOk_inI fun ρ η f0 f1 f2 f3 f4 f5 f6 f7 f8 f9 f10 f11 => q_137_4 (q0 := q0) (n0 := ρ 14) (n1 := ρ 13) (n2 := ρ 9) (n3 := ρ 0) (n4 := ρ 1) (n5 := ρ 2) (n6 := ρ 3) (n7 := ρ 4) (n8 := ρ 5) (n9 := ρ 6) (n10 := ρ 7) (n11 := ρ 8) (n12 := ρ 10) (n13 := ρ 11) (n14 := ρ 12) (n15 := ρ 24) (n16 := ρ 25) (n17 := ρ 30) (n18 := ρ 29) (n19 := ρ 17) (n20 := ρ 28) (n21 := ρ 21) (H0 := η 0) (H1 := η 1) (H2 := η 6) f11 f10 f9 f8 f7 f6 f5 f4 f3 f2 f1 f0
theorem c_137_42_8 {q0 : Nat} : vOkm T0 (eP e_137 L_137 A_137 mu_137 (some q0)) 4 ([(10, [30, 14], [], 1), (40, [14, 25], [], 0), (1, [25, 9, 24], [], 0), (0, [24], [], 1), (42, [14, 13], [], 0), (5000, [0, 1, 2, 3, 4, 5, 6, 7, 8, 9, 10, 11, 12, 13, 14], [0, 1], 42), (90, [9], [], -2147483648), (91, [9], [], 2147483647), (90, [13], [], -2147483648), (91, [13], [], 2147483647), (90, [14], [], -2147483648), (91, [14], [], 2147483647)], (4000, [4, 5, 6, 7, 29, 14, 17, 28, 21, 13, 30], [6], 42)) := vOk_inI fun ρ η f0 f1 f2 f3 f4 f5 f6 f7 f8 f9 f10 f11 => q_137_4 (q0 := q0) (n0 := ρ 14) (n1 := ρ 13) (n2 := ρ 9) (n3 := ρ 0) (n4 := ρ 1) (n5 := ρ 2) (n6 := ρ 3) (n7 := ρ 4) (n8 := ρ 5) (n9 := ρ 6) (n10 := ρ 7) (n11 := ρ 8) (n12 := ρ 10) (n13 := ρ 11) (n14 := ρ 12) (n15 := ρ 24) (n16 := ρ 25) (n17 := ρ 30) (n18 := ρ 29) (n19 := ρ 17) (n20 := ρ 28) (n21 := ρ 21) (H0 := η 0) (H1 := η 1) (H2 := η 6) f11 f10 f9 f8 f7 f6 f5 f4 f3 f2 f1 f0
def p_137_42 : List vG := [([(10, [16, 14], [], 1), (42, [14, 13], [], 0), (5000, [0, 1, 2, 3, 4, 5, 6, 7, 8, 9, 10, 11, 12, 13, 14], [0, 1], 42), (90, [13], [], -2147483648), (91, [13], [], 2147483647), (90, [14], [], -2147483648), (91, [14], [], 2147483647)], (4000, [4, 5, 6, 7, 8, 9, 10, 11, 12, 13, 16], [2], 42)),
  ([(10, [27, 14], [], 1), (42, [14, 13], [], 0), (5000, [0, 1, 2, 3, 4, 5, 6, 7, 8, 9, 10, 11, 12, 13, 14], [0, 1], 42), (90, [13], [], -2147483648), (91, [13], [], 2147483647), (90, [14], [], -2147483648), (91, [14], [], 2147483647)], (4000, [4, 5, 6, 7, 26, 14, 17, 25, 21, 13, 27], [5], 42)),
  ([(10, [29, 14], [], 1), (41, [14, 25], [], 0), (1, [25, 9, 24], [], 0), (0, [24], [], 1), (42, [14, 13], [], 0), (5000, [0, 1, 2, 3, 4, 5, 6, 7, 8, 9, 10, 11, 12, 13, 14], [0, 1], 42), (90, [9], [], -2147483648), (91, [9], [], 2147483647), (90, [13], [], -2147483648), (91, [13], [], 2147483647), (90, [14], [], -2147483648), (91, [14], [], 2147483647)], (4000, [4, 5, 6, 7, 28, 14, 17, 27, 21, 13, 29], [5], 42)),
  ([(10, [30, 14], [], 1), (40, [14, 25], [], 0), (1, [25, 9, 24], [], 0), (0, [24], [], 1), (42, [14, 13], [], 0), (5000, [0, 1, 2, 3, 4, 5, 6, 7, 8, 9, 10, 11, 12, 13, 14], [0, 1], 42), (90, [9], [], -2147483648), (91, [9], [], 2147483647), (90, [13], [], -2147483648), (91, [13], [], 2147483647), (90, [14], [], -2147483648), (91, [14], [], 2147483647)], (4000, [4, 5, 6, 7, 29, 14, 17, 28, 21, 13, 30], [6], 42)),
  ([(10, [30, 14], [], 1), (40, [14, 25], [], 0), (1, [25, 9, 24], [], 0), (0, [24], [], 1), (42, [14, 13], [], 0), (5000, [0, 1, 2, 3, 4, 5, 6, 7, 8, 9, 10, 11, 12, 13, 14], [0, 1], 42), (90, [9], [], -2147483648), (91, [9], [], 2147483647), (90, [13], [], -2147483648), (91, [13], [], 2147483647), (90, [14], [], -2147483648), (91, [14], [], 2147483647)], (4000, [4, 5, 6, 7, 29, 14, 17, 28, 21, 13, 30], [6], 42)),
  ([(10, [27, 14], [], 1), (42, [14, 13], [], 0), (5000, [0, 1, 2, 3, 4, 5, 6, 7, 8, 9, 10, 11, 12, 13, 14], [0, 1], 42), (90, [13], [], -2147483648), (91, [13], [], 2147483647), (90, [14], [], -2147483648), (91, [14], [], 2147483647)], (4000, [4, 5, 6, 7, 26, 14, 17, 25, 21, 13, 27], [5], 42)),
  ([(10, [29, 14], [], 1), (41, [14, 25], [], 0), (1, [25, 9, 24], [], 0), (0, [24], [], 1), (42, [14, 13], [], 0), (5000, [0, 1, 2, 3, 4, 5, 6, 7, 8, 9, 10, 11, 12, 13, 14], [0, 1], 42), (90, [9], [], -2147483648), (91, [9], [], 2147483647), (90, [13], [], -2147483648), (91, [13], [], 2147483647), (90, [14], [], -2147483648), (91, [14], [], 2147483647)], (4000, [4, 5, 6, 7, 28, 14, 17, 27, 21, 13, 29], [5], 42)),
  ([(10, [30, 14], [], 1), (40, [14, 25], [], 0), (1, [25, 9, 24], [], 0), (0, [24], [], 1), (42, [14, 13], [], 0), (5000, [0, 1, 2, 3, 4, 5, 6, 7, 8, 9, 10, 11, 12, 13, 14], [0, 1], 42), (90, [9], [], -2147483648), (91, [9], [], 2147483647), (90, [13], [], -2147483648), (91, [13], [], 2147483647), (90, [14], [], -2147483648), (91, [14], [], 2147483647)], (4000, [4, 5, 6, 7, 29, 14, 17, 28, 21, 13, 30], [6], 42)),
  ([(10, [30, 14], [], 1), (40, [14, 25], [], 0), (1, [25, 9, 24], [], 0), (0, [24], [], 1), (42, [14, 13], [], 0), (5000, [0, 1, 2, 3, 4, 5, 6, 7, 8, 9, 10, 11, 12, 13, 14], [0, 1], 42), (90, [9], [], -2147483648), (91, [9], [], 2147483647), (90, [13], [], -2147483648), (91, [13], [], 2147483647), (90, [14], [], -2147483648), (91, [14], [], 2147483647)], (4000, [4, 5, 6, 7, 29, 14, 17, 28, 21, 13, 30], [6], 42))]
theorem r_137_42 : vCovO true (eRc e_137 L_137 cs_137 2000 (42, [(0, (3, 9, 281, 0)), (1, (0, -2147483648, 2147483647, 0)), (2, (3, 1, -1, 0)), (3, (0, -2147483648, 2147483647, 0)), (4, (0, -2147483648, 2147483647, 0)), (5, (0, -2147483648, 2147483647, 0)), (6, (0, -2147483648, 2147483647, 0)), (7, (0, -2147483648, 2147483647, 0)), (8, (0, -2147483648, 2147483647, 0)), (9, (0, -2147483648, 2147483647, 0)), (10, (0, -2147483648, 2147483647, 0))])) p_137_42 = true := by decide +kernel
theorem m_137 (d : Nat) : eC e_137 (d + 6) := eC_ok (e := e_137) (L := L_137) (cs := cs_137) (n := 2000) (d := d + 5) (A := A_137) (μ := mu_137) (tp := true) (p0 := p_137_s) rfl ⟨m_53 (d + 3), ⟨m_58 (d + 3), ⟨m_134 d, ⟨m_135 (d + 2), ⟨m_138 (d + 3), ⟨m_139 (d + 3), ⟨m_199k764 (d + 4), ⟨m_201k764 (d + 4), ⟨m_203k764 (d + 3), trivial⟩⟩⟩⟩⟩⟩⟩⟩⟩ rfl (.inr pre0_ok) (by decide +kernel) (fun _ => post0_ok) r_137_s (allC c_137_s_0 allN) (allC (.inl ⟨p_137_42, r_137_42, fun q0 => (allC c_137_42_0 (allC c_137_42_1 (allC c_137_42_2 (allC c_137_42_3 (allC c_137_42_4 (allC c_137_42_5 (allC c_137_42_6 (allC c_137_42_7 (allC c_137_42_8 allN)))))))))⟩) allN)
/- Tracer.isOfMusic (II)Z -/
noncomputable def s_140 : vM := ([(3, 9, 281, 0), (0, -2147483648, 2147483647, 0), (0, -2147483648, 2147483647, 0)], (0, 0, 1, 0), 0, 0, [])
noncomputable def e_140 : vE := (140, s_140, pre0, post0)
noncomputable def L_140 : List vE := [e_3]
def cs_140 : List vC := [(5, [(0, (3, 9, 281, 0)), (1, (0, -2147483648, 2147483647, 0)), (2, (0, -2147483648, 2147483647, 0)), (3, (0, -2147483648, 2147483647, 0)), (4, (0, -2147483648, 2147483647, 0))])]
def mub_140_5 (a0 a1 a2 x0 x1 x2 x3 x4 : Int) (h0 h : gH) : Nat := (2147483648 - x4).toNat
def A_140 : Int → List Int → gH → gH → Prop := fun c xs h0 h => True
def mu_140 : Int → List Int → gH → gH → Nat := fun c xs h0 h => match c.toNat with
  | 5 => (match xs with
    | [a0, a1, a2, x0, x1, x2, x3, x4] => mub_140_5 a0 a1 a2 x0 x1 x2 x3 x4 h0 h
    | _ => 0)
  | _ => 0
theorem q_140_0 {n0 n1 n2 n3 : Int} {H0 : gH}  : True ∧ ∀ q, none = some q → mub_140_5 n0 n1 n2 n0 n1 n2 n1 n3 H0 H0 < q := by
  exact ⟨trivial, fun q hq => nomatch hq⟩
theorem c_140_s_0 : vOkm T0 (eP e_140 L_140 A_140 mu_140 none) 3 ([], (4000, [0, 1, 2, 1, 3], [0], 5)) := vOk_inI fun ρ η => q_140_0 (n0 := ρ 0) (n1 := ρ 1) (n2 := ρ 2) (n3 := ρ 3) (H0 := η 0)
def p_140_s : List vG := [([], (4000, [0, 1, 2, 1, 3], [0], 5))]
theorem r_140_s : vCovO true (eR0 e_140 L_140 cs_140 2000) p_140_s = true := by decide +kernel
theorem q_140_1 {q0 : Nat} {n0 n1 n2 n3 n4 n5 n6 n7 n8 n9 n10 : Int} {H0 H1 H2 : gH} (f0 : n0 ≤ 2147483647) (f1 : (-2147483648) ≤ n0) (f2 : (hLe T0 H0 H1 ∧ hFr s_140.2.2.2.2 H0 H1 ∧ hWt T0 H1) ∧ (True ∧ True) ∧ some q0 = some (mub_140_5 n1 n2 n3 n4 n5 n6 n7 n0 H0 H1)) (f3 : n8 = 20) (f4 : n0 < n8) (f5 : n9 = w32 (n0 + 1)) : True ∧ ∀ q, some q0 = some q → mub_140_5 n1 n2 n3 n4 n5 n6 n10 n9 H0 H2 < q := by
  have g5 := Option.some.inj f2.2.2
  unfold mub_140_5 at g5
  unfold mub_140_5
  unfold w32 at f5
  refine ⟨?_, fun q hq => ?_⟩
  · trivial
  · have g6 := Option.some.inj hq
    subst g6
    omega
theorem c_140_5_0 {q0 : Nat} : vOkm T0 (eP e_140 L_140 A_140 mu_140 (some q0)) 3 ([(10, [13, 7], [], 1), (42, [7, 8], [], 0), (0, [8], [], 20), (5000, [0, 1, 2, 3, 4, 5, 6, 7], [0, 1], 5), (90, [7], [], -2147483648), (91, [7], [], 2147483647)], (4000, [3, 4, 5, 12, 13], [2], 5)) := vOk_inI fun ρ η f0 f1 f2 f3 f4 f5 => q_140_1 (q0 := q0) (n0 := ρ 7) (n1 := ρ 0) (n2 := ρ 1) (n3 := ρ 2) (n4 := ρ 3) (n5 := ρ 4) (n6 := ρ 5) (n7 := ρ 6) (n8 := ρ 8) (n9 := ρ 13) (n10 := ρ 12) (H0 := η 0) (H1 := η 1) (H2 := η 2) f5 f4 f3 f2 f1 f0
theorem c_140_5_1 {q0 : Nat} : vOkm T0 (eP e_140 L_140 A_140 mu_140 (some q0)) 3 ([(10, [13, 7], [], 1), (42, [7, 8], [], 0), (0, [8], [], 20), (5000, [0, 1, 2, 3, 4, 5, 6, 7], [0, 1], 5), (90, [7], [], -2147483648), (91, [7], [], 2147483647)], (4000, [3, 4, 5, 12, 13], [2], 5)) := vOk_inI fun ρ η f0 f1 f2 f3 f4 f5 => q_140_1 (q0 := q0) (n0 := ρ 7) (n1 := ρ 0) (n2 := ρ 1) (n3 := ρ 2) (n4 := ρ 3) (n5 := ρ 4) (n6 := ρ 5) (n7 := ρ 6) (n8 := ρ 8) (n9 := ρ 13) (n10 := ρ 12) (H0 := η 0) (H1 := η 1) (H2 := η 2) f5 f4 f3 f2 f1 f0
def p_140_5 : List vG := [([(10, [13, 7], [], 1), (42, [7, 8], [], 0), (0, [8], [], 20), (5000, [0, 1, 2, 3, 4, 5, 6, 7], [0, 1], 5), (90, [7], [], -2147483648), (91, [7], [], 2147483647)], (4000, [3, 4, 5, 12, 13], [2], 5)),
  ([(10, [13, 7], [], 1), (42, [7, 8], [], 0), (0, [8], [], 20), (5000, [0, 1, 2, 3, 4, 5, 6, 7], [0, 1], 5), (90, [7], [], -2147483648), (91, [7], [], 2147483647)], (4000, [3, 4, 5, 12, 13], [2], 5))]
theorem r_140_5 : vCovO true (eRc e_140 L_140 cs_140 2000 (5, [(0, (3, 9, 281, 0)), (1, (0, -2147483648, 2147483647, 0)), (2, (0, -2147483648, 2147483647, 0)), (3, (0, -2147483648, 2147483647, 0)), (4, (0, -2147483648, 2147483647, 0))])) p_140_5 = true := by decide +kernel
theorem m_140 (d : Nat) : eC e_140 (d + 3) := eC_ok (e := e_140) (L := L_140) (cs := cs_140) (n := 2000) (d := d + 2) (A := A_140) (μ := mu_140) (tp := true) (p0 := p_140_s) rfl ⟨m_3 d, trivial⟩ rfl (.inr pre0_ok) (by decide +kernel) (fun _ => post0_ok) r_140_s (allC c_140_s_0 allN) (allC (.inl ⟨p_140_5, r_140_5, fun q0 => (allC c_140_5_0 (allC c_140_5_1 allN))⟩) allN)
/- Tracer.isLayOfMusic (LMixStage$Cue;I)Z -/
noncomputable def s_141 : vM := ([(3, 9, 281, 0), (2, 1, -1, 0), (0, -2147483648, 2147483647, 0)], (0, 0, 1, 0), 0, 0, [])
def postb_141 (r a0 a1 a2 : Int) (h0 h : gH) : Prop := r ≠ 0 → 0 ≤ a1
def post_141 : List Int → gH → gH → Prop := fun xs h0 h => match xs with
  | [r, a0, a1, a2] => postb_141 r a0 a1 a2 h0 h
  | _ => True
noncomputable def e_141 : vE := (141, s_141, pre0, post_141)
noncomputable def L_141 : List vE := [e_140]
def cs_141 : List vC := []
def A_141 : Int → List Int → gH → gH → Prop := fun c xs h0 h => True
def mu_141 : Int → List Int → gH → gH → Nat := fun c xs h0 h => 0
theorem q_141_0 {n0 n1 n2 n3 : Int} {H0 : gH} (f0 : n0 ≤ 2147483647) (f1 : (-2147483648) ≤ n0) (f2 : n1 = 281) (f3 : hWt T0 H0 ∧ True) (f4 : n2 = -1) (f5 : n3 = 0) : postb_141 n3 n1 n2 n0 H0 H0 := by
  unfold postb_141
  omega
theorem c_141_s_0 : vOkm T0 (eP e_141 L_141 A_141 mu_141 none) 3 ([(0, [3], [], 0), (50, [1], [], 0), (6000, [0, 1, 2], [0], 0), (0, [0], [], 281), (90, [2], [], -2147483648), (91, [2], [], 2147483647)], (3000, [3], [0], 28)) := vOk_inI fun ρ η f0 f1 f2 f3 f4 f5 => q_141_0 (n0 := ρ 2) (n1 := ρ 0) (n2 := ρ 1) (n3 := ρ 3) (H0 := η 0) f5 f4 f3 f2 f1 f0
theorem q_141_1 {n0 n1 n2 n3 : Int} {H0 : gH} (f0 : n0 ≤ 2147483647) (f1 : (-2147483648) ≤ n0) (f2 : n1 = 281) (f3 : hWt T0 H0 ∧ True) (f4 : 0 ≤ n2) (f5 : hK H0 (n2).toNat = 1) (f6 : n3 = 0) : postb_141 n3 n1 n2 n0 H0 H0 := by
  unfold postb_141
  omega
theorem c_141_s_1 : vOkm T0 (eP e_141 L_141 A_141 mu_141 none) 3 ([(0, [4], [], 0), (23, [1], [0], 1), (51, [1], [], 0), (6000, [0, 1, 2], [0], 0), (0, [0], [], 281), (90, [2], [], -2147483648), (91, [2], [], 2147483647)], (3000, [4], [0], 28)) := vOk_inI fun ρ η f0 f1 f2 f3 f4 f5 f6 => q_141_1 (n0 := ρ 2) (n1 := ρ 0) (n2 := ρ 1) (n3 := ρ 4) (H0 := η 0) f6 f5 f4 f3 f2 f1 f0
theorem q_141_2 {n0 n1 n2 n3 n4 n5 : Int} {H0 H1 : gH} (f0 : n0 ≤ 2147483647) (f1 : (-2147483648) ≤ n0) (f2 : n1 = 281) (f3 : hWt T0 H0 ∧ True) (f4 : 0 ≤ n2) (f5 : hK H0 (n2).toNat = 1) (f6 : n3 ≤ 2147483647) (f7 : (-2147483648) ≤ n3) (f8 : hK H0 (n2).toNat = 1) (f9 : n3 = hV H0 (n2).toNat 2) (f10 : n4 ≤ 1) (f11 : 0 ≤ n4) (f12 : (hLe T0 H0 H1 ∧ hFr s_140.2.2.2.2 H0 H1 ∧ ((0 : Int) = 0 → H1.length = H0.length) ∧ hWt T0 H1) ∧ True) (f13 : n4 = 0) (f14 : n5 = 0) : postb_141 n5 n1 n2 n0 H0 H1 := by
  unfold postb_141
  have e0 : n3 = hV H0 (n2).toNat 2 := f9
  omega
theorem c_141_s_2 : vOkm T0 (eP e_141 L_141 A_141 mu_141 none) 3 ([(0, [6], [], 0), (30, [5], [], 0), (1140, [5, 0, 4, 2], [0, 1], 0), (90, [5], [], 0), (91, [5], [], 1), (20, [4, 1], [0], 2), (23, [1], [0], 1), (90, [4], [], -2147483648), (91, [4], [], 2147483647), (23, [1], [0], 1), (51, [1], [], 0), (6000, [0, 1, 2], [0], 0), (0, [0], [], 281), (90, [2], [], -2147483648), (91, [2], [], 2147483647)], (3000, [6], [1], 28)) := vOk_inI fun ρ η f0 f1 f2 f3 f4 f5 f6 f7 f8 f9 f10 f11 f12 f13 f14 => q_141_2 (n0 := ρ 2) (n1 := ρ 0) (n2 := ρ 1) (n3 := ρ 4) (n4 := ρ 5) (n5 := ρ 6) (H0 := η 0) (H1 := η 1) f14 f13 f12 f11 f10 f9 f8 f7 f6 f5 f4 f3 f2 f1 f0
theorem q_141_3 {n0 n1 n2 n3 n4 n5 : Int} {H0 H1 : gH} (f0 : n0 ≤ 2147483647) (f1 : (-2147483648) ≤ n0) (f2 : n1 = 281) (f3 : hWt T0 H0 ∧ True) (f4 : 0 ≤ n2) (f5 : hK H0 (n2).toNat = 1) (f6 : n3 ≤ 2147483647) (f7 : (-2147483648) ≤ n3) (f8 : hK H0 (n2).toNat = 1) (f9 : n3 = hV H0 (n2).toNat 2) (f10 : n4 ≤ 1) (f11 : 0 ≤ n4) (f12 : (hLe T0 H0 H1 ∧ hFr s_140.2.2.2.2 H0 H1 ∧ ((0 : Int) = 0 → H1.length = H0.length) ∧ hWt T0 H1) ∧ True) (f13 : n4 ≠ 0) (f14 : n5 = 1) : postb_141 n5 n1 n2 n0 H0 H1 := by
  unfold postb_141
  have e0 : n3 = hV H0 (n2).toNat 2 := f9
  omega
theorem c_141_s_3 : vOkm T0 (eP e_141 L_141 A_141 mu_141 none) 3 ([(0, [6], [], 1), (31, [5], [], 0), (1140, [5, 0, 4, 2], [0, 1], 0), (90, [5], [], 0), (91, [5], [], 1), (20, [4, 1], [0], 2), (23, [1], [0], 1), (90, [4], [], -2147483648), (91, [4], [], 2147483647), (23, [1], [0], 1), (51, [1], [], 0), (6000, [0, 1, 2], [0], 0), (0, [0], [], 281), (90, [2], [], -2147483648), (91, [2], [], 2147483647)], (3000, [6], [1], 28)) := vOk_inI fun ρ η f0 f1 f2 f3 f4 f5 f6 f7 f8 f9 f10 f11 f12 f13 f14 => q_141_3 (n0 := ρ 2) (n1 := ρ 0) (n2 := ρ 1) (n3 := ρ 4) (n4 := ρ 5) (n5 := ρ 6) (H0 := η 0) (H1 := η 1) f14 f13 f12 f11 f10 f9 f8 f7 f6 f5 f4 f3 f2 f1 f0
def p_141_s : List vG := [([(0, [3], [], 0), (50, [1], [], 0), (6000, [0, 1, 2], [0], 0), (0, [0], [], 281), (90, [2], [], -2147483648), (91, [2], [], 2147483647)], (3000, [3], [0], 28)),
  ([(0, [4], [], 0), (23, [1], [0], 1), (51, [1], [], 0), (6000, [0, 1, 2], [0], 0), (0, [0], [], 281), (90, [2], [], -2147483648), (91, [2], [], 2147483647)], (3000, [4], [0], 28)),
  ([(0, [6], [], 0), (30, [5], [], 0), (1140, [5, 0, 4, 2], [0, 1], 0), (90, [5], [], 0), (91, [5], [], 1), (20, [4, 1], [0], 2), (23, [1], [0], 1), (90, [4], [], -2147483648), (91, [4], [], 2147483647), (23, [1], [0], 1), (51, [1], [], 0), (6000, [0, 1, 2], [0], 0), (0, [0], [], 281), (90, [2], [], -2147483648), (91, [2], [], 2147483647)], (3000, [6], [1], 28)),
  ([(0, [6], [], 1), (31, [5], [], 0), (1140, [5, 0, 4, 2], [0, 1], 0), (90, [5], [], 0), (91, [5], [], 1), (20, [4, 1], [0], 2), (23, [1], [0], 1), (90, [4], [], -2147483648), (91, [4], [], 2147483647), (23, [1], [0], 1), (51, [1], [], 0), (6000, [0, 1, 2], [0], 0), (0, [0], [], 281), (90, [2], [], -2147483648), (91, [2], [], 2147483647)], (3000, [6], [1], 28))]
theorem r_141_s : vCovO false (eR0 e_141 L_141 cs_141 2000) p_141_s = true := by decide +kernel
theorem m_141 (d : Nat) : eC e_141 (d + 4) := eC_ok (e := e_141) (L := L_141) (cs := cs_141) (n := 2000) (d := d + 3) (A := A_141) (μ := mu_141) (tp := false) (p0 := p_141_s) rfl ⟨m_140 d, trivial⟩ rfl (.inr pre0_ok) (by decide +kernel) (fun z => nomatch z) r_141_s (allC c_141_s_0 (allC c_141_s_1 (allC c_141_s_2 (allC c_141_s_3 allN)))) allN
/- Tracer.laysOfMusic (LMixStage$Sheet;I)I -/
noncomputable def s_142 : vM := ([(3, 9, 281, 0), (3, 6, -1, 0), (0, -2147483648, 2147483647, 0)], (0, -2147483648, 2147483647, 0), 0, 0, [])
noncomputable def e_142 : vE := (142, s_142, pre0, post0)
noncomputable def L_142 : List vE := [e_115, e_141]
def cs_142 : List vC := [(5, [(0, (3, 9, 281, 0)), (1, (3, 6, -1, 0)), (2, (0, -2147483648, 2147483647, 0)), (3, (0, -2147483648, 2147483647, 0)), (4, (0, -2147483648, 2147483647, 0))])]
def mub_142_5 (a0 a1 a2 x0 x1 x2 x3 x4 : Int) (h0 h : gH) : Nat := (2147483648 - x4).toNat
def A_142 : Int → List Int → gH → gH → Prop := fun c xs h0 h => True
def mu_142 : Int → List Int → gH → gH → Nat := fun c xs h0 h => match c.toNat with
  | 5 => (match xs with
    | [a0, a1, a2, x0, x1, x2, x3, x4] => mub_142_5 a0 a1 a2 x0 x1 x2 x3 x4 h0 h
    | _ => 0)
  | _ => 0
theorem q_142_0 {n0 n1 n2 n3 n4 : Int} {H0 : gH}  : True ∧ ∀ q, none = some q → mub_142_5 n0 n1 n2 n0 n1 n2 n3 n4 H0 H0 < q := by
  exact ⟨trivial, fun q hq => nomatch hq⟩
theorem c_142_s_0 : vOkm T0 (eP e_142 L_142 A_142 mu_142 none) 3 ([], (4000, [0, 1, 2, 3, 4], [0], 5)) := vOk_inI fun ρ η => q_142_0 (n0 := ρ 0) (n1 := ρ 1) (n2 := ρ 2) (n3 := ρ 3) (n4 := ρ 4) (H0 := η 0)
def p_142_s : List vG := [([], (4000, [0, 1, 2, 3, 4], [0], 5))]
theorem r_142_s : vCovO true (eR0 e_142 L_142 cs_142 2000) p_142_s = true := by decide +kernel
theorem q_142_1 {q0 : Nat} {n0 n1 n2 n3 n4 n5 n6 n7 n8 n9 n10 : Int} {H0 H1 H2 : gH} (f0 : n0 ≤ 2147483647) (f1 : (-2147483648) ≤ n0) (f2 : (hLe T0 H0 H1 ∧ hFr s_142.2.2.2.2 H0 H1 ∧ hWt T0 H1) ∧ (True ∧ True) ∧ some q0 = some (mub_142_5 n1 n2 n3 n4 n5 n6 n7 n0 H0 H1)) (f3 : n8 ≤ 40) (f4 : 0 ≤ n8) (f5 : n0 < n8) (f6 : n9 = w32 (n0 + 1)) : True ∧ ∀ q, some q0 = some q → mub_142_5 n1 n2 n3 n4 n5 n6 n10 n9 H0 H2 < q := by
  have g5 := Option.some.inj f2.2.2
  unfold mub_142_5 at g5
  unfold mub_142_5
  unfold w32 at f6
  refine ⟨?_, fun q hq => ?_⟩
  · trivial
  · have g6 := Option.some.inj hq
    subst g6
    omega
theorem c_142_5_0 {q0 : Nat} : vOkm T0 (eP e_142 L_142 A_142 mu_142 (some q0)) 3 ([(10, [13, 7], [], 1), (42, [7, 8], [], 0), (90, [8], [], 0), (91, [8], [], 40), (5000, [0, 1, 2, 3, 4, 5, 6, 7], [0, 1], 5), (90, [7], [], -2147483648), (91, [7], [], 2147483647)], (4000, [3, 4, 5, 12, 13], [3], 5)) := vOk_inI fun ρ η f0 f1 f2 f3 f4 f5 f6 => q_142_1 (q0 := q0) (n0 := ρ 7) (n1 := ρ 0) (n2 := ρ 1) (n3 := ρ 2) (n4 := ρ 3) (n5 := ρ 4) (n6 := ρ 5) (n7 := ρ 6) (n8 := ρ 8) (n9 := ρ 13) (n10 := ρ 12) (H0 := η 0) (H1 := η 1) (H2 := η 3) f6 f5 f4 f3 f2 f1 f0
theorem c_142_5_1 {q0 : Nat} : vOkm T0 (eP e_142 L_142 A_142 mu_142 (some q0)) 3 ([(10, [13, 7], [], 1), (42, [7, 8], [], 0), (90, [8], [], 0), (91, [8], [], 40), (5000, [0, 1, 2, 3, 4, 5, 6, 7], [0, 1], 5), (90, [7], [], -2147483648), (91, [7], [], 2147483647)], (4000, [3, 4, 5, 12, 13], [3], 5)) := vOk_inI fun ρ η f0 f1 f2 f3 f4 f5 f6 => q_142_1 (q0 := q0) (n0 := ρ 7) (n1 := ρ 0) (n2 := ρ 1) (n3 := ρ 2) (n4 := ρ 3) (n5 := ρ 4) (n6 := ρ 5) (n7 := ρ 6) (n8 := ρ 8) (n9 := ρ 13) (n10 := ρ 12) (H0 := η 0) (H1 := η 1) (H2 := η 3) f6 f5 f4 f3 f2 f1 f0
def p_142_5 : List vG := [([(10, [13, 7], [], 1), (42, [7, 8], [], 0), (90, [8], [], 0), (91, [8], [], 40), (5000, [0, 1, 2, 3, 4, 5, 6, 7], [0, 1], 5), (90, [7], [], -2147483648), (91, [7], [], 2147483647)], (4000, [3, 4, 5, 12, 13], [3], 5)),
  ([(10, [13, 7], [], 1), (42, [7, 8], [], 0), (90, [8], [], 0), (91, [8], [], 40), (5000, [0, 1, 2, 3, 4, 5, 6, 7], [0, 1], 5), (90, [7], [], -2147483648), (91, [7], [], 2147483647)], (4000, [3, 4, 5, 12, 13], [3], 5))]
theorem r_142_5 : vCovO true (eRc e_142 L_142 cs_142 2000 (5, [(0, (3, 9, 281, 0)), (1, (3, 6, -1, 0)), (2, (0, -2147483648, 2147483647, 0)), (3, (0, -2147483648, 2147483647, 0)), (4, (0, -2147483648, 2147483647, 0))])) p_142_5 = true := by decide +kernel
theorem m_142 (d : Nat) : eC e_142 (d + 5) := eC_ok (e := e_142) (L := L_142) (cs := cs_142) (n := 2000) (d := d + 4) (A := A_142) (μ := mu_142) (tp := true) (p0 := p_142_s) rfl ⟨m_115 (d + 3), ⟨m_141 d, trivial⟩⟩ rfl (.inr pre0_ok) (by decide +kernel) (fun _ => post0_ok) r_142_s (allC c_142_s_0 allN) (allC (.inl ⟨p_142_5, r_142_5, fun q0 => (allC c_142_5_0 (allC c_142_5_1 allN))⟩) allN)
/- Tracer.seekGiven (ILMixStage$Cue;)V -/
noncomputable def s_144 : vM := ([(3, 9, 281, 0), (0, -2147483648, 2147483647, 0), (3, 1, -1, 0)], (9, 0, 0, 0), 0, 0, [(10, 0), (10, 1), (10, 2), (748, 0), (764, 0)])
noncomputable def e_144 : vE := (144, s_144, pre0, post0)
noncomputable def L_144 : List vE := [e_37, e_39, e_41, e_53, e_201k764]
def cs_144 : List vC := [(24, [(0, (3, 9, 281, 0)), (1, (0, -2147483648, 2147483647, 0)), (2, (3, 1, -1, 0)), (3, (0, -2147483648, 2147483647, 0)), (4, (0, -2147483648, 2147483647, 0))])]
def mub_144_24 (a0 a1 a2 x0 x1 x2 x3 x4 : Int) (h0 h : gH) : Nat := (2147483648 - x4).toNat
def A_144 : Int → List Int → gH → gH → Prop := fun c xs h0 h => True
def mu_144 : Int → List Int → gH → gH → Nat := fun c xs h0 h => match c.toNat with
  | 24 => (match xs with
    | [a0, a1, a2, x0, x1, x2, x3, x4] => mub_144_24 a0 a1 a2 x0 x1 x2 x3 x4 h0 h
    | _ => 0)
  | _ => 0
theorem q_144_0 {n0 n1 n2 n3 n4 : Int} {H0 H1 : gH}  : True ∧ ∀ q, none = some q → mub_144_24 n0 n1 n2 n0 n1 n2 n3 n4 H0 H1 < q := by
  exact ⟨trivial, fun q hq => nomatch hq⟩
theorem c_144_s_0 : vOkm T0 (eP e_144 L_144 A_144 mu_144 none) 3 ([], (4000, [0, 1, 2, 6, 9], [2], 24)) := vOk_inI fun ρ η => q_144_0 (n0 := ρ 0) (n1 := ρ 1) (n2 := ρ 2) (n3 := ρ 6) (n4 := ρ 9) (H0 := η 0) (H1 := η 2)
def p_144_s : List vG := [([], (4000, [0, 1, 2, 6, 9], [2], 24))]
theorem r_144_s : vCovO true (eR0 e_144 L_144 cs_144 2000) p_144_s = true := by decide +kernel
theorem q_144_1 {q0 : Nat} {n0 n1 n2 n3 n4 n5 n6 n7 n8 : Int} {H0 H1 H2 : gH} (f0 : n0 ≤ 2147483647) (f1 : (-2147483648) ≤ n0) (f2 : n1 ≤ 2147483647) (f3 : (-2147483648) ≤ n1) (f4 : (hLe T0 H0 H1 ∧ hFr s_144.2.2.2.2 H0 H1 ∧ hWt T0 H1) ∧ (True ∧ True) ∧ some q0 = some (mub_144_24 n2 n3 n4 n5 n6 n7 n1 n0 H0 H1)) (f5 : n0 < n1) (f6 : n8 = w32 (n0 + 1)) : True ∧ ∀ q, some q0 = some q → mub_144_24 n2 n3 n4 n5 n6 n7 n1 n8 H0 H2 < q := by
  have g5 := Option.some.inj f4.2.2
  unfold mub_144_24 at g5
  unfold mub_144_24
  unfold w32 at f6
  refine ⟨?_, fun q hq => ?_⟩
  · trivial
  · have g6 := Option.some.inj hq
    subst g6
    omega
theorem c_144_24_0 {q0 : Nat} : vOkm T0 (eP e_144 L_144 A_144 mu_144 (some q0)) 3 ([(10, [13, 7], [], 1), (42, [7, 6], [], 0), (5000, [0, 1, 2, 3, 4, 5, 6, 7], [0, 1], 24), (90, [6], [], -2147483648), (91, [6], [], 2147483647), (90, [7], [], -2147483648), (91, [7], [], 2147483647)], (4000, [3, 4, 5, 6, 13], [3], 24)) := vOk_inI fun ρ η f0 f1 f2 f3 f4 f5 f6 => q_144_1 (q0 := q0) (n0 := ρ 7) (n1 := ρ 6) (n2 := ρ 0) (n3 := ρ 1) (n4 := ρ 2) (n5 := ρ 3) (n6 := ρ 4) (n7 := ρ 5) (n8 := ρ 13) (H0 := η 0) (H1 := η 1) (H2 := η 3) f6 f5 f4 f3 f2 f1 f0
theorem c_144_24_1 {q0 : Nat} : vOkm T0 (eP e_144 L_144 A_144 mu_144 (some q0)) 3 ([(10, [17, 7], [], 1), (42, [7, 6], [], 0), (5000, [0, 1, 2, 3, 4, 5, 6, 7], [0, 1], 24), (90, [6], [], -2147483648), (91, [6], [], 2147483647), (90, [7], [], -2147483648), (91, [7], [], 2147483647)], (4000, [3, 4, 5, 6, 17], [4], 24)) := vOk_inI fun ρ η f0 f1 f2 f3 f4 f5 f6 => q_144_1 (q0 := q0) (n0 := ρ 7) (n1 := ρ 6) (n2 := ρ 0) (n3 := ρ 1) (n4 := ρ 2) (n5 := ρ 3) (n6 := ρ 4) (n7 := ρ 5) (n8 := ρ 17) (H0 := η 0) (H1 := η 1) (H2 := η 4) f6 f5 f4 f3 f2 f1 f0
def p_144_24 : List vG := [([(10, [13, 7], [], 1), (42, [7, 6], [], 0), (5000, [0, 1, 2, 3, 4, 5, 6, 7], [0, 1], 24), (90, [6], [], -2147483648), (91, [6], [], 2147483647), (90, [7], [], -2147483648), (91, [7], [], 2147483647)], (4000, [3, 4, 5, 6, 13], [3], 24)),
  ([(10, [17, 7], [], 1), (42, [7, 6], [], 0), (5000, [0, 1, 2, 3, 4, 5, 6, 7], [0, 1], 24), (90, [6], [], -2147483648), (91, [6], [], 2147483647), (90, [7], [], -2147483648), (91, [7], [], 2147483647)], (4000, [3, 4, 5, 6, 17], [4], 24))]
theorem r_144_24 : vCovO true (eRc e_144 L_144 cs_144 2000 (24, [(0, (3, 9, 281, 0)), (1, (0, -2147483648, 2147483647, 0)), (2, (3, 1, -1, 0)), (3, (0, -2147483648, 2147483647, 0)), (4, (0, -2147483648, 2147483647, 0))])) p_144_24 = true := by decide +kernel
theorem m_144 (d : Nat) : eC e_144 (d + 5) := eC_ok (e := e_144) (L := L_144) (cs := cs_144) (n := 2000) (d := d + 4) (A := A_144) (μ := mu_144) (tp := true) (p0 := p_144_s) rfl ⟨m_37 d, ⟨m_39 (d + 2), ⟨m_41 (d + 3), ⟨m_53 (d + 2), ⟨m_201k764 (d + 3), trivial⟩⟩⟩⟩⟩ rfl (.inr pre0_ok) (by decide +kernel) (fun _ => post0_ok) r_144_s (allC c_144_s_0 allN) (allC (.inl ⟨p_144_24, r_144_24, fun q0 => (allC c_144_24_0 (allC c_144_24_1 allN))⟩) allN)
