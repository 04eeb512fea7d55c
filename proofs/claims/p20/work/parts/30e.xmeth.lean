/-! CONTRACTS of methods (printed by wip/gen/emit.py). -/
/- Rules.firstLoud ()I -/
noncomputable def s_103 : vM := ([(3, 5, -1, 0)], (0, -2147483648, 2147483647, 0), 0, 0, [])
noncomputable def e_103 : vE := (103, s_103, pre0, post0)
noncomputable def L_103 : List vE := [e_199]
def cs_103 : List vC := [(2, [(0, (3, 5, -1, 0)), (1, (0, -2147483648, 2147483647, 0))])]
def mub_103_2 (a0 x0 x1 : Int) (h0 h : gH) : Nat := (2147483648 - x1).toNat
def A_103 : Int → List Int → gH → gH → Prop := fun c xs h0 h => True
def mu_103 : Int → List Int → gH → gH → Nat := fun c xs h0 h => match c.toNat with
  | 2 => (match xs with
    | [a0, x0, x1] => mub_103_2 a0 x0 x1 h0 h
    | _ => 0)
  | _ => 0
theorem q_103_0 {n0 n1 : Int} {H0 : gH}  : True ∧ ∀ q, none = some q → mub_103_2 n0 n0 n1 H0 H0 < q := by
  exact ⟨trivial, fun q hq => nomatch hq⟩
theorem c_103_s_0 : vOkm T0 (eP e_103 L_103 A_103 mu_103 none) 1 ([], (4000, [0, 1], [0], 2)) := vOk_in fun ρ η h => by
  obtain ⟨_⟩ := h
  exact q_103_0 (n0 := ρ 0) (n1 := ρ 1) (H0 := η 0) 
def p_103_s : List vG := [([], (4000, [0, 1], [0], 2))]
theorem r_103_s : vCovO true (eR0 e_103 L_103 cs_103 2000) p_103_s = true := by decide +kernel
theorem q_103_1 {q0 : Nat} {n0 n1 n2 n3 n4 : Int} {H0 H1 H2 : gH} (f0 : n0 ≤ 2147483647) (f1 : (-2147483648) ≤ n0) (f2 : (hLe T0 H0 H1 ∧ hFr s_103.2.2.2.2 H0 H1 ∧ hWt T0 H1) ∧ (True ∧ True) ∧ some q0 = some (mub_103_2 n1 n2 n0 H0 H1)) (f3 : n3 ≤ 2147483647) (f4 : (-2147483648) ≤ n3) (f5 : n0 < n3) (f6 : n4 = w32 (n0 + 1)) : True ∧ ∀ q, some q0 = some q → mub_103_2 n1 n2 n4 H0 H2 < q := by
  have g5 := Option.some.inj f2.2.2
  unfold mub_103_2 at g5
  unfold mub_103_2
  unfold w32 at *
  refine ⟨?_, fun q hq => ?_⟩
  · trivial
  · have g6 := Option.some.inj hq
    subst g6
    omega
theorem c_103_2_0 {q0 : Nat} : vOkm T0 (eP e_103 L_103 A_103 mu_103 (some q0)) 1 ([(10, [6, 2], [], 1), (42, [2, 3], [], 0), (90, [3], [], -2147483648), (91, [3], [], 2147483647), (5000, [0, 1, 2], [0, 1], 2), (90, [2], [], -2147483648), (91, [2], [], 2147483647)], (4000, [1, 6], [2], 2)) := vOk_in fun ρ η h => by
  obtain ⟨f0, f1, f2, f3, f4, f5, f6, _⟩ := h
  exact q_103_1 (q0 := q0) (n0 := ρ 2) (n1 := ρ 0) (n2 := ρ 1) (n3 := ρ 3) (n4 := ρ 6) (H0 := η 0) (H1 := η 1) (H2 := η 2) f6 f5 f4 f3 f2 f1 f0
def p_103_2 : List vG := [([(10, [6, 2], [], 1), (42, [2, 3], [], 0), (90, [3], [], -2147483648), (91, [3], [], 2147483647), (5000, [0, 1, 2], [0, 1], 2), (90, [2], [], -2147483648), (91, [2], [], 2147483647)], (4000, [1, 6], [2], 2))]
theorem r_103_2 : vCovO true (eRc e_103 L_103 cs_103 2000 (2, [(0, (3, 5, -1, 0)), (1, (0, -2147483648, 2147483647, 0))])) p_103_2 = true := by decide +kernel
theorem m_103 (d : Nat) : eC e_103 (d + 2) := eC_ok (e := e_103) (L := L_103) (cs := cs_103) (n := 2000) (d := d + 1) (A := A_103) (μ := mu_103) (tp := true) (p0 := p_103_s) rfl ⟨m_199 d, trivial⟩ rfl (.inr pre0_ok) (by decide +kernel) (fun _ => post0_ok) r_103_s (allC c_103_s_0 allN) (allC (.inl ⟨p_103_2, r_103_2, fun q0 => (allC c_103_2_0 allN)⟩) allN)
/- Rules.hundredsOf (I)I -/
noncomputable def s_104 : vM := ([(3, 5, -1, 0), (0, -2147483648, 2147483647, 0)], (0, -2147483648, 2147483647, 0), 0, 0, [])
noncomputable def e_104 : vE := (104, s_104, pre0, post0)
noncomputable def L_104 : List vE := [e_199]
def cs_104 : List vC := []
def A_104 : Int → List Int → gH → gH → Prop := fun c xs h0 h => True
def mu_104 : Int → List Int → gH → gH → Nat := fun c xs h0 h => 0
def p_104_s : List vG := []
theorem r_104_s : vCovO true (eR0 e_104 L_104 cs_104 2000) p_104_s = true := by decide +kernel
theorem m_104 (d : Nat) : eC e_104 (d + 2) := eC_ok (e := e_104) (L := L_104) (cs := cs_104) (n := 2000) (d := d + 1) (A := A_104) (μ := mu_104) (tp := true) (p0 := p_104_s) rfl ⟨m_199 d, trivial⟩ rfl (.inr pre0_ok) (by decide +kernel) (fun _ => post0_ok) r_104_s allN allN
/- Rules.widthOf (I)I -/
noncomputable def s_105 : vM := ([(3, 5, -1, 0), (0, -2147483648, 2147483647, 0)], (0, -2147483648, 2147483647, 0), 0, 0, [])
noncomputable def e_105 : vE := (105, s_105, pre0, post0)
noncomputable def L_105 : List vE := [e_199]
def cs_105 : List vC := []
def A_105 : Int → List Int → gH → gH → Prop := fun c xs h0 h => True
def mu_105 : Int → List Int → gH → gH → Nat := fun c xs h0 h => 0
def p_105_s : List vG := []
theorem r_105_s : vCovO true (eR0 e_105 L_105 cs_105 2000) p_105_s = true := by decide +kernel
theorem m_105 (d : Nat) : eC e_105 (d + 2) := eC_ok (e := e_105) (L := L_105) (cs := cs_105) (n := 2000) (d := d + 1) (A := A_105) (μ := mu_105) (tp := true) (p0 := p_105_s) rfl ⟨m_199 d, trivial⟩ rfl (.inr pre0_ok) (by decide +kernel) (fun _ => post0_ok) r_105_s allN allN
/- Rules.set (II)V -/
noncomputable def s_106 : vM := ([(3, 5, -1, 0), (0, -2147483648, 2147483647, 0), (0, -2147483648, 2147483647, 0)], (9, 0, 0, 0), 0, 0, [(100, 0)])
noncomputable def e_106 : vE := (106, s_106, pre0, post0)
noncomputable def L_106 : List vE := [e_201]
def cs_106 : List vC := []
def A_106 : Int → List Int → gH → gH → Prop := fun c xs h0 h => True
def mu_106 : Int → List Int → gH → gH → Nat := fun c xs h0 h => 0
def p_106_s : List vG := []
theorem r_106_s : vCovO true (eR0 e_106 L_106 cs_106 2000) p_106_s = true := by decide +kernel
theorem m_106 (d : Nat) : eC e_106 (d + 2) := eC_ok (e := e_106) (L := L_106) (cs := cs_106) (n := 2000) (d := d + 1) (A := A_106) (μ := mu_106) (tp := true) (p0 := p_106_s) rfl ⟨m_201 d, trivial⟩ rfl (.inr pre0_ok) (by decide +kernel) (fun _ => post0_ok) r_106_s allN allN
/- Rules.push (I)V -/
noncomputable def s_110 : vM := ([(3, 5, -1, 0), (0, -2147483648, 2147483647, 0)], (9, 0, 0, 0), 0, 0, [(5, 10), (100, 0)])
noncomputable def e_110 : vE := (110, s_110, pre0, post0)
noncomputable def L_110 : List vE := [e_201]
def cs_110 : List vC := []
def A_110 : Int → List Int → gH → gH → Prop := fun c xs h0 h => True
def mu_110 : Int → List Int → gH → gH → Nat := fun c xs h0 h => 0
def p_110_s : List vG := []
theorem r_110_s : vCovO true (eR0 e_110 L_110 cs_110 2000) p_110_s = true := by decide +kernel
theorem m_110 (d : Nat) : eC e_110 (d + 2) := eC_ok (e := e_110) (L := L_110) (cs := cs_110) (n := 2000) (d := d + 1) (A := A_110) (μ := mu_110) (tp := true) (p0 := p_110_s) rfl ⟨m_201 d, trivial⟩ rfl (.inr pre0_ok) (by decide +kernel) (fun _ => post0_ok) r_110_s allN allN
/- Rules.pop ()I -/
noncomputable def s_111 : vM := ([(3, 5, -1, 0)], (0, -2147483648, 2147483647, 0), 0, 0, [(5, 10)])
noncomputable def e_111 : vE := (111, s_111, pre0, post0)
noncomputable def L_111 : List vE := [e_199, e_317]
def cs_111 : List vC := []
def A_111 : Int → List Int → gH → gH → Prop := fun c xs h0 h => True
def mu_111 : Int → List Int → gH → gH → Nat := fun c xs h0 h => 0
def p_111_s : List vG := []
theorem r_111_s : vCovO true (eR0 e_111 L_111 cs_111 2000) p_111_s = true := by decide +kernel
theorem m_111 (d : Nat) : eC e_111 (d + 2) := eC_ok (e := e_111) (L := L_111) (cs := cs_111) (n := 2000) (d := d + 1) (A := A_111) (μ := mu_111) (tp := true) (p0 := p_111_s) rfl ⟨m_199 d, ⟨m_317 d, trivial⟩⟩ rfl (.inr pre0_ok) (by decide +kernel) (fun _ => post0_ok) r_111_s allN allN
/- Rules.divide (II)I -/
noncomputable def s_113 : vM := ([(3, 5, -1, 0), (0, -2147483648, 2147483647, 0), (0, -2147483648, 2147483647, 0)], (0, -2147483648, 2147483647, 0), 0, 0, [(5, 11)])
noncomputable def e_113 : vE := (113, s_113, pre0, post0)
noncomputable def L_113 : List vE := []
def cs_113 : List vC := []
def A_113 : Int → List Int → gH → gH → Prop := fun c xs h0 h => True
def mu_113 : Int → List Int → gH → gH → Nat := fun c xs h0 h => 0
def p_113_s : List vG := []
theorem r_113_s : vCovO true (eR0 e_113 L_113 cs_113 2000) p_113_s = true := by decide +kernel
theorem m_113 (d : Nat) : eC e_113 (d + 1) := eC_ok (e := e_113) (L := L_113) (cs := cs_113) (n := 2000) (d := d + 0) (A := A_113) (μ := mu_113) (tp := true) (p0 := p_113_s) rfl trivial rfl (.inr pre0_ok) (by decide +kernel) (fun _ => post0_ok) r_113_s allN allN
/- Rules.join (III)I -/
noncomputable def s_112 : vM := ([(3, 5, -1, 0), (0, -2147483648, 2147483647, 0), (0, -2147483648, 2147483647, 0), (0, -2147483648, 2147483647, 0)], (0, -2147483648, 2147483647, 0), 0, 0, [(5, 11)])
noncomputable def e_112 : vE := (112, s_112, pre0, post0)
noncomputable def L_112 : List vE := [e_113]
def cs_112 : List vC := []
def A_112 : Int → List Int → gH → gH → Prop := fun c xs h0 h => True
def mu_112 : Int → List Int → gH → gH → Nat := fun c xs h0 h => 0
def p_112_s : List vG := []
theorem r_112_s : vCovO true (eR0 e_112 L_112 cs_112 2000) p_112_s = true := by decide +kernel
theorem m_112 (d : Nat) : eC e_112 (d + 2) := eC_ok (e := e_112) (L := L_112) (cs := cs_112) (n := 2000) (d := d + 1) (A := A_112) (μ := mu_112) (tp := true) (p0 := p_112_s) rfl ⟨m_113 d, trivial⟩ rfl (.inr pre0_ok) (by decide +kernel) (fun _ => post0_ok) r_112_s allN allN
/- Rules.step (I)V -/
noncomputable def s_109 : vM := ([(3, 5, -1, 0), (0, -2147483648, 2147483647, 0)], (9, 0, 0, 0), 0, 0, [(5, 10), (5, 11), (100, 0)])
noncomputable def e_109 : vE := (109, s_109, pre0, post0)
noncomputable def L_109 : List vE := [e_110, e_111, e_112, e_199]
def cs_109 : List vC := []
def A_109 : Int → List Int → gH → gH → Prop := fun c xs h0 h => True
def mu_109 : Int → List Int → gH → gH → Nat := fun c xs h0 h => 0
def p_109_s : List vG := []
theorem r_109_s : vCovO true (eR0 e_109 L_109 cs_109 2000) p_109_s = true := by decide +kernel
theorem m_109 (d : Nat) : eC e_109 (d + 3) := eC_ok (e := e_109) (L := L_109) (cs := cs_109) (n := 2000) (d := d + 2) (A := A_109) (μ := mu_109) (tp := true) (p0 := p_109_s) rfl ⟨m_110 d, ⟨m_111 d, ⟨m_112 d, ⟨m_199 (d + 1), trivial⟩⟩⟩⟩ rfl (.inr pre0_ok) (by decide +kernel) (fun _ => post0_ok) r_109_s allN allN
/- Rules.work (II)I -/
noncomputable def s_108 : vM := ([(3, 5, -1, 0), (0, -2147483648, 2147483647, 0), (0, -2147483648, 2147483647, 0)], (0, -2147483648, 2147483647, 0), 0, 0, [(5, 10), (5, 11), (100, 0)])
noncomputable def e_108 : vE := (108, s_108, pre0, post0)
noncomputable def L_108 : List vE := [e_109, e_111, e_199]
def cs_108 : List vC := [(7, [(0, (3, 5, -1, 0)), (1, (0, -2147483648, 2147483647, 0)), (2, (0, -2147483648, 2147483647, 0)), (3, (0, -2147483648, 2147483647, 0))])]
def mub_108_7 (a0 a1 a2 x0 x1 x2 x3 : Int) (h0 h : gH) : Nat := (2147483648 - x3).toNat
def A_108 : Int → List Int → gH → gH → Prop := fun c xs h0 h => True
def mu_108 : Int → List Int → gH → gH → Nat := fun c xs h0 h => match c.toNat with
  | 7 => (match xs with
    | [a0, a1, a2, x0, x1, x2, x3] => mub_108_7 a0 a1 a2 x0 x1 x2 x3 h0 h
    | _ => 0)
  | _ => 0
theorem q_108_0 {n0 n1 n2 : Int} {H0 H1 : gH}  : True ∧ ∀ q, none = some q → mub_108_7 n0 n1 n2 n0 n1 n2 n1 H0 H1 < q := by
  exact ⟨trivial, fun q hq => nomatch hq⟩
theorem c_108_s_0 : vOkm T0 (eP e_108 L_108 A_108 mu_108 none) 3 ([], (4000, [0, 1, 2, 1], [1], 7)) := vOk_in fun ρ η h => by
  obtain ⟨_⟩ := h
  exact q_108_0 (n0 := ρ 0) (n1 := ρ 1) (n2 := ρ 2) (H0 := η 0) (H1 := η 1) 
def p_108_s : List vG := [([], (4000, [0, 1, 2, 1], [1], 7))]
theorem r_108_s : vCovO true (eR0 e_108 L_108 cs_108 2000) p_108_s = true := by decide +kernel
theorem q_108_1 {q0 : Nat} {n0 n1 n2 n3 n4 n5 n6 n7 : Int} {H0 H1 H2 : gH} (f0 : n0 ≤ 2147483647) (f1 : (-2147483648) ≤ n0) (f2 : n1 ≤ 2147483647) (f3 : (-2147483648) ≤ n1) (f4 : (hLe T0 H0 H1 ∧ hFr s_108.2.2.2.2 H0 H1 ∧ hWt T0 H1) ∧ (True ∧ True) ∧ some q0 = some (mub_108_7 n2 n3 n4 n5 n6 n1 n0 H0 H1)) (f5 : n0 < n1) (f6 : n7 = w32 (n0 + 1)) : True ∧ ∀ q, some q0 = some q → mub_108_7 n2 n3 n4 n5 n6 n1 n7 H0 H2 < q := by
  have g5 := Option.some.inj f4.2.2
  unfold mub_108_7 at g5
  unfold mub_108_7
  unfold w32 at *
  refine ⟨?_, fun q hq => ?_⟩
  · trivial
  · have g6 := Option.some.inj hq
    subst g6
    omega
theorem c_108_7_0 {q0 : Nat} : vOkm T0 (eP e_108 L_108 A_108 mu_108 (some q0)) 3 ([(10, [9, 6], [], 1), (42, [6, 5], [], 0), (5000, [0, 1, 2, 3, 4, 5, 6], [0, 1], 7), (90, [5], [], -2147483648), (91, [5], [], 2147483647), (90, [6], [], -2147483648), (91, [6], [], 2147483647)], (4000, [3, 4, 5, 9], [3], 7)) := vOk_in fun ρ η h => by
  obtain ⟨f0, f1, f2, f3, f4, f5, f6, _⟩ := h
  exact q_108_1 (q0 := q0) (n0 := ρ 6) (n1 := ρ 5) (n2 := ρ 0) (n3 := ρ 1) (n4 := ρ 2) (n5 := ρ 3) (n6 := ρ 4) (n7 := ρ 9) (H0 := η 0) (H1 := η 1) (H2 := η 3) f6 f5 f4 f3 f2 f1 f0
def p_108_7 : List vG := [([(10, [9, 6], [], 1), (42, [6, 5], [], 0), (5000, [0, 1, 2, 3, 4, 5, 6], [0, 1], 7), (90, [5], [], -2147483648), (91, [5], [], 2147483647), (90, [6], [], -2147483648), (91, [6], [], 2147483647)], (4000, [3, 4, 5, 9], [3], 7))]
theorem r_108_7 : vCovO true (eRc e_108 L_108 cs_108 2000 (7, [(0, (3, 5, -1, 0)), (1, (0, -2147483648, 2147483647, 0)), (2, (0, -2147483648, 2147483647, 0)), (3, (0, -2147483648, 2147483647, 0))])) p_108_7 = true := by decide +kernel
theorem m_108 (d : Nat) : eC e_108 (d + 4) := eC_ok (e := e_108) (L := L_108) (cs := cs_108) (n := 2000) (d := d + 3) (A := A_108) (μ := mu_108) (tp := true) (p0 := p_108_s) rfl ⟨m_109 d, ⟨m_111 (d + 1), ⟨m_199 (d + 2), trivial⟩⟩⟩ rfl (.inr pre0_ok) (by decide +kernel) (fun _ => post0_ok) r_108_s (allC c_108_s_0 allN) (allC (.inl ⟨p_108_7, r_108_7, fun q0 => (allC c_108_7_0 allN)⟩) allN)
/- Rules.firstRight ()I -/
noncomputable def s_107 : vM := ([(3, 5, -1, 0)], (0, -2147483648, 2147483647, 0), 0, 0, [(5, 10), (5, 11), (100, 0)])
noncomputable def e_107 : vE := (107, s_107, pre0, post0)
noncomputable def L_107 : List vE := [e_108, e_199]
def cs_107 : List vC := [(2, [(0, (3, 5, -1, 0)), (1, (0, -2147483648, 2147483647, 0))])]
def mub_107_2 (a0 x0 x1 : Int) (h0 h : gH) : Nat := (2147483648 - x1).toNat
def A_107 : Int → List Int → gH → gH → Prop := fun c xs h0 h => True
def mu_107 : Int → List Int → gH → gH → Nat := fun c xs h0 h => match c.toNat with
  | 2 => (match xs with
    | [a0, x0, x1] => mub_107_2 a0 x0 x1 h0 h
    | _ => 0)
  | _ => 0
theorem q_107_0 {n0 n1 : Int} {H0 : gH}  : True ∧ ∀ q, none = some q → mub_107_2 n0 n0 n1 H0 H0 < q := by
  exact ⟨trivial, fun q hq => nomatch hq⟩
theorem c_107_s_0 : vOkm T0 (eP e_107 L_107 A_107 mu_107 none) 1 ([], (4000, [0, 1], [0], 2)) := vOk_in fun ρ η h => by
  obtain ⟨_⟩ := h
  exact q_107_0 (n0 := ρ 0) (n1 := ρ 1) (H0 := η 0) 
def p_107_s : List vG := [([], (4000, [0, 1], [0], 2))]
theorem r_107_s : vCovO true (eR0 e_107 L_107 cs_107 2000) p_107_s = true := by decide +kernel
theorem q_107_1 {q0 : Nat} {n0 n1 n2 n3 n4 : Int} {H0 H1 H2 : gH} (f0 : n0 ≤ 2147483647) (f1 : (-2147483648) ≤ n0) (f2 : (hLe T0 H0 H1 ∧ hFr s_107.2.2.2.2 H0 H1 ∧ hWt T0 H1) ∧ (True ∧ True) ∧ some q0 = some (mub_107_2 n1 n2 n0 H0 H1)) (f3 : n3 ≤ 2147483647) (f4 : (-2147483648) ≤ n3) (f5 : n0 < n3) (f6 : n4 = w32 (n0 + 1)) : True ∧ ∀ q, some q0 = some q → mub_107_2 n1 n2 n4 H0 H2 < q := by
  have g5 := Option.some.inj f2.2.2
  unfold mub_107_2 at g5
  unfold mub_107_2
  unfold w32 at *
  refine ⟨?_, fun q hq => ?_⟩
  · trivial
  · have g6 := Option.some.inj hq
    subst g6
    omega
theorem c_107_2_0 {q0 : Nat} : vOkm T0 (eP e_107 L_107 A_107 mu_107 (some q0)) 1 ([(10, [6, 2], [], 1), (42, [2, 3], [], 0), (90, [3], [], -2147483648), (91, [3], [], 2147483647), (5000, [0, 1, 2], [0, 1], 2), (90, [2], [], -2147483648), (91, [2], [], 2147483647)], (4000, [1, 6], [2], 2)) := vOk_in fun ρ η h => by
  obtain ⟨f0, f1, f2, f3, f4, f5, f6, _⟩ := h
  exact q_107_1 (q0 := q0) (n0 := ρ 2) (n1 := ρ 0) (n2 := ρ 1) (n3 := ρ 3) (n4 := ρ 6) (H0 := η 0) (H1 := η 1) (H2 := η 2) f6 f5 f4 f3 f2 f1 f0
theorem c_107_2_1 {q0 : Nat} : vOkm T0 (eP e_107 L_107 A_107 mu_107 (some q0)) 1 ([(10, [19, 2], [], 1), (42, [2, 3], [], 0), (90, [3], [], -2147483648), (91, [3], [], 2147483647), (5000, [0, 1, 2], [0, 1], 2), (90, [2], [], -2147483648), (91, [2], [], 2147483647)], (4000, [1, 19], [8], 2)) := vOk_in fun ρ η h => by
  obtain ⟨f0, f1, f2, f3, f4, f5, f6, _⟩ := h
  exact q_107_1 (q0 := q0) (n0 := ρ 2) (n1 := ρ 0) (n2 := ρ 1) (n3 := ρ 3) (n4 := ρ 19) (H0 := η 0) (H1 := η 1) (H2 := η 8) f6 f5 f4 f3 f2 f1 f0
theorem c_107_2_2 {q0 : Nat} : vOkm T0 (eP e_107 L_107 A_107 mu_107 (some q0)) 1 ([(10, [20, 2], [], 1), (42, [2, 3], [], 0), (90, [3], [], -2147483648), (91, [3], [], 2147483647), (5000, [0, 1, 2], [0, 1], 2), (90, [2], [], -2147483648), (91, [2], [], 2147483647)], (4000, [1, 20], [8], 2)) := vOk_in fun ρ η h => by
  obtain ⟨f0, f1, f2, f3, f4, f5, f6, _⟩ := h
  exact q_107_1 (q0 := q0) (n0 := ρ 2) (n1 := ρ 0) (n2 := ρ 1) (n3 := ρ 3) (n4 := ρ 20) (H0 := η 0) (H1 := η 1) (H2 := η 8) f6 f5 f4 f3 f2 f1 f0
theorem c_107_2_3 {q0 : Nat} : vOkm T0 (eP e_107 L_107 A_107 mu_107 (some q0)) 1 ([(10, [24, 2], [], 1), (42, [2, 3], [], 0), (90, [3], [], -2147483648), (91, [3], [], 2147483647), (5000, [0, 1, 2], [0, 1], 2), (90, [2], [], -2147483648), (91, [2], [], 2147483647)], (4000, [1, 24], [11], 2)) := vOk_in fun ρ η h => by
  obtain ⟨f0, f1, f2, f3, f4, f5, f6, _⟩ := h
  exact q_107_1 (q0 := q0) (n0 := ρ 2) (n1 := ρ 0) (n2 := ρ 1) (n3 := ρ 3) (n4 := ρ 24) (H0 := η 0) (H1 := η 1) (H2 := η 11) f6 f5 f4 f3 f2 f1 f0
theorem c_107_2_4 {q0 : Nat} : vOkm T0 (eP e_107 L_107 A_107 mu_107 (some q0)) 1 ([(10, [25, 2], [], 1), (42, [2, 3], [], 0), (90, [3], [], -2147483648), (91, [3], [], 2147483647), (5000, [0, 1, 2], [0, 1], 2), (90, [2], [], -2147483648), (91, [2], [], 2147483647)], (4000, [1, 25], [11], 2)) := vOk_in fun ρ η h => by
  obtain ⟨f0, f1, f2, f3, f4, f5, f6, _⟩ := h
  exact q_107_1 (q0 := q0) (n0 := ρ 2) (n1 := ρ 0) (n2 := ρ 1) (n3 := ρ 3) (n4 := ρ 25) (H0 := η 0) (H1 := η 1) (H2 := η 11) f6 f5 f4 f3 f2 f1 f0
theorem c_107_2_5 {q0 : Nat} : vOkm T0 (eP e_107 L_107 A_107 mu_107 (some q0)) 1 ([(10, [24, 2], [], 1), (42, [2, 3], [], 0), (90, [3], [], -2147483648), (91, [3], [], 2147483647), (5000, [0, 1, 2], [0, 1], 2), (90, [2], [], -2147483648), (91, [2], [], 2147483647)], (4000, [1, 24], [11], 2)) := vOk_in fun ρ η h => by
  obtain ⟨f0, f1, f2, f3, f4, f5, f6, _⟩ := h
  exact q_107_1 (q0 := q0) (n0 := ρ 2) (n1 := ρ 0) (n2 := ρ 1) (n3 := ρ 3) (n4 := ρ 24) (H0 := η 0) (H1 := η 1) (H2 := η 11) f6 f5 f4 f3 f2 f1 f0
theorem c_107_2_6 {q0 : Nat} : vOkm T0 (eP e_107 L_107 A_107 mu_107 (some q0)) 1 ([(10, [25, 2], [], 1), (42, [2, 3], [], 0), (90, [3], [], -2147483648), (91, [3], [], 2147483647), (5000, [0, 1, 2], [0, 1], 2), (90, [2], [], -2147483648), (91, [2], [], 2147483647)], (4000, [1, 25], [11], 2)) := vOk_in fun ρ η h => by
  obtain ⟨f0, f1, f2, f3, f4, f5, f6, _⟩ := h
  exact q_107_1 (q0 := q0) (n0 := ρ 2) (n1 := ρ 0) (n2 := ρ 1) (n3 := ρ 3) (n4 := ρ 25) (H0 := η 0) (H1 := η 1) (H2 := η 11) f6 f5 f4 f3 f2 f1 f0
theorem c_107_2_7 {q0 : Nat} : vOkm T0 (eP e_107 L_107 A_107 mu_107 (some q0)) 1 ([(10, [19, 2], [], 1), (42, [2, 3], [], 0), (90, [3], [], -2147483648), (91, [3], [], 2147483647), (5000, [0, 1, 2], [0, 1], 2), (90, [2], [], -2147483648), (91, [2], [], 2147483647)], (4000, [1, 19], [8], 2)) := vOk_in fun ρ η h => by
  obtain ⟨f0, f1, f2, f3, f4, f5, f6, _⟩ := h
  exact q_107_1 (q0 := q0) (n0 := ρ 2) (n1 := ρ 0) (n2 := ρ 1) (n3 := ρ 3) (n4 := ρ 19) (H0 := η 0) (H1 := η 1) (H2 := η 8) f6 f5 f4 f3 f2 f1 f0
theorem c_107_2_8 {q0 : Nat} : vOkm T0 (eP e_107 L_107 A_107 mu_107 (some q0)) 1 ([(10, [20, 2], [], 1), (42, [2, 3], [], 0), (90, [3], [], -2147483648), (91, [3], [], 2147483647), (5000, [0, 1, 2], [0, 1], 2), (90, [2], [], -2147483648), (91, [2], [], 2147483647)], (4000, [1, 20], [8], 2)) := vOk_in fun ρ η h => by
  obtain ⟨f0, f1, f2, f3, f4, f5, f6, _⟩ := h
  exact q_107_1 (q0 := q0) (n0 := ρ 2) (n1 := ρ 0) (n2 := ρ 1) (n3 := ρ 3) (n4 := ρ 20) (H0 := η 0) (H1 := η 1) (H2 := η 8) f6 f5 f4 f3 f2 f1 f0
theorem c_107_2_9 {q0 : Nat} : vOkm T0 (eP e_107 L_107 A_107 mu_107 (some q0)) 1 ([(10, [24, 2], [], 1), (42, [2, 3], [], 0), (90, [3], [], -2147483648), (91, [3], [], 2147483647), (5000, [0, 1, 2], [0, 1], 2), (90, [2], [], -2147483648), (91, [2], [], 2147483647)], (4000, [1, 24], [11], 2)) := vOk_in fun ρ η h => by
  obtain ⟨f0, f1, f2, f3, f4, f5, f6, _⟩ := h
  exact q_107_1 (q0 := q0) (n0 := ρ 2) (n1 := ρ 0) (n2 := ρ 1) (n3 := ρ 3) (n4 := ρ 24) (H0 := η 0) (H1 := η 1) (H2 := η 11) f6 f5 f4 f3 f2 f1 f0
theorem c_107_2_10 {q0 : Nat} : vOkm T0 (eP e_107 L_107 A_107 mu_107 (some q0)) 1 ([(10, [25, 2], [], 1), (42, [2, 3], [], 0), (90, [3], [], -2147483648), (91, [3], [], 2147483647), (5000, [0, 1, 2], [0, 1], 2), (90, [2], [], -2147483648), (91, [2], [], 2147483647)], (4000, [1, 25], [11], 2)) := vOk_in fun ρ η h => by
  obtain ⟨f0, f1, f2, f3, f4, f5, f6, _⟩ := h
  exact q_107_1 (q0 := q0) (n0 := ρ 2) (n1 := ρ 0) (n2 := ρ 1) (n3 := ρ 3) (n4 := ρ 25) (H0 := η 0) (H1 := η 1) (H2 := η 11) f6 f5 f4 f3 f2 f1 f0
theorem c_107_2_11 {q0 : Nat} : vOkm T0 (eP e_107 L_107 A_107 mu_107 (some q0)) 1 ([(10, [24, 2], [], 1), (42, [2, 3], [], 0), (90, [3], [], -2147483648), (91, [3], [], 2147483647), (5000, [0, 1, 2], [0, 1], 2), (90, [2], [], -2147483648), (91, [2], [], 2147483647)], (4000, [1, 24], [11], 2)) := vOk_in fun ρ η h => by
  obtain ⟨f0, f1, f2, f3, f4, f5, f6, _⟩ := h
  exact q_107_1 (q0 := q0) (n0 := ρ 2) (n1 := ρ 0) (n2 := ρ 1) (n3 := ρ 3) (n4 := ρ 24) (H0 := η 0) (H1 := η 1) (H2 := η 11) f6 f5 f4 f3 f2 f1 f0
theorem c_107_2_12 {q0 : Nat} : vOkm T0 (eP e_107 L_107 A_107 mu_107 (some q0)) 1 ([(10, [25, 2], [], 1), (42, [2, 3], [], 0), (90, [3], [], -2147483648), (91, [3], [], 2147483647), (5000, [0, 1, 2], [0, 1], 2), (90, [2], [], -2147483648), (91, [2], [], 2147483647)], (4000, [1, 25], [11], 2)) := vOk_in fun ρ η h => by
  obtain ⟨f0, f1, f2, f3, f4, f5, f6, _⟩ := h
  exact q_107_1 (q0 := q0) (n0 := ρ 2) (n1 := ρ 0) (n2 := ρ 1) (n3 := ρ 3) (n4 := ρ 25) (H0 := η 0) (H1 := η 1) (H2 := η 11) f6 f5 f4 f3 f2 f1 f0
def p_107_2 : List vG := [([(10, [6, 2], [], 1), (42, [2, 3], [], 0), (90, [3], [], -2147483648), (91, [3], [], 2147483647), (5000, [0, 1, 2], [0, 1], 2), (90, [2], [], -2147483648), (91, [2], [], 2147483647)], (4000, [1, 6], [2], 2)),
  ([(10, [19, 2], [], 1), (42, [2, 3], [], 0), (90, [3], [], -2147483648), (91, [3], [], 2147483647), (5000, [0, 1, 2], [0, 1], 2), (90, [2], [], -2147483648), (91, [2], [], 2147483647)], (4000, [1, 19], [8], 2)),
  ([(10, [20, 2], [], 1), (42, [2, 3], [], 0), (90, [3], [], -2147483648), (91, [3], [], 2147483647), (5000, [0, 1, 2], [0, 1], 2), (90, [2], [], -2147483648), (91, [2], [], 2147483647)], (4000, [1, 20], [8], 2)),
  ([(10, [24, 2], [], 1), (42, [2, 3], [], 0), (90, [3], [], -2147483648), (91, [3], [], 2147483647), (5000, [0, 1, 2], [0, 1], 2), (90, [2], [], -2147483648), (91, [2], [], 2147483647)], (4000, [1, 24], [11], 2)),
  ([(10, [25, 2], [], 1), (42, [2, 3], [], 0), (90, [3], [], -2147483648), (91, [3], [], 2147483647), (5000, [0, 1, 2], [0, 1], 2), (90, [2], [], -2147483648), (91, [2], [], 2147483647)], (4000, [1, 25], [11], 2)),
  ([(10, [24, 2], [], 1), (42, [2, 3], [], 0), (90, [3], [], -2147483648), (91, [3], [], 2147483647), (5000, [0, 1, 2], [0, 1], 2), (90, [2], [], -2147483648), (91, [2], [], 2147483647)], (4000, [1, 24], [11], 2)),
  ([(10, [25, 2], [], 1), (42, [2, 3], [], 0), (90, [3], [], -2147483648), (91, [3], [], 2147483647), (5000, [0, 1, 2], [0, 1], 2), (90, [2], [], -2147483648), (91, [2], [], 2147483647)], (4000, [1, 25], [11], 2)),
  ([(10, [19, 2], [], 1), (42, [2, 3], [], 0), (90, [3], [], -2147483648), (91, [3], [], 2147483647), (5000, [0, 1, 2], [0, 1], 2), (90, [2], [], -2147483648), (91, [2], [], 2147483647)], (4000, [1, 19], [8], 2)),
  ([(10, [20, 2], [], 1), (42, [2, 3], [], 0), (90, [3], [], -2147483648), (91, [3], [], 2147483647), (5000, [0, 1, 2], [0, 1], 2), (90, [2], [], -2147483648), (91, [2], [], 2147483647)], (4000, [1, 20], [8], 2)),
  ([(10, [24, 2], [], 1), (42, [2, 3], [], 0), (90, [3], [], -2147483648), (91, [3], [], 2147483647), (5000, [0, 1, 2], [0, 1], 2), (90, [2], [], -2147483648), (91, [2], [], 2147483647)], (4000, [1, 24], [11], 2)),
  ([(10, [25, 2], [], 1), (42, [2, 3], [], 0), (90, [3], [], -2147483648), (91, [3], [], 2147483647), (5000, [0, 1, 2], [0, 1], 2), (90, [2], [], -2147483648), (91, [2], [], 2147483647)], (4000, [1, 25], [11], 2)),
  ([(10, [24, 2], [], 1), (42, [2, 3], [], 0), (90, [3], [], -2147483648), (91, [3], [], 2147483647), (5000, [0, 1, 2], [0, 1], 2), (90, [2], [], -2147483648), (91, [2], [], 2147483647)], (4000, [1, 24], [11], 2)),
  ([(10, [25, 2], [], 1), (42, [2, 3], [], 0), (90, [3], [], -2147483648), (91, [3], [], 2147483647), (5000, [0, 1, 2], [0, 1], 2), (90, [2], [], -2147483648), (91, [2], [], 2147483647)], (4000, [1, 25], [11], 2))]
theorem r_107_2 : vCovO true (eRc e_107 L_107 cs_107 2000 (2, [(0, (3, 5, -1, 0)), (1, (0, -2147483648, 2147483647, 0))])) p_107_2 = true := by decide +kernel
theorem m_107 (d : Nat) : eC e_107 (d + 5) := eC_ok (e := e_107) (L := L_107) (cs := cs_107) (n := 2000) (d := d + 4) (A := A_107) (μ := mu_107) (tp := true) (p0 := p_107_s) rfl ⟨m_108 d, ⟨m_199 (d + 3), trivial⟩⟩ rfl (.inr pre0_ok) (by decide +kernel) (fun _ => post0_ok) r_107_s (allC c_107_s_0 allN) (allC (.inl ⟨p_107_2, r_107_2, fun q0 => (allC c_107_2_0 (allC c_107_2_1 (allC c_107_2_2 (allC c_107_2_3 (allC c_107_2_4 (allC c_107_2_5 (allC c_107_2_6 (allC c_107_2_7 (allC c_107_2_8 (allC c_107_2_9 (allC c_107_2_10 (allC c_107_2_11 (allC c_107_2_12 allN)))))))))))))⟩) allN)
/- MixStage.isSample (J)Z -/
noncomputable def s_198 : vM := ([(1, 0, 0, 0)], (0, 0, 1, 0), 0, 0, [])
noncomputable def e_198 : vE := (198, s_198, pre0, post0)
noncomputable def L_198 : List vE := []
def cs_198 : List vC := []
def A_198 : Int → List Int → gH → gH → Prop := fun c xs h0 h => True
def mu_198 : Int → List Int → gH → gH → Nat := fun c xs h0 h => 0
def p_198_s : List vG := []
theorem r_198_s : vCovO true (eR0 e_198 L_198 cs_198 2000) p_198_s = true := by decide +kernel
theorem m_198 (d : Nat) : eC e_198 (d + 1) := eC_ok (e := e_198) (L := L_198) (cs := cs_198) (n := 2000) (d := d + 0) (A := A_198) (μ := mu_198) (tp := true) (p0 := p_198_s) rfl trivial rfl (.inr pre0_ok) (by decide +kernel) (fun _ => post0_ok) r_198_s allN allN
/- Sound.canWave (IIII)Z -/
noncomputable def s_118 : vM := ([(3, 7, -1, 0), (0, -2147483648, 2147483647, 0), (0, -2147483648, 2147483647, 0), (0, -2147483648, 2147483647, 0), (0, -2147483648, 2147483647, 0)], (0, 0, 1, 0), 0, 0, [])
noncomputable def e_118 : vE := (118, s_118, pre0, post0)
noncomputable def L_118 : List vE := [e_198]
def cs_118 : List vC := []
def A_118 : Int → List Int → gH → gH → Prop := fun c xs h0 h => True
def mu_118 : Int → List Int → gH → gH → Nat := fun c xs h0 h => 0
def p_118_s : List vG := []
theorem r_118_s : vCovO true (eR0 e_118 L_118 cs_118 2000) p_118_s = true := by decide +kernel
theorem m_118 (d : Nat) : eC e_118 (d + 2) := eC_ok (e := e_118) (L := L_118) (cs := cs_118) (n := 2000) (d := d + 1) (A := A_118) (μ := mu_118) (tp := true) (p0 := p_118_s) rfl ⟨m_198 d, trivial⟩ rfl (.inr pre0_ok) (by decide +kernel) (fun _ => post0_ok) r_118_s allN allN
/- Tracer.seekHeard (ILMixStage$Cue;)V -/
noncomputable def s_134 : vM := ([(3, 9, 281, 0), (0, -2147483648, 2147483647, 0), (3, 1, -1, 0)], (9, 0, 0, 0), 0, 0, [(10, 0), (10, 1), (10, 2), (100, 0)])
noncomputable def e_134 : vE := (134, s_134, pre0, post0)
noncomputable def L_134 : List vE := [e_37, e_40, e_53, e_201, e_203]
def cs_134 : List vC := [(32, [(0, (3, 9, 281, 0)), (1, (0, -2147483648, 2147483647, 0)), (2, (3, 1, -1, 0)), (3, (0, -2147483648, 2147483647, 0)), (4, (0, -2147483648, 2147483647, 0))])]
def mub_134_32 (a0 a1 a2 x0 x1 x2 x3 x4 : Int) (h0 h : gH) : Nat := (2147483648 - x4).toNat
def A_134 : Int → List Int → gH → gH → Prop := fun c xs h0 h => True
def mu_134 : Int → List Int → gH → gH → Nat := fun c xs h0 h => match c.toNat with
  | 32 => (match xs with
    | [a0, a1, a2, x0, x1, x2, x3, x4] => mub_134_32 a0 a1 a2 x0 x1 x2 x3 x4 h0 h
    | _ => 0)
  | _ => 0
theorem q_134_0 {n0 n1 n2 n3 n4 : Int} {H0 H1 : gH}  : True ∧ ∀ q, none = some q → mub_134_32 n0 n1 n2 n0 n1 n2 n3 n4 H0 H1 < q := by
  exact ⟨trivial, fun q hq => nomatch hq⟩
theorem c_134_s_0 : vOkm T0 (eP e_134 L_134 A_134 mu_134 none) 3 ([], (4000, [0, 1, 2, 6, 11], [3], 32)) := vOk_in fun ρ η h => by
  obtain ⟨_⟩ := h
  exact q_134_0 (n0 := ρ 0) (n1 := ρ 1) (n2 := ρ 2) (n3 := ρ 6) (n4 := ρ 11) (H0 := η 0) (H1 := η 3) 
def p_134_s : List vG := [([], (4000, [0, 1, 2, 6, 11], [3], 32))]
theorem r_134_s : vCovO true (eR0 e_134 L_134 cs_134 2000) p_134_s = true := by decide +kernel
theorem q_134_1 {q0 : Nat} {n0 n1 n2 n3 n4 n5 n6 n7 n8 : Int} {H0 H1 H2 : gH} (f0 : n0 ≤ 2147483647) (f1 : (-2147483648) ≤ n0) (f2 : n1 ≤ 2147483647) (f3 : (-2147483648) ≤ n1) (f4 : (hLe T0 H0 H1 ∧ hFr s_134.2.2.2.2 H0 H1 ∧ hWt T0 H1) ∧ (True ∧ True) ∧ some q0 = some (mub_134_32 n2 n3 n4 n5 n6 n7 n1 n0 H0 H1)) (f5 : n0 < n1) (f6 : n8 = w32 (n0 + 1)) : True ∧ ∀ q, some q0 = some q → mub_134_32 n2 n3 n4 n5 n6 n7 n1 n8 H0 H2 < q := by
  have g5 := Option.some.inj f4.2.2
  unfold mub_134_32 at g5
  unfold mub_134_32
  unfold w32 at *
  refine ⟨?_, fun q hq => ?_⟩
  · trivial
  · have g6 := Option.some.inj hq
    subst g6
    omega
theorem c_134_32_0 {q0 : Nat} : vOkm T0 (eP e_134 L_134 A_134 mu_134 (some q0)) 3 ([(10, [11, 7], [], 1), (42, [7, 6], [], 0), (5000, [0, 1, 2, 3, 4, 5, 6, 7], [0, 1], 32), (90, [6], [], -2147483648), (91, [6], [], 2147483647), (90, [7], [], -2147483648), (91, [7], [], 2147483647)], (4000, [3, 4, 5, 6, 11], [2], 32)) := vOk_in fun ρ η h => by
  obtain ⟨f0, f1, f2, f3, f4, f5, f6, _⟩ := h
  exact q_134_1 (q0 := q0) (n0 := ρ 7) (n1 := ρ 6) (n2 := ρ 0) (n3 := ρ 1) (n4 := ρ 2) (n5 := ρ 3) (n6 := ρ 4) (n7 := ρ 5) (n8 := ρ 11) (H0 := η 0) (H1 := η 1) (H2 := η 2) f6 f5 f4 f3 f2 f1 f0
theorem c_134_32_1 {q0 : Nat} : vOkm T0 (eP e_134 L_134 A_134 mu_134 (some q0)) 3 ([(10, [15, 7], [], 1), (42, [7, 6], [], 0), (5000, [0, 1, 2, 3, 4, 5, 6, 7], [0, 1], 32), (90, [6], [], -2147483648), (91, [6], [], 2147483647), (90, [7], [], -2147483648), (91, [7], [], 2147483647)], (4000, [3, 4, 5, 6, 15], [3], 32)) := vOk_in fun ρ η h => by
  obtain ⟨f0, f1, f2, f3, f4, f5, f6, _⟩ := h
  exact q_134_1 (q0 := q0) (n0 := ρ 7) (n1 := ρ 6) (n2 := ρ 0) (n3 := ρ 1) (n4 := ρ 2) (n5 := ρ 3) (n6 := ρ 4) (n7 := ρ 5) (n8 := ρ 15) (H0 := η 0) (H1 := η 1) (H2 := η 3) f6 f5 f4 f3 f2 f1 f0
def p_134_32 : List vG := [([(10, [11, 7], [], 1), (42, [7, 6], [], 0), (5000, [0, 1, 2, 3, 4, 5, 6, 7], [0, 1], 32), (90, [6], [], -2147483648), (91, [6], [], 2147483647), (90, [7], [], -2147483648), (91, [7], [], 2147483647)], (4000, [3, 4, 5, 6, 11], [2], 32)),
  ([(10, [15, 7], [], 1), (42, [7, 6], [], 0), (5000, [0, 1, 2, 3, 4, 5, 6, 7], [0, 1], 32), (90, [6], [], -2147483648), (91, [6], [], 2147483647), (90, [7], [], -2147483648), (91, [7], [], 2147483647)], (4000, [3, 4, 5, 6, 15], [3], 32))]
theorem r_134_32 : vCovO true (eRc e_134 L_134 cs_134 2000 (32, [(0, (3, 9, 281, 0)), (1, (0, -2147483648, 2147483647, 0)), (2, (3, 1, -1, 0)), (3, (0, -2147483648, 2147483647, 0)), (4, (0, -2147483648, 2147483647, 0))])) p_134_32 = true := by decide +kernel
theorem m_134 (d : Nat) : eC e_134 (d + 5) := eC_ok (e := e_134) (L := L_134) (cs := cs_134) (n := 2000) (d := d + 4) (A := A_134) (μ := mu_134) (tp := true) (p0 := p_134_s) rfl ⟨m_37 d, ⟨m_40 (d + 1), ⟨m_53 (d + 2), ⟨m_201 (d + 3), ⟨m_203 (d + 2), trivial⟩⟩⟩⟩⟩ rfl (.inr pre0_ok) (by decide +kernel) (fun _ => post0_ok) r_134_s (allC c_134_s_0 allN) (allC (.inl ⟨p_134_32, r_134_32, fun q0 => (allC c_134_32_0 (allC c_134_32_1 allN))⟩) allN)
/- Tracer.isSought (III)Z -/
noncomputable def s_135 : vM := ([(3, 9, 281, 0), (0, -2147483648, 2147483647, 0), (0, -2147483648, 2147483647, 0), (0, -2147483648, 2147483647, 0)], (0, 0, 1, 0), 0, 0, [])
noncomputable def e_135 : vE := (135, s_135, pre0, post0)
noncomputable def L_135 : List vE := [e_58, e_199]
def cs_135 : List vC := []
def A_135 : Int → List Int → gH → gH → Prop := fun c xs h0 h => True
def mu_135 : Int → List Int → gH → gH → Nat := fun c xs h0 h => 0
def p_135_s : List vG := []
theorem r_135_s : vCovO true (eR0 e_135 L_135 cs_135 2000) p_135_s = true := by decide +kernel
theorem m_135 (d : Nat) : eC e_135 (d + 3) := eC_ok (e := e_135) (L := L_135) (cs := cs_135) (n := 2000) (d := d + 2) (A := A_135) (μ := mu_135) (tp := true) (p0 := p_135_s) rfl ⟨m_58 d, ⟨m_199 (d + 1), trivial⟩⟩ rfl (.inr pre0_ok) (by decide +kernel) (fun _ => post0_ok) r_135_s allN allN
/- Tracer.firstFrameOf (ILMixStage$Cue;I)I -/
noncomputable def s_136 : vM := ([(3, 9, 281, 0), (0, -2147483648, 2147483647, 0), (3, 1, -1, 0), (0, -2147483648, 2147483647, 0)], (0, -2147483648, 2147483647, 0), 0, 0, [(10, 0), (10, 1), (10, 2), (100, 0)])
noncomputable def e_136 : vE := (136, s_136, pre0, post0)
noncomputable def L_136 : List vE := [e_53, e_134, e_135]
def cs_136 : List vC := [(19, [(0, (3, 9, 281, 0)), (1, (0, -2147483648, 2147483647, 0)), (2, (3, 1, -1, 0)), (3, (0, -2147483648, 2147483647, 0)), (4, (0, -2147483648, 2147483647, 0)), (5, (0, -2147483648, 2147483647, 0))])]
def mub_136_19 (a0 a1 a2 a3 x0 x1 x2 x3 x4 x5 : Int) (h0 h : gH) : Nat := (2147483648 - x5).toNat
def A_136 : Int → List Int → gH → gH → Prop := fun c xs h0 h => True
def mu_136 : Int → List Int → gH → gH → Nat := fun c xs h0 h => match c.toNat with
  | 19 => (match xs with
    | [a0, a1, a2, a3, x0, x1, x2, x3, x4, x5] => mub_136_19 a0 a1 a2 a3 x0 x1 x2 x3 x4 x5 h0 h
    | _ => 0)
  | _ => 0
theorem q_136_0 {n0 n1 n2 n3 n4 n5 : Int} {H0 H1 : gH}  : True ∧ ∀ q, none = some q → mub_136_19 n0 n1 n2 n3 n0 n1 n2 n3 n4 n5 H0 H1 < q := by
  exact ⟨trivial, fun q hq => nomatch hq⟩
theorem c_136_s_0 : vOkm T0 (eP e_136 L_136 A_136 mu_136 none) 4 ([], (4000, [0, 1, 2, 3, 5, 6], [2], 19)) := vOk_in fun ρ η h => by
  obtain ⟨_⟩ := h
  exact q_136_0 (n0 := ρ 0) (n1 := ρ 1) (n2 := ρ 2) (n3 := ρ 3) (n4 := ρ 5) (n5 := ρ 6) (H0 := η 0) (H1 := η 2) 
def p_136_s : List vG := [([], (4000, [0, 1, 2, 3, 5, 6], [2], 19))]
theorem r_136_s : vCovO true (eR0 e_136 L_136 cs_136 2000) p_136_s = true := by decide +kernel
theorem q_136_1 {q0 : Nat} {n0 n1 n2 n3 n4 n5 n6 n7 n8 n9 n10 : Int} {H0 H1 H2 : gH} (f0 : n0 ≤ 2147483647) (f1 : (-2147483648) ≤ n0) (f2 : n1 ≤ 2147483647) (f3 : (-2147483648) ≤ n1) (f4 : (hLe T0 H0 H1 ∧ hFr s_136.2.2.2.2 H0 H1 ∧ hWt T0 H1) ∧ (True ∧ True) ∧ some q0 = some (mub_136_19 n2 n3 n4 n5 n6 n7 n8 n9 n1 n0 H0 H1)) (f5 : n0 < n1) (f6 : n10 = w32 (n0 + 1)) : True ∧ ∀ q, some q0 = some q → mub_136_19 n2 n3 n4 n5 n6 n7 n8 n9 n1 n10 H0 H2 < q := by
  have g5 := Option.some.inj f4.2.2
  unfold mub_136_19 at g5
  unfold mub_136_19
  unfold w32 at *
  refine ⟨?_, fun q hq => ?_⟩
  · trivial
  · have g6 := Option.some.inj hq
    subst g6
    omega
theorem c_136_19_0 {q0 : Nat} : vOkm T0 (eP e_136 L_136 A_136 mu_136 (some q0)) 4 ([(10, [11, 9], [], 1), (42, [9, 8], [], 0), (5000, [0, 1, 2, 3, 4, 5, 6, 7, 8, 9], [0, 1], 19), (90, [8], [], -2147483648), (91, [8], [], 2147483647), (90, [9], [], -2147483648), (91, [9], [], 2147483647)], (4000, [4, 5, 6, 7, 8, 11], [2], 19)) := vOk_in fun ρ η h => by
  obtain ⟨f0, f1, f2, f3, f4, f5, f6, _⟩ := h
  exact q_136_1 (q0 := q0) (n0 := ρ 9) (n1 := ρ 8) (n2 := ρ 0) (n3 := ρ 1) (n4 := ρ 2) (n5 := ρ 3) (n6 := ρ 4) (n7 := ρ 5) (n8 := ρ 6) (n9 := ρ 7) (n10 := ρ 11) (H0 := η 0) (H1 := η 1) (H2 := η 2) f6 f5 f4 f3 f2 f1 f0
def p_136_19 : List vG := [([(10, [11, 9], [], 1), (42, [9, 8], [], 0), (5000, [0, 1, 2, 3, 4, 5, 6, 7, 8, 9], [0, 1], 19), (90, [8], [], -2147483648), (91, [8], [], 2147483647), (90, [9], [], -2147483648), (91, [9], [], 2147483647)], (4000, [4, 5, 6, 7, 8, 11], [2], 19))]
theorem r_136_19 : vCovO true (eRc e_136 L_136 cs_136 2000 (19, [(0, (3, 9, 281, 0)), (1, (0, -2147483648, 2147483647, 0)), (2, (3, 1, -1, 0)), (3, (0, -2147483648, 2147483647, 0)), (4, (0, -2147483648, 2147483647, 0)), (5, (0, -2147483648, 2147483647, 0))])) p_136_19 = true := by decide +kernel
theorem m_136 (d : Nat) : eC e_136 (d + 6) := eC_ok (e := e_136) (L := L_136) (cs := cs_136) (n := 2000) (d := d + 5) (A := A_136) (μ := mu_136) (tp := true) (p0 := p_136_s) rfl ⟨m_53 (d + 3), ⟨m_134 d, ⟨m_135 (d + 2), trivial⟩⟩⟩ rfl (.inr pre0_ok) (by decide +kernel) (fun _ => post0_ok) r_136_s (allC c_136_s_0 allN) (allC (.inl ⟨p_136_19, r_136_19, fun q0 => (allC c_136_19_0 allN)⟩) allN)
/- Tracer.nextSought (I)I -/
noncomputable def s_138 : vM := ([(3, 9, 281, 0), (0, -2147483648, 2147483647, 0)], (0, -2147483648, 2147483647, 0), 0, 0, [])
noncomputable def e_138 : vE := (138, s_138, pre0, post0)
noncomputable def L_138 : List vE := [e_199]
def cs_138 : List vC := [(4, [(0, (3, 9, 281, 0)), (1, (0, -2147483648, 2147483647, 0)), (2, (0, -2147483648, 2147483647, 0))])]
def mub_138_4 (a0 a1 x0 x1 x2 : Int) (h0 h : gH) : Nat := (2147483648 - x2).toNat
def A_138 : Int → List Int → gH → gH → Prop := fun c xs h0 h => True
def mu_138 : Int → List Int → gH → gH → Nat := fun c xs h0 h => match c.toNat with
  | 4 => (match xs with
    | [a0, a1, x0, x1, x2] => mub_138_4 a0 a1 x0 x1 x2 h0 h
    | _ => 0)
  | _ => 0
theorem q_138_0 {n0 n1 n2 : Int} {H0 : gH}  : True ∧ ∀ q, none = some q → mub_138_4 n0 n1 n0 n1 n2 H0 H0 < q := by
  exact ⟨trivial, fun q hq => nomatch hq⟩
theorem c_138_s_0 : vOkm T0 (eP e_138 L_138 A_138 mu_138 none) 2 ([], (4000, [0, 1, 3], [0], 4)) := vOk_in fun ρ η h => by
  obtain ⟨_⟩ := h
  exact q_138_0 (n0 := ρ 0) (n1 := ρ 1) (n2 := ρ 3) (H0 := η 0) 
def p_138_s : List vG := [([], (4000, [0, 1, 3], [0], 4))]
theorem r_138_s : vCovO true (eR0 e_138 L_138 cs_138 2000) p_138_s = true := by decide +kernel
theorem q_138_1 {q0 : Nat} {n0 n1 n2 n3 n4 n5 n6 : Int} {H0 H1 H2 : gH} (f0 : n0 ≤ 2147483647) (f1 : (-2147483648) ≤ n0) (f2 : (hLe T0 H0 H1 ∧ hFr s_138.2.2.2.2 H0 H1 ∧ hWt T0 H1) ∧ (True ∧ True) ∧ some q0 = some (mub_138_4 n1 n2 n3 n4 n0 H0 H1)) (f3 : n5 = 60) (f4 : n0 < n5) (f5 : n6 = w32 (n0 + 1)) : True ∧ ∀ q, some q0 = some q → mub_138_4 n1 n2 n3 n4 n6 H0 H2 < q := by
  have g5 := Option.some.inj f2.2.2
  unfold mub_138_4 at g5
  unfold mub_138_4
  unfold w32 at *
  refine ⟨?_, fun q hq => ?_⟩
  · trivial
  · have g6 := Option.some.inj hq
    subst g6
    omega
theorem c_138_4_0 {q0 : Nat} : vOkm T0 (eP e_138 L_138 A_138 mu_138 (some q0)) 2 ([(10, [8, 4], [], 1), (42, [4, 5], [], 0), (0, [5], [], 60), (5000, [0, 1, 2, 3, 4], [0, 1], 4), (90, [4], [], -2147483648), (91, [4], [], 2147483647)], (4000, [2, 3, 8], [2], 4)) := vOk_in fun ρ η h => by
  obtain ⟨f0, f1, f2, f3, f4, f5, _⟩ := h
  exact q_138_1 (q0 := q0) (n0 := ρ 4) (n1 := ρ 0) (n2 := ρ 1) (n3 := ρ 2) (n4 := ρ 3) (n5 := ρ 5) (n6 := ρ 8) (H0 := η 0) (H1 := η 1) (H2 := η 2) f5 f4 f3 f2 f1 f0
def p_138_4 : List vG := [([(10, [8, 4], [], 1), (42, [4, 5], [], 0), (0, [5], [], 60), (5000, [0, 1, 2, 3, 4], [0, 1], 4), (90, [4], [], -2147483648), (91, [4], [], 2147483647)], (4000, [2, 3, 8], [2], 4))]
theorem r_138_4 : vCovO true (eRc e_138 L_138 cs_138 2000 (4, [(0, (3, 9, 281, 0)), (1, (0, -2147483648, 2147483647, 0)), (2, (0, -2147483648, 2147483647, 0))])) p_138_4 = true := by decide +kernel
theorem m_138 (d : Nat) : eC e_138 (d + 2) := eC_ok (e := e_138) (L := L_138) (cs := cs_138) (n := 2000) (d := d + 1) (A := A_138) (μ := mu_138) (tp := true) (p0 := p_138_s) rfl ⟨m_199 d, trivial⟩ rfl (.inr pre0_ok) (by decide +kernel) (fun _ => post0_ok) r_138_s (allC c_138_s_0 allN) (allC (.inl ⟨p_138_4, r_138_4, fun q0 => (allC c_138_4_0 allN)⟩) allN)
/- Tracer.countSought ()I -/
noncomputable def s_139 : vM := ([(3, 9, 281, 0)], (0, -2147483648, 2147483647, 0), 0, 0, [])
noncomputable def e_139 : vE := (139, s_139, pre0, post0)
noncomputable def L_139 : List vE := [e_199]
def cs_139 : List vC := [(4, [(0, (3, 9, 281, 0)), (1, (0, -2147483648, 2147483647, 0)), (2, (0, -2147483648, 2147483647, 0))])]
def mub_139_4 (a0 x0 x1 x2 : Int) (h0 h : gH) : Nat := (2147483648 - x2).toNat
def A_139 : Int → List Int → gH → gH → Prop := fun c xs h0 h => True
def mu_139 : Int → List Int → gH → gH → Nat := fun c xs h0 h => match c.toNat with
  | 4 => (match xs with
    | [a0, x0, x1, x2] => mub_139_4 a0 x0 x1 x2 h0 h
    | _ => 0)
  | _ => 0
theorem q_139_0 {n0 n1 n2 : Int} {H0 : gH}  : True ∧ ∀ q, none = some q → mub_139_4 n0 n0 n1 n2 H0 H0 < q := by
  exact ⟨trivial, fun q hq => nomatch hq⟩
theorem c_139_s_0 : vOkm T0 (eP e_139 L_139 A_139 mu_139 none) 1 ([], (4000, [0, 1, 2], [0], 4)) := vOk_in fun ρ η h => by
  obtain ⟨_⟩ := h
  exact q_139_0 (n0 := ρ 0) (n1 := ρ 1) (n2 := ρ 2) (H0 := η 0) 
def p_139_s : List vG := [([], (4000, [0, 1, 2], [0], 4))]
theorem r_139_s : vCovO true (eR0 e_139 L_139 cs_139 2000) p_139_s = true := by decide +kernel
theorem q_139_1 {q0 : Nat} {n0 n1 n2 n3 n4 n5 n6 : Int} {H0 H1 H2 : gH} (f0 : n0 ≤ 2147483647) (f1 : (-2147483648) ≤ n0) (f2 : (hLe T0 H0 H1 ∧ hFr s_139.2.2.2.2 H0 H1 ∧ hWt T0 H1) ∧ (True ∧ True) ∧ some q0 = some (mub_139_4 n1 n2 n3 n0 H0 H1)) (f3 : n4 = 60) (f4 : n0 < n4) (f5 : n5 = w32 (n0 + 1)) : True ∧ ∀ q, some q0 = some q → mub_139_4 n1 n2 n6 n5 H0 H2 < q := by
  have g5 := Option.some.inj f2.2.2
  unfold mub_139_4 at g5
  unfold mub_139_4
  unfold w32 at *
  refine ⟨?_, fun q hq => ?_⟩
  · trivial
  · have g6 := Option.some.inj hq
    subst g6
    omega
theorem c_139_4_0 {q0 : Nat} : vOkm T0 (eP e_139 L_139 A_139 mu_139 (some q0)) 1 ([(10, [8, 3], [], 1), (42, [3, 4], [], 0), (0, [4], [], 60), (5000, [0, 1, 2, 3], [0, 1], 4), (90, [3], [], -2147483648), (91, [3], [], 2147483647)], (4000, [1, 7, 8], [2], 4)) := vOk_in fun ρ η h => by
  obtain ⟨f0, f1, f2, f3, f4, f5, _⟩ := h
  exact q_139_1 (q0 := q0) (n0 := ρ 3) (n1 := ρ 0) (n2 := ρ 1) (n3 := ρ 2) (n4 := ρ 4) (n5 := ρ 8) (n6 := ρ 7) (H0 := η 0) (H1 := η 1) (H2 := η 2) f5 f4 f3 f2 f1 f0
def p_139_4 : List vG := [([(10, [8, 3], [], 1), (42, [3, 4], [], 0), (0, [4], [], 60), (5000, [0, 1, 2, 3], [0, 1], 4), (90, [3], [], -2147483648), (91, [3], [], 2147483647)], (4000, [1, 7, 8], [2], 4))]
theorem r_139_4 : vCovO true (eRc e_139 L_139 cs_139 2000 (4, [(0, (3, 9, 281, 0)), (1, (0, -2147483648, 2147483647, 0)), (2, (0, -2147483648, 2147483647, 0))])) p_139_4 = true := by decide +kernel
theorem m_139 (d : Nat) : eC e_139 (d + 2) := eC_ok (e := e_139) (L := L_139) (cs := cs_139) (n := 2000) (d := d + 1) (A := A_139) (μ := mu_139) (tp := true) (p0 := p_139_s) rfl ⟨m_199 d, trivial⟩ rfl (.inr pre0_ok) (by decide +kernel) (fun _ => post0_ok) r_139_s (allC c_139_s_0 allN) (allC (.inl ⟨p_139_4, r_139_4, fun q0 => (allC c_139_4_0 allN)⟩) allN)
/- Tracer.fateOf (ILMixStage$Cue;I)I -/
noncomputable def s_137 : vM := ([(3, 9, 281, 0), (0, -2147483648, 2147483647, 0), (3, 1, -1, 0), (0, -2147483648, 2147483647, 0)], (0, -2147483648, 2147483647, 0), 0, 0, [(10, 0), (10, 1), (10, 2), (100, 0)])
noncomputable def e_137 : vE := (137, s_137, pre0, post0)
noncomputable def L_137 : List vE := [e_53, e_58, e_134, e_135, e_138, e_139, e_199, e_201, e_203]
def cs_137 : List vC := [(42, [(0, (3, 9, 281, 0)), (1, (0, -2147483648, 2147483647, 0)), (2, (3, 1, -1, 0)), (3, (0, -2147483648, 2147483647, 0)), (4, (0, -2147483648, 2147483647, 0)), (5, (0, -2147483648, 2147483647, 0)), (6, (0, -2147483648, 2147483647, 0)), (7, (0, -2147483648, 2147483647, 0)), (8, (0, -2147483648, 2147483647, 0)), (9, (0, -2147483648, 2147483647, 0)), (10, (0, -2147483648, 2147483647, 0))])]
def mub_137_42 (a0 a1 a2 a3 x0 x1 x2 x3 x4 x5 x6 x7 x8 x9 x10 : Int) (h0 h : gH) : Nat := (2147483648 - x10).toNat
def A_137 : Int → List Int → gH → gH → Prop := fun c xs h0 h => True
def mu_137 : Int → List Int → gH → gH → Nat := fun c xs h0 h => match c.toNat with
  | 42 => (match xs with
    | [a0, a1, a2, a3, x0, x1, x2, x3, x4, x5, x6, x7, x8, x9, x10] => mub_137_42 a0 a1 a2 a3 x0 x1 x2 x3 x4 x5 x6 x7 x8 x9 x10 h0 h
    | _ => 0)
  | _ => 0
theorem q_137_0 {n0 n1 n2 n3 n4 n5 n6 n7 n8 n9 n10 : Int} {H0 H1 : gH}  : True ∧ ∀ q, none = some q → mub_137_42 n0 n1 n2 n3 n0 n1 n2 n3 n4 n5 n6 n7 n8 n9 n10 H0 H1 < q := by
  exact ⟨trivial, fun q hq => nomatch hq⟩
theorem c_137_s_0 : vOkm T0 (eP e_137 L_137 A_137 mu_137 none) 4 ([], (4000, [0, 1, 2, 3, 6, 7, 8, 9, 10, 12, 13], [3], 42)) := vOk_in fun ρ η h => by
  obtain ⟨_⟩ := h
  exact q_137_0 (n0 := ρ 0) (n1 := ρ 1) (n2 := ρ 2) (n3 := ρ 3) (n4 := ρ 6) (n5 := ρ 7) (n6 := ρ 8) (n7 := ρ 9) (n8 := ρ 10) (n9 := ρ 12) (n10 := ρ 13) (H0 := η 0) (H1 := η 3) 
def p_137_s : List vG := [([], (4000, [0, 1, 2, 3, 6, 7, 8, 9, 10, 12, 13], [3], 42))]
theorem r_137_s : vCovO true (eR0 e_137 L_137 cs_137 2000) p_137_s = true := by decide +kernel
theorem q_137_1 {q0 : Nat} {n0 n1 n2 n3 n4 n5 n6 n7 n8 n9 n10 n11 n12 n13 n14 n15 : Int} {H0 H1 H2 : gH} (f0 : n0 ≤ 2147483647) (f1 : (-2147483648) ≤ n0) (f2 : n1 ≤ 2147483647) (f3 : (-2147483648) ≤ n1) (f4 : (hLe T0 H0 H1 ∧ hFr s_137.2.2.2.2 H0 H1 ∧ hWt T0 H1) ∧ (True ∧ True) ∧ some q0 = some (mub_137_42 n2 n3 n4 n5 n6 n7 n8 n9 n10 n11 n12 n13 n14 n1 n0 H0 H1)) (f5 : n0 < n1) (f6 : n15 = w32 (n0 + 1)) : True ∧ ∀ q, some q0 = some q → mub_137_42 n2 n3 n4 n5 n6 n7 n8 n9 n10 n11 n12 n13 n14 n1 n15 H0 H2 < q := by
  have g5 := Option.some.inj f4.2.2
  unfold mub_137_42 at g5
  unfold mub_137_42
  unfold w32 at *
  refine ⟨?_, fun q hq => ?_⟩
  · trivial
  · have g6 := Option.some.inj hq
    subst g6
    omega
theorem c_137_42_0 {q0 : Nat} : vOkm T0 (eP e_137 L_137 A_137 mu_137 (some q0)) 4 ([(10, [16, 14], [], 1), (42, [14, 13], [], 0), (5000, [0, 1, 2, 3, 4, 5, 6, 7, 8, 9, 10, 11, 12, 13, 14], [0, 1], 42), (90, [13], [], -2147483648), (91, [13], [], 2147483647), (90, [14], [], -2147483648), (91, [14], [], 2147483647)], (4000, [4, 5, 6, 7, 8, 9, 10, 11, 12, 13, 16], [2], 42)) := vOk_in fun ρ η h => by
  obtain ⟨f0, f1, f2, f3, f4, f5, f6, _⟩ := h
  exact q_137_1 (q0 := q0) (n0 := ρ 14) (n1 := ρ 13) (n2 := ρ 0) (n3 := ρ 1) (n4 := ρ 2) (n5 := ρ 3) (n6 := ρ 4) (n7 := ρ 5) (n8 := ρ 6) (n9 := ρ 7) (n10 := ρ 8) (n11 := ρ 9) (n12 := ρ 10) (n13 := ρ 11) (n14 := ρ 12) (n15 := ρ 16) (H0 := η 0) (H1 := η 1) (H2 := η 2) f6 f5 f4 f3 f2 f1 f0
theorem q_137_2 {q0 : Nat} {n0 n1 n2 n3 n4 n5 n6 n7 n8 n9 n10 n11 n12 n13 n14 n15 n16 n17 n18 n19 : Int} {H0 H1 H2 : gH} (f0 : n0 ≤ 2147483647) (f1 : (-2147483648) ≤ n0) (f2 : n1 ≤ 2147483647) (f3 : (-2147483648) ≤ n1) (f4 : (hLe T0 H0 H1 ∧ hFr s_137.2.2.2.2 H0 H1 ∧ hWt T0 H1) ∧ (True ∧ True) ∧ some q0 = some (mub_137_42 n2 n3 n4 n5 n6 n7 n8 n9 n10 n11 n12 n13 n14 n1 n0 H0 H1)) (f5 : n0 < n1) (f6 : n15 = w32 (n0 + 1)) : True ∧ ∀ q, some q0 = some q → mub_137_42 n2 n3 n4 n5 n6 n7 n8 n9 n16 n0 n17 n18 n19 n1 n15 H0 H2 < q := by
  have g5 := Option.some.inj f4.2.2
  unfold mub_137_42 at g5
  unfold mub_137_42
  unfold w32 at *
  refine ⟨?_, fun q hq => ?_⟩
  · trivial
  · have g6 := Option.some.inj hq
    subst g6
    omega
theorem c_137_42_1 {q0 : Nat} : vOkm T0 (eP e_137 L_137 A_137 mu_137 (some q0)) 4 ([(10, [27, 14], [], 1), (42, [14, 13], [], 0), (5000, [0, 1, 2, 3, 4, 5, 6, 7, 8, 9, 10, 11, 12, 13, 14], [0, 1], 42), (90, [13], [], -2147483648), (91, [13], [], 2147483647), (90, [14], [], -2147483648), (91, [14], [], 2147483647)], (4000, [4, 5, 6, 7, 26, 14, 17, 25, 21, 13, 27], [5], 42)) := vOk_in fun ρ η h => by
  obtain ⟨f0, f1, f2, f3, f4, f5, f6, _⟩ := h
  exact q_137_2 (q0 := q0) (n0 := ρ 14) (n1 := ρ 13) (n2 := ρ 0) (n3 := ρ 1) (n4 := ρ 2) (n5 := ρ 3) (n6 := ρ 4) (n7 := ρ 5) (n8 := ρ 6) (n9 := ρ 7) (n10 := ρ 8) (n11 := ρ 9) (n12 := ρ 10) (n13 := ρ 11) (n14 := ρ 12) (n15 := ρ 27) (n16 := ρ 26) (n17 := ρ 17) (n18 := ρ 25) (n19 := ρ 21) (H0 := η 0) (H1 := η 1) (H2 := η 5) f6 f5 f4 f3 f2 f1 f0
theorem q_137_3 {q0 : Nat} {n0 n1 n2 n3 n4 n5 n6 n7 n8 n9 n10 n11 n12 n13 n14 n15 n16 n17 n18 n19 n20 n21 : Int} {H0 H1 H2 : gH} (f0 : n0 ≤ 2147483647) (f1 : (-2147483648) ≤ n0) (f2 : n1 ≤ 2147483647) (f3 : (-2147483648) ≤ n1) (f4 : n2 ≤ 2147483647) (f5 : (-2147483648) ≤ n2) (f6 : (hLe T0 H0 H1 ∧ hFr s_137.2.2.2.2 H0 H1 ∧ hWt T0 H1) ∧ (True ∧ True) ∧ some q0 = some (mub_137_42 n3 n4 n5 n6 n7 n8 n9 n10 n11 n2 n12 n13 n14 n1 n0 H0 H1)) (f7 : n0 < n1) (f8 : n15 = 1) (f9 : n16 = w32 (n2 + n15)) (f10 : n0 ≠ n16) (f11 : n17 = w32 (n0 + 1)) : True ∧ ∀ q, some q0 = some q → mub_137_42 n3 n4 n5 n6 n7 n8 n9 n10 n18 n0 n19 n20 n21 n1 n17 H0 H2 < q := by
  have g5 := Option.some.inj f6.2.2
  unfold mub_137_42 at g5
  unfold mub_137_42
  unfold w32 at *
  refine ⟨?_, fun q hq => ?_⟩
  · trivial
  · have g6 := Option.some.inj hq
    subst g6
    omega
theorem c_137_42_2 {q0 : Nat} : vOkm T0 (eP e_137 L_137 A_137 mu_137 (some q0)) 4 ([(10, [29, 14], [], 1), (41, [14, 25], [], 0), (1, [25, 9, 24], [], 0), (0, [24], [], 1), (42, [14, 13], [], 0), (5000, [0, 1, 2, 3, 4, 5, 6, 7, 8, 9, 10, 11, 12, 13, 14], [0, 1], 42), (90, [9], [], -2147483648), (91, [9], [], 2147483647), (90, [13], [], -2147483648), (91, [13], [], 2147483647), (90, [14], [], -2147483648), (91, [14], [], 2147483647)], (4000, [4, 5, 6, 7, 28, 14, 17, 27, 21, 13, 29], [5], 42)) := vOk_in fun ρ η h => by
  obtain ⟨f0, f1, f2, f3, f4, f5, f6, f7, f8, f9, f10, f11, _⟩ := h
  exact q_137_3 (q0 := q0) (n0 := ρ 14) (n1 := ρ 13) (n2 := ρ 9) (n3 := ρ 0) (n4 := ρ 1) (n5 := ρ 2) (n6 := ρ 3) (n7 := ρ 4) (n8 := ρ 5) (n9 := ρ 6) (n10 := ρ 7) (n11 := ρ 8) (n12 := ρ 10) (n13 := ρ 11) (n14 := ρ 12) (n15 := ρ 24) (n16 := ρ 25) (n17 := ρ 29) (n18 := ρ 28) (n19 := ρ 17) (n20 := ρ 27) (n21 := ρ 21) (H0 := η 0) (H1 := η 1) (H2 := η 5) f11 f10 f9 f8 f7 f6 f5 f4 f3 f2 f1 f0
theorem q_137_4 {q0 : Nat} {n0 n1 n2 n3 n4 n5 n6 n7 n8 n9 n10 n11 n12 n13 n14 n15 n16 n17 n18 n19 n20 n21 : Int} {H0 H1 H2 : gH} (f0 : n0 ≤ 2147483647) (f1 : (-2147483648) ≤ n0) (f2 : n1 ≤ 2147483647) (f3 : (-2147483648) ≤ n1) (f4 : n2 ≤ 2147483647) (f5 : (-2147483648) ≤ n2) (f6 : (hLe T0 H0 H1 ∧ hFr s_137.2.2.2.2 H0 H1 ∧ hWt T0 H1) ∧ (True ∧ True) ∧ some q0 = some (mub_137_42 n3 n4 n5 n6 n7 n8 n9 n10 n11 n2 n12 n13 n14 n1 n0 H0 H1)) (f7 : n0 < n1) (f8 : n15 = 1) (f9 : n16 = w32 (n2 + n15)) (f10 : n0 = n16) (f11 : n17 = w32 (n0 + 1)) : True ∧ ∀ q, some q0 = some q → mub_137_42 n3 n4 n5 n6 n7 n8 n9 n10 n18 n0 n19 n20 n21 n1 n17 H0 H2 < q := by
  have g5 := Option.some.inj f6.2.2
  unfold mub_137_42 at g5
  unfold mub_137_42
  unfold w32 at *
  refine ⟨?_, fun q hq => ?_⟩
  · trivial
  · have g6 := Option.some.inj hq
    subst g6
    omega
theorem c_137_42_3 {q0 : Nat} : vOkm T0 (eP e_137 L_137 A_137 mu_137 (some q0)) 4 ([(10, [30, 14], [], 1), (40, [14, 25], [], 0), (1, [25, 9, 24], [], 0), (0, [24], [], 1), (42, [14, 13], [], 0), (5000, [0, 1, 2, 3, 4, 5, 6, 7, 8, 9, 10, 11, 12, 13, 14], [0, 1], 42), (90, [9], [], -2147483648), (91, [9], [], 2147483647), (90, [13], [], -2147483648), (91, [13], [], 2147483647), (90, [14], [], -2147483648), (91, [14], [], 2147483647)], (4000, [4, 5, 6, 7, 29, 14, 17, 28, 21, 13, 30], [6], 42)) := vOk_in fun ρ η h => by
  obtain ⟨f0, f1, f2, f3, f4, f5, f6, f7, f8, f9, f10, f11, _⟩ := h
  exact q_137_4 (q0 := q0) (n0 := ρ 14) (n1 := ρ 13) (n2 := ρ 9) (n3 := ρ 0) (n4 := ρ 1) (n5 := ρ 2) (n6 := ρ 3) (n7 := ρ 4) (n8 := ρ 5) (n9 := ρ 6) (n10 := ρ 7) (n11 := ρ 8) (n12 := ρ 10) (n13 := ρ 11) (n14 := ρ 12) (n15 := ρ 24) (n16 := ρ 25) (n17 := ρ 30) (n18 := ρ 29) (n19 := ρ 17) (n20 := ρ 28) (n21 := ρ 21) (H0 := η 0) (H1 := η 1) (H2 := η 6) f11 f10 f9 f8 f7 f6 f5 f4 f3 f2 f1 f0
theorem c_137_42_4 {q0 : Nat} : vOkm T0 (eP e_137 L_137 A_137 mu_137 (some q0)) 4 ([(10, [30, 14], [], 1), (40, [14, 25], [], 0), (1, [25, 9, 24], [], 0), (0, [24], [], 1), (42, [14, 13], [], 0), (5000, [0, 1, 2, 3, 4, 5, 6, 7, 8, 9, 10, 11, 12, 13, 14], [0, 1], 42), (90, [9], [], -2147483648), (91, [9], [], 2147483647), (90, [13], [], -2147483648), (91, [13], [], 2147483647), (90, [14], [], -2147483648), (91, [14], [], 2147483647)], (4000, [4, 5, 6, 7, 29, 14, 17, 28, 21, 13, 30], [6], 42)) := vOk_in fun ρ η h => by
  obtain ⟨f0, f1, f2, f3, f4, f5, f6, f7, f8, f9, f10, f11, _⟩ := h
  exact q_137_4 (q0 := q0) (n0 := ρ 14) (n1 := ρ 13) (n2 := ρ 9) (n3 := ρ 0) (n4 := ρ 1) (n5 := ρ 2) (n6 := ρ 3) (n7 := ρ 4) (n8 := ρ 5) (n9 := ρ 6) (n10 := ρ 7) (n11 := ρ 8) (n12 := ρ 10) (n13 := ρ 11) (n14 := ρ 12) (n15 := ρ 24) (n16 := ρ 25) (n17 := ρ 30) (n18 := ρ 29) (n19 := ρ 17) (n20 := ρ 28) (n21 := ρ 21) (H0 := η 0) (H1 := η 1) (H2 := η 6) f11 f10 f9 f8 f7 f6 f5 f4 f3 f2 f1 f0
theorem c_137_42_5 {q0 : Nat} : vOkm T0 (eP e_137 L_137 A_137 mu_137 (some q0)) 4 ([(10, [27, 14], [], 1), (42, [14, 13], [], 0), (5000, [0, 1, 2, 3, 4, 5, 6, 7, 8, 9, 10, 11, 12, 13, 14], [0, 1], 42), (90, [13], [], -2147483648), (91, [13], [], 2147483647), (90, [14], [], -2147483648), (91, [14], [], 2147483647)], (4000, [4, 5, 6, 7, 26, 14, 17, 25, 21, 13, 27], [5], 42)) := vOk_in fun ρ η h => by
  obtain ⟨f0, f1, f2, f3, f4, f5, f6, _⟩ := h
  exact q_137_2 (q0 := q0) (n0 := ρ 14) (n1 := ρ 13) (n2 := ρ 0) (n3 := ρ 1) (n4 := ρ 2) (n5 := ρ 3) (n6 := ρ 4) (n7 := ρ 5) (n8 := ρ 6) (n9 := ρ 7) (n10 := ρ 8) (n11 := ρ 9) (n12 := ρ 10) (n13 := ρ 11) (n14 := ρ 12) (n15 := ρ 27) (n16 := ρ 26) (n17 := ρ 17) (n18 := ρ 25) (n19 := ρ 21) (H0 := η 0) (H1 := η 1) (H2 := η 5) f6 f5 f4 f3 f2 f1 f0
theorem c_137_42_6 {q0 : Nat} : vOkm T0 (eP e_137 L_137 A_137 mu_137 (some q0)) 4 ([(10, [29, 14], [], 1), (41, [14, 25], [], 0), (1, [25, 9, 24], [], 0), (0, [24], [], 1), (42, [14, 13], [], 0), (5000, [0, 1, 2, 3, 4, 5, 6, 7, 8, 9, 10, 11, 12, 13, 14], [0, 1], 42), (90, [9], [], -2147483648), (91, [9], [], 2147483647), (90, [13], [], -2147483648), (91, [13], [], 2147483647), (90, [14], [], -2147483648), (91, [14], [], 2147483647)], (4000, [4, 5, 6, 7, 28, 14, 17, 27, 21, 13, 29], [5], 42)) := vOk_in fun ρ η h => by
  obtain ⟨f0, f1, f2, f3, f4, f5, f6, f7, f8, f9, f10, f11, _⟩ := h
  exact q_137_3 (q0 := q0) (n0 := ρ 14) (n1 := ρ 13) (n2 := ρ 9) (n3 := ρ 0) (n4 := ρ 1) (n5 := ρ 2) (n6 := ρ 3) (n7 := ρ 4) (n8 := ρ 5) (n9 := ρ 6) (n10 := ρ 7) (n11 := ρ 8) (n12 := ρ 10) (n13 := ρ 11) (n14 := ρ 12) (n15 := ρ 24) (n16 := ρ 25) (n17 := ρ 29) (n18 := ρ 28) (n19 := ρ 17) (n20 := ρ 27) (n21 := ρ 21) (H0 := η 0) (H1 := η 1) (H2 := η 5) f11 f10 f9 f8 f7 f6 f5 f4 f3 f2 f1 f0
theorem c_137_42_7 {q0 : Nat} : vOkm T0 (eP e_137 L_137 A_137 mu_137 (some q0)) 4 ([(10, [30, 14], [], 1), (40, [14, 25], [], 0), (1, [25, 9, 24], [], 0), (0, [24], [], 1), (42, [14, 13], [], 0), (5000, [0, 1, 2, 3, 4, 5, 6, 7, 8, 9, 10, 11, 12, 13, 14], [0, 1], 42), (90, [9], [], -2147483648), (91, [9], [], 2147483647), (90, [13], [], -2147483648), (91, [13], [], 2147483647), (90, [14], [], -2147483648), (91, [14], [], 2147483647)], (4000, [4, 5, 6, 7, 29, 14, 17, 28, 21, 13, 30], [6], 42)) := vOk_in fun ρ η h => by
  obtain ⟨f0, f1, f2, f3, f4, f5, f6, f7, f8, f9, f10, f11, _⟩ := h
  exact q_137_4 (q0 := q0) (n0 := ρ 14) (n1 := ρ 13) (n2 := ρ 9) (n3 := ρ 0) (n4 := ρ 1) (n5 := ρ 2) (n6 := ρ 3) (n7 := ρ 4) (n8 := ρ 5) (n9 := ρ 6) (n10 := ρ 7) (n11 := ρ 8) (n12 := ρ 10) (n13 := ρ 11) (n14 := ρ 12) (n15 := ρ 24) (n16 := ρ 25) (n17 := ρ 30) (n18 := ρ 29) (n19 := ρ 17) (n20 := ρ 28) (n21 := ρ 21) (H0 := η 0) (H1 := η 1) (H2 := η 6) f11 f10 f9 f8 f7 f6 f5 f4 f3 f2 f1 f0
theorem c_137_42_8 {q0 : Nat} : vOkm T0 (eP e_137 L_137 A_137 mu_137 (some q0)) 4 ([(10, [30, 14], [], 1), (40, [14, 25], [], 0), (1, [25, 9, 24], [], 0), (0, [24], [], 1), (42, [14, 13], [], 0), (5000, [0, 1, 2, 3, 4, 5, 6, 7, 8, 9, 10, 11, 12, 13, 14], [0, 1], 42), (90, [9], [], -2147483648), (91, [9], [], 2147483647), (90, [13], [], -2147483648), (91, [13], [], 2147483647), (90, [14], [], -2147483648), (91, [14], [], 2147483647)], (4000, [4, 5, 6, 7, 29, 14, 17, 28, 21, 13, 30], [6], 42)) := vOk_in fun ρ η h => by
  obtain ⟨f0, f1, f2, f3, f4, f5, f6, f7, f8, f9, f10, f11, _⟩ := h
  exact q_137_4 (q0 := q0) (n0 := ρ 14) (n1 := ρ 13) (n2 := ρ 9) (n3 := ρ 0) (n4 := ρ 1) (n5 := ρ 2) (n6 := ρ 3) (n7 := ρ 4) (n8 := ρ 5) (n9 := ρ 6) (n10 := ρ 7) (n11 := ρ 8) (n12 := ρ 10) (n13 := ρ 11) (n14 := ρ 12) (n15 := ρ 24) (n16 := ρ 25) (n17 := ρ 30) (n18 := ρ 29) (n19 := ρ 17) (n20 := ρ 28) (n21 := ρ 21) (H0 := η 0) (H1 := η 1) (H2 := η 6) f11 f10 f9 f8 f7 f6 f5 f4 f3 f2 f1 f0
def p_137_42 : List vG := [([(10, [16, 14], [], 1), (42, [14, 13], [], 0), (5000, [0, 1, 2, 3, 4, 5, 6, 7, 8, 9, 10, 11, 12, 13, 14], [0, 1], 42), (90, [13], [], -2147483648), (91, [13], [], 2147483647), (90, [14], [], -2147483648), (91, [14], [], 2147483647)], (4000, [4, 5, 6, 7, 8, 9, 10, 11, 12, 13, 16], [2], 42)),
  ([(10, [27, 14], [], 1), (42, [14, 13], [], 0), (5000, [0, 1, 2, 3, 4, 5, 6, 7, 8, 9, 10, 11, 12, 13, 14], [0, 1], 42), (90, [13], [], -2147483648), (91, [13], [], 2147483647), (90, [14], [], -2147483648), (91, [14], [], 2147483647)], (4000, [4, 5, 6, 7, 26, 14, 17, 25, 21, 13, 27], [5], 42)),
  ([(10, [29, 14], [], 1), (41, [14, 25], [], 0), (1, [25, 9, 24], [], 0), (0, [24], [], 1), (42, [14, 13], [], 0), (5000, [0, 1, 2, 3, 4, 5, 6, 7, 8, 9, 10, 11, 12, 13, 14], [0, 1], 42), (90, [9], [], -2147483648), (91, [9], [], 2147483647), (90, [13], [], -2147483648), (91, [13], [], 2147483647), (90, [14], [], -2147483648), (91, [14], [], 2147483647)], (4000, [4, 5, 6, 7, 28, 14, 17, 27, 21, 13, 29], [5], 42)),
  ([(10, [30, 14], [], 1), (40, [14, 25], [], 0), (1, [25, 9, 24], [], 0), (0, [24], [], 1), (42, [14, 13], [], 0), (5000, [0, 1, 2, 3, 4, 5, 6, 7, 8, 9, 10, 11, 12, 13, 14], [0, 1], 42), (90, [9], [], -2147483648), (91, [9], [], 2147483647), (90, [13], [], -2147483648), (91, [13], [], 2147483647), (90, [14], [], -2147483648), (91, [14], [], 2147483647)], (4000, [4, 5, 6, 7, 29, 14, 17, 28, 21, 13, 30], [6], 42)),
  ([(10, [30, 14], [], 1), (40, [14, 25], [], 0), (1, [25, 9, 24], [], 0), (0, [24], [], 1), (42, [14, 13], [], 0), (5000, [0, 1, 2, 3, 4, 5, 6, 7, 8, 9, 10, 11, 12, 13, 14], [0, 1], 42), (90, [9], [], -2147483648), (91, [9], [], 2147483647), (90, [13], [], -2147483648), (91, [13], [], 2147483647), (90, [14], [], -2147483648), (91, [14], [], 2147483647)], (4000, [4, 5, 6, 7, 29, 14, 17, 28, 21, 13, 30], [6], 42)),
  ([(10, [27, 14], [], 1), (42, [14, 13], [], 0), (5000, [0, 1, 2, 3, 4, 5, 6, 7, 8, 9, 10, 11, 12, 13, 14], [0, 1], 42), (90, [13], [], -2147483648), (91, [13], [], 2147483647), (90, [14], [], -2147483648), (91, [14], [], 2147483647)], (4000, [4, 5, 6, 7, 26, 14, 17, 25, 21, 13, 27], [5], 42)),
  ([(10, [29, 14], [], 1), (41, [14, 25], [], 0), (1, [25, 9, 24], [], 0), (0, [24], [], 1), (42, [14, 13], [], 0), (5000, [0, 1, 2, 3, 4, 5, 6, 7, 8, 9, 10, 11, 12, 13, 14], [0, 1], 42), (90, [9], [], -2147483648), (91, [9], [], 2147483647), (90, [13], [], -2147483648), (91, [13], [], 2147483647), (90, [14], [], -2147483648), (91, [14], [], 2147483647)], (4000, [4, 5, 6, 7, 28, 14, 17, 27, 21, 13, 29], [5], 42)),
  ([(10, [30, 14], [], 1), (40, [14, 25], [], 0), (1, [25, 9, 24], [], 0), (0, [24], [], 1), (42, [14, 13], [], 0), (5000, [0, 1, 2, 3, 4, 5, 6, 7, 8, 9, 10, 11, 12, 13, 14], [0, 1], 42), (90, [9], [], -2147483648), (91, [9], [], 2147483647), (90, [13], [], -2147483648), (91, [13], [], 2147483647), (90, [14], [], -2147483648), (91, [14], [], 2147483647)], (4000, [4, 5, 6, 7, 29, 14, 17, 28, 21, 13, 30], [6], 42)),
  ([(10, [30, 14], [], 1), (40, [14, 25], [], 0), (1, [25, 9, 24], [], 0), (0, [24], [], 1), (42, [14, 13], [], 0), (5000, [0, 1, 2, 3, 4, 5, 6, 7, 8, 9, 10, 11, 12, 13, 14], [0, 1], 42), (90, [9], [], -2147483648), (91, [9], [], 2147483647), (90, [13], [], -2147483648), (91, [13], [], 2147483647), (90, [14], [], -2147483648), (91, [14], [], 2147483647)], (4000, [4, 5, 6, 7, 29, 14, 17, 28, 21, 13, 30], [6], 42))]
theorem r_137_42 : vCovO true (eRc e_137 L_137 cs_137 2000 (42, [(0, (3, 9, 281, 0)), (1, (0, -2147483648, 2147483647, 0)), (2, (3, 1, -1, 0)), (3, (0, -2147483648, 2147483647, 0)), (4, (0, -2147483648, 2147483647, 0)), (5, (0, -2147483648, 2147483647, 0)), (6, (0, -2147483648, 2147483647, 0)), (7, (0, -2147483648, 2147483647, 0)), (8, (0, -2147483648, 2147483647, 0)), (9, (0, -2147483648, 2147483647, 0)), (10, (0, -2147483648, 2147483647, 0))])) p_137_42 = true := by decide +kernel
theorem m_137 (d : Nat) : eC e_137 (d + 6) := eC_ok (e := e_137) (L := L_137) (cs := cs_137) (n := 2000) (d := d + 5) (A := A_137) (μ := mu_137) (tp := true) (p0 := p_137_s) rfl ⟨m_53 (d + 3), ⟨m_58 (d + 3), ⟨m_134 d, ⟨m_135 (d + 2), ⟨m_138 (d + 3), ⟨m_139 (d + 3), ⟨m_199 (d + 4), ⟨m_201 (d + 4), ⟨m_203 (d + 3), trivial⟩⟩⟩⟩⟩⟩⟩⟩⟩ rfl (.inr pre0_ok) (by decide +kernel) (fun _ => post0_ok) r_137_s (allC c_137_s_0 allN) (allC (.inl ⟨p_137_42, r_137_42, fun q0 => (allC c_137_42_0 (allC c_137_42_1 (allC c_137_42_2 (allC c_137_42_3 (allC c_137_42_4 (allC c_137_42_5 (allC c_137_42_6 (allC c_137_42_7 (allC c_137_42_8 allN)))))))))⟩) allN)
/- Tracer.isOfMusic (II)Z -/
noncomputable def s_140 : vM := ([(3, 9, 281, 0), (0, -2147483648, 2147483647, 0), (0, -2147483648, 2147483647, 0)], (0, 0, 1, 0), 0, 0, [])
noncomputable def e_140 : vE := (140, s_140, pre0, post0)
noncomputable def L_140 : List vE := [e_3]
def cs_140 : List vC := [(5, [(0, (3, 9, 281, 0)), (1, (0, -2147483648, 2147483647, 0)), (2, (0, -2147483648, 2147483647, 0)), (3, (0, -2147483648, 2147483647, 0)), (4, (0, -2147483648, 2147483647, 0))])]
def mub_140_5 (a0 a1 a2 x0 x1 x2 x3 x4 : Int) (h0 h : gH) : Nat := (2147483648 - x4).toNat
def A_140 : Int → List Int → gH → gH → Prop := fun c xs h0 h => True
def mu_140 : Int → List Int → gH → gH → Nat := fun c xs h0 h => match c.toNat with
  | 5 => (match xs with
    | [a0, a1, a2, x0, x1, x2, x3, x4] => mub_140_5 a0 a1 a2 x0 x1 x2 x3 x4 h0 h
    | _ => 0)
  | _ => 0
theorem q_140_0 {n0 n1 n2 n3 : Int} {H0 : gH}  : True ∧ ∀ q, none = some q → mub_140_5 n0 n1 n2 n0 n1 n2 n1 n3 H0 H0 < q := by
  exact ⟨trivial, fun q hq => nomatch hq⟩
theorem c_140_s_0 : vOkm T0 (eP e_140 L_140 A_140 mu_140 none) 3 ([], (4000, [0, 1, 2, 1, 3], [0], 5)) := vOk_in fun ρ η h => by
  obtain ⟨_⟩ := h
  exact q_140_0 (n0 := ρ 0) (n1 := ρ 1) (n2 := ρ 2) (n3 := ρ 3) (H0 := η 0) 
def p_140_s : List vG := [([], (4000, [0, 1, 2, 1, 3], [0], 5))]
theorem r_140_s : vCovO true (eR0 e_140 L_140 cs_140 2000) p_140_s = true := by decide +kernel
theorem q_140_1 {q0 : Nat} {n0 n1 n2 n3 n4 n5 n6 n7 n8 n9 n10 : Int} {H0 H1 H2 : gH} (f0 : n0 ≤ 2147483647) (f1 : (-2147483648) ≤ n0) (f2 : (hLe T0 H0 H1 ∧ hFr s_140.2.2.2.2 H0 H1 ∧ hWt T0 H1) ∧ (True ∧ True) ∧ some q0 = some (mub_140_5 n1 n2 n3 n4 n5 n6 n7 n0 H0 H1)) (f3 : n8 = 20) (f4 : n0 < n8) (f5 : n9 = w32 (n0 + 1)) : True ∧ ∀ q, some q0 = some q → mub_140_5 n1 n2 n3 n4 n5 n6 n10 n9 H0 H2 < q := by
  have g5 := Option.some.inj f2.2.2
  unfold mub_140_5 at g5
  unfold mub_140_5
  unfold w32 at *
  refine ⟨?_, fun q hq => ?_⟩
  · trivial
  · have g6 := Option.some.inj hq
    subst g6
    omega
theorem c_140_5_0 {q0 : Nat} : vOkm T0 (eP e_140 L_140 A_140 mu_140 (some q0)) 3 ([(10, [13, 7], [], 1), (42, [7, 8], [], 0), (0, [8], [], 20), (5000, [0, 1, 2, 3, 4, 5, 6, 7], [0, 1], 5), (90, [7], [], -2147483648), (91, [7], [], 2147483647)], (4000, [3, 4, 5, 12, 13], [2], 5)) := vOk_in fun ρ η h => by
  obtain ⟨f0, f1, f2, f3, f4, f5, _⟩ := h
  exact q_140_1 (q0 := q0) (n0 := ρ 7) (n1 := ρ 0) (n2 := ρ 1) (n3 := ρ 2) (n4 := ρ 3) (n5 := ρ 4) (n6 := ρ 5) (n7 := ρ 6) (n8 := ρ 8) (n9 := ρ 13) (n10 := ρ 12) (H0 := η 0) (H1 := η 1) (H2 := η 2) f5 f4 f3 f2 f1 f0
theorem c_140_5_1 {q0 : Nat} : vOkm T0 (eP e_140 L_140 A_140 mu_140 (some q0)) 3 ([(10, [13, 7], [], 1), (42, [7, 8], [], 0), (0, [8], [], 20), (5000, [0, 1, 2, 3, 4, 5, 6, 7], [0, 1], 5), (90, [7], [], -2147483648), (91, [7], [], 2147483647)], (4000, [3, 4, 5, 12, 13], [2], 5)) := vOk_in fun ρ η h => by
  obtain ⟨f0, f1, f2, f3, f4, f5, _⟩ := h
  exact q_140_1 (q0 := q0) (n0 := ρ 7) (n1 := ρ 0) (n2 := ρ 1) (n3 := ρ 2) (n4 := ρ 3) (n5 := ρ 4) (n6 := ρ 5) (n7 := ρ 6) (n8 := ρ 8) (n9 := ρ 13) (n10 := ρ 12) (H0 := η 0) (H1 := η 1) (H2 := η 2) f5 f4 f3 f2 f1 f0
def p_140_5 : List vG := [([(10, [13, 7], [], 1), (42, [7, 8], [], 0), (0, [8], [], 20), (5000, [0, 1, 2, 3, 4, 5, 6, 7], [0, 1], 5), (90, [7], [], -2147483648), (91, [7], [], 2147483647)], (4000, [3, 4, 5, 12, 13], [2], 5)),
  ([(10, [13, 7], [], 1), (42, [7, 8], [], 0), (0, [8], [], 20), (5000, [0, 1, 2, 3, 4, 5, 6, 7], [0, 1], 5), (90, [7], [], -2147483648), (91, [7], [], 2147483647)], (4000, [3, 4, 5, 12, 13], [2], 5))]
theorem r_140_5 : vCovO true (eRc e_140 L_140 cs_140 2000 (5, [(0, (3, 9, 281, 0)), (1, (0, -2147483648, 2147483647, 0)), (2, (0, -2147483648, 2147483647, 0)), (3, (0, -2147483648, 2147483647, 0)), (4, (0, -2147483648, 2147483647, 0))])) p_140_5 = true := by decide +kernel
theorem m_140 (d : Nat) : eC e_140 (d + 3) := eC_ok (e := e_140) (L := L_140) (cs := cs_140) (n := 2000) (d := d + 2) (A := A_140) (μ := mu_140) (tp := true) (p0 := p_140_s) rfl ⟨m_3 d, trivial⟩ rfl (.inr pre0_ok) (by decide +kernel) (fun _ => post0_ok) r_140_s (allC c_140_s_0 allN) (allC (.inl ⟨p_140_5, r_140_5, fun q0 => (allC c_140_5_0 (allC c_140_5_1 allN))⟩) allN)
/- Tracer.isLayOfMusic (LMixStage$Cue;I)Z -/
noncomputable def s_141 : vM := ([(3, 9, 281, 0), (2, 1, -1, 0), (0, -2147483648, 2147483647, 0)], (0, 0, 1, 0), 0, 0, [])
def postb_141 (r a0 a1 a2 : Int) (h0 h : gH) : Prop := r ≠ 0 → 0 ≤ a1
def post_141 : List Int → gH → gH → Prop := fun xs h0 h => match xs with
  | [r, a0, a1, a2] => postb_141 r a0 a1 a2 h0 h
  | _ => True
noncomputable def e_141 : vE := (141, s_141, pre0, post_141)
noncomputable def L_141 : List vE := [e_140]
def cs_141 : List vC := []
def A_141 : Int → List Int → gH → gH → Prop := fun c xs h0 h => True
def mu_141 : Int → List Int → gH → gH → Nat := fun c xs h0 h => 0
theorem q_141_0 {n0 n1 n2 n3 : Int} {H0 : gH} (f0 : n0 ≤ 2147483647) (f1 : (-2147483648) ≤ n0) (f2 : n1 = 281) (f3 : hWt T0 H0 ∧ True) (f4 : n2 = -1) (f5 : n3 = 0) : postb_141 n3 n1 n2 n0 H0 H0 := by
  unfold postb_141
  omega
theorem c_141_s_0 : vOkm T0 (eP e_141 L_141 A_141 mu_141 none) 3 ([(0, [3], [], 0), (50, [1], [], 0), (6000, [0, 1, 2], [0], 0), (0, [0], [], 281), (90, [2], [], -2147483648), (91, [2], [], 2147483647)], (3000, [3], [0], 28)) := vOk_in fun ρ η h => by
  obtain ⟨f0, f1, f2, f3, f4, f5, _⟩ := h
  exact q_141_0 (n0 := ρ 2) (n1 := ρ 0) (n2 := ρ 1) (n3 := ρ 3) (H0 := η 0) f5 f4 f3 f2 f1 f0
theorem q_141_1 {n0 n1 n2 n3 : Int} {H0 : gH} (f0 : n0 ≤ 2147483647) (f1 : (-2147483648) ≤ n0) (f2 : n1 = 281) (f3 : hWt T0 H0 ∧ True) (f4 : 0 ≤ n2) (f5 : hK H0 (n2).toNat = 1) (f6 : n3 = 0) : postb_141 n3 n1 n2 n0 H0 H0 := by
  unfold postb_141
  omega
theorem c_141_s_1 : vOkm T0 (eP e_141 L_141 A_141 mu_141 none) 3 ([(0, [4], [], 0), (23, [1], [0], 1), (51, [1], [], 0), (6000, [0, 1, 2], [0], 0), (0, [0], [], 281), (90, [2], [], -2147483648), (91, [2], [], 2147483647)], (3000, [4], [0], 28)) := vOk_in fun ρ η h => by
  obtain ⟨f0, f1, f2, f3, f4, f5, f6, _⟩ := h
  exact q_141_1 (n0 := ρ 2) (n1 := ρ 0) (n2 := ρ 1) (n3 := ρ 4) (H0 := η 0) f6 f5 f4 f3 f2 f1 f0
theorem q_141_2 {n0 n1 n2 n3 n4 n5 : Int} {H0 H1 : gH} (f0 : n0 ≤ 2147483647) (f1 : (-2147483648) ≤ n0) (f2 : n1 = 281) (f3 : hWt T0 H0 ∧ True) (f4 : 0 ≤ n2) (f5 : hK H0 (n2).toNat = 1) (f6 : n3 ≤ 2147483647) (f7 : (-2147483648) ≤ n3) (f8 : hK H0 (n2).toNat = 1) (f9 : n3 = hV H0 (n2).toNat 2) (f10 : n4 ≤ 1) (f11 : 0 ≤ n4) (f12 : (hLe T0 H0 H1 ∧ hFr s_140.2.2.2.2 H0 H1 ∧ ((0 : Int) = 0 → H1.length = H0.length) ∧ hWt T0 H1) ∧ True) (f13 : n4 = 0) (f14 : n5 = 0) : postb_141 n5 n1 n2 n0 H0 H1 := by
  unfold postb_141
  have e0 : n3 = hV H0 (n2).toNat 2 := f9
  omega
theorem c_141_s_2 : vOkm T0 (eP e_141 L_141 A_141 mu_141 none) 3 ([(0, [6], [], 0), (30, [5], [], 0), (1140, [5, 0, 4, 2], [0, 1], 0), (90, [5], [], 0), (91, [5], [], 1), (20, [4, 1], [0], 2), (23, [1], [0], 1), (90, [4], [], -2147483648), (91, [4], [], 2147483647), (23, [1], [0], 1), (51, [1], [], 0), (6000, [0, 1, 2], [0], 0), (0, [0], [], 281), (90, [2], [], -2147483648), (91, [2], [], 2147483647)], (3000, [6], [1], 28)) := vOk_in fun ρ η h => by
  obtain ⟨f0, f1, f2, f3, f4, f5, f6, f7, f8, f9, f10, f11, f12, f13, f14, _⟩ := h
  exact q_141_2 (n0 := ρ 2) (n1 := ρ 0) (n2 := ρ 1) (n3 := ρ 4) (n4 := ρ 5) (n5 := ρ 6) (H0 := η 0) (H1 := η 1) f14 f13 f12 f11 f10 f9 f8 f7 f6 f5 f4 f3 f2 f1 f0
theorem q_141_3 {n0 n1 n2 n3 n4 n5 : Int} {H0 H1 : gH} (f0 : n0 ≤ 2147483647) (f1 : (-2147483648) ≤ n0) (f2 : n1 = 281) (f3 : hWt T0 H0 ∧ True) (f4 : 0 ≤ n2) (f5 : hK H0 (n2).toNat = 1) (f6 : n3 ≤ 2147483647) (f7 : (-2147483648) ≤ n3) (f8 : hK H0 (n2).toNat = 1) (f9 : n3 = hV H0 (n2).toNat 2) (f10 : n4 ≤ 1) (f11 : 0 ≤ n4) (f12 : (hLe T0 H0 H1 ∧ hFr s_140.2.2.2.2 H0 H1 ∧ ((0 : Int) = 0 → H1.length = H0.length) ∧ hWt T0 H1) ∧ True) (f13 : n4 ≠ 0) (f14 : n5 = 1) : postb_141 n5 n1 n2 n0 H0 H1 := by
  unfold postb_141
  have e0 : n3 = hV H0 (n2).toNat 2 := f9
  omega
theorem c_141_s_3 : vOkm T0 (eP e_141 L_141 A_141 mu_141 none) 3 ([(0, [6], [], 1), (31, [5], [], 0), (1140, [5, 0, 4, 2], [0, 1], 0), (90, [5], [], 0), (91, [5], [], 1), (20, [4, 1], [0], 2), (23, [1], [0], 1), (90, [4], [], -2147483648), (91, [4], [], 2147483647), (23, [1], [0], 1), (51, [1], [], 0), (6000, [0, 1, 2], [0], 0), (0, [0], [], 281), (90, [2], [], -2147483648), (91, [2], [], 2147483647)], (3000, [6], [1], 28)) := vOk_in fun ρ η h => by
  obtain ⟨f0, f1, f2, f3, f4, f5, f6, f7, f8, f9, f10, f11, f12, f13, f14, _⟩ := h
  exact q_141_3 (n0 := ρ 2) (n1 := ρ 0) (n2 := ρ 1) (n3 := ρ 4) (n4 := ρ 5) (n5 := ρ 6) (H0 := η 0) (H1 := η 1) f14 f13 f12 f11 f10 f9 f8 f7 f6 f5 f4 f3 f2 f1 f0
def p_141_s : List vG := [([(0, [3], [], 0), (50, [1], [], 0), (6000, [0, 1, 2], [0], 0), (0, [0], [], 281), (90, [2], [], -2147483648), (91, [2], [], 2147483647)], (3000, [3], [0], 28)),
  ([(0, [4], [], 0), (23, [1], [0], 1), (51, [1], [], 0), (6000, [0, 1, 2], [0], 0), (0, [0], [], 281), (90, [2], [], -2147483648), (91, [2], [], 2147483647)], (3000, [4], [0], 28)),
  ([(0, [6], [], 0), (30, [5], [], 0), (1140, [5, 0, 4, 2], [0, 1], 0), (90, [5], [], 0), (91, [5], [], 1), (20, [4, 1], [0], 2), (23, [1], [0], 1), (90, [4], [], -2147483648), (91, [4], [], 2147483647), (23, [1], [0], 1), (51, [1], [], 0), (6000, [0, 1, 2], [0], 0), (0, [0], [], 281), (90, [2], [], -2147483648), (91, [2], [], 2147483647)], (3000, [6], [1], 28)),
  ([(0, [6], [], 1), (31, [5], [], 0), (1140, [5, 0, 4, 2], [0, 1], 0), (90, [5], [], 0), (91, [5], [], 1), (20, [4, 1], [0], 2), (23, [1], [0], 1), (90, [4], [], -2147483648), (91, [4], [], 2147483647), (23, [1], [0], 1), (51, [1], [], 0), (6000, [0, 1, 2], [0], 0), (0, [0], [], 281), (90, [2], [], -2147483648), (91, [2], [], 2147483647)], (3000, [6], [1], 28))]
theorem r_141_s : vCovO false (eR0 e_141 L_141 cs_141 2000) p_141_s = true := by decide +kernel
theorem m_141 (d : Nat) : eC e_141 (d + 4) := eC_ok (e := e_141) (L := L_141) (cs := cs_141) (n := 2000) (d := d + 3) (A := A_141) (μ := mu_141) (tp := false) (p0 := p_141_s) rfl ⟨m_140 d, trivial⟩ rfl (.inr pre0_ok) (by decide +kernel) (fun z => nomatch z) r_141_s (allC c_141_s_0 (allC c_141_s_1 (allC c_141_s_2 (allC c_141_s_3 allN)))) allN
/- Tracer.laysOfMusic (LMixStage$Sheet;I)I -/
noncomputable def s_142 : vM := ([(3, 9, 281, 0), (3, 6, -1, 0), (0, -2147483648, 2147483647, 0)], (0, -2147483648, 2147483647, 0), 0, 0, [])
noncomputable def e_142 : vE := (142, s_142, pre0, post0)
noncomputable def L_142 : List vE := [e_115, e_141]
def cs_142 : List vC := [(5, [(0, (3, 9, 281, 0)), (1, (3, 6, -1, 0)), (2, (0, -2147483648, 2147483647, 0)), (3, (0, -2147483648, 2147483647, 0)), (4, (0, -2147483648, 2147483647, 0))])]
def mub_142_5 (a0 a1 a2 x0 x1 x2 x3 x4 : Int) (h0 h : gH) : Nat := (2147483648 - x4).toNat
def A_142 : Int → List Int → gH → gH → Prop := fun c xs h0 h => True
def mu_142 : Int → List Int → gH → gH → Nat := fun c xs h0 h => match c.toNat with
  | 5 => (match xs with
    | [a0, a1, a2, x0, x1, x2, x3, x4] => mub_142_5 a0 a1 a2 x0 x1 x2 x3 x4 h0 h
    | _ => 0)
  | _ => 0
theorem q_142_0 {n0 n1 n2 n3 n4 : Int} {H0 : gH}  : True ∧ ∀ q, none = some q → mub_142_5 n0 n1 n2 n0 n1 n2 n3 n4 H0 H0 < q := by
  exact ⟨trivial, fun q hq => nomatch hq⟩
theorem c_142_s_0 : vOkm T0 (eP e_142 L_142 A_142 mu_142 none) 3 ([], (4000, [0, 1, 2, 3, 4], [0], 5)) := vOk_in fun ρ η h => by
  obtain ⟨_⟩ := h
  exact q_142_0 (n0 := ρ 0) (n1 := ρ 1) (n2 := ρ 2) (n3 := ρ 3) (n4 := ρ 4) (H0 := η 0) 
def p_142_s : List vG := [([], (4000, [0, 1, 2, 3, 4], [0], 5))]
theorem r_142_s : vCovO true (eR0 e_142 L_142 cs_142 2000) p_142_s = true := by decide +kernel
theorem q_142_1 {q0 : Nat} {n0 n1 n2 n3 n4 n5 n6 n7 n8 n9 n10 : Int} {H0 H1 H2 : gH} (f0 : n0 ≤ 2147483647) (f1 : (-2147483648) ≤ n0) (f2 : (hLe T0 H0 H1 ∧ hFr s_142.2.2.2.2 H0 H1 ∧ hWt T0 H1) ∧ (True ∧ True) ∧ some q0 = some (mub_142_5 n1 n2 n3 n4 n5 n6 n7 n0 H0 H1)) (f3 : n8 ≤ 40) (f4 : 0 ≤ n8) (f5 : n0 < n8) (f6 : n9 = w32 (n0 + 1)) : True ∧ ∀ q, some q0 = some q → mub_142_5 n1 n2 n3 n4 n5 n6 n10 n9 H0 H2 < q := by
  have g5 := Option.some.inj f2.2.2
  unfold mub_142_5 at g5
  unfold mub_142_5
  unfold w32 at *
  refine ⟨?_, fun q hq => ?_⟩
  · trivial
  · have g6 := Option.some.inj hq
    subst g6
    omega
theorem c_142_5_0 {q0 : Nat} : vOkm T0 (eP e_142 L_142 A_142 mu_142 (some q0)) 3 ([(10, [13, 7], [], 1), (42, [7, 8], [], 0), (90, [8], [], 0), (91, [8], [], 40), (5000, [0, 1, 2, 3, 4, 5, 6, 7], [0, 1], 5), (90, [7], [], -2147483648), (91, [7], [], 2147483647)], (4000, [3, 4, 5, 12, 13], [3], 5)) := vOk_in fun ρ η h => by
  obtain ⟨f0, f1, f2, f3, f4, f5, f6, _⟩ := h
  exact q_142_1 (q0 := q0) (n0 := ρ 7) (n1 := ρ 0) (n2 := ρ 1) (n3 := ρ 2) (n4 := ρ 3) (n5 := ρ 4) (n6 := ρ 5) (n7 := ρ 6) (n8 := ρ 8) (n9 := ρ 13) (n10 := ρ 12) (H0 := η 0) (H1 := η 1) (H2 := η 3) f6 f5 f4 f3 f2 f1 f0
theorem c_142_5_1 {q0 : Nat} : vOkm T0 (eP e_142 L_142 A_142 mu_142 (some q0)) 3 ([(10, [13, 7], [], 1), (42, [7, 8], [], 0), (90, [8], [], 0), (91, [8], [], 40), (5000, [0, 1, 2, 3, 4, 5, 6, 7], [0, 1], 5), (90, [7], [], -2147483648), (91, [7], [], 2147483647)], (4000, [3, 4, 5, 12, 13], [3], 5)) := vOk_in fun ρ η h => by
  obtain ⟨f0, f1, f2, f3, f4, f5, f6, _⟩ := h
  exact q_142_1 (q0 := q0) (n0 := ρ 7) (n1 := ρ 0) (n2 := ρ 1) (n3 := ρ 2) (n4 := ρ 3) (n5 := ρ 4) (n6 := ρ 5) (n7 := ρ 6) (n8 := ρ 8) (n9 := ρ 13) (n10 := ρ 12) (H0 := η 0) (H1 := η 1) (H2 := η 3) f6 f5 f4 f3 f2 f1 f0
def p_142_5 : List vG := [([(10, [13, 7], [], 1), (42, [7, 8], [], 0), (90, [8], [], 0), (91, [8], [], 40), (5000, [0, 1, 2, 3, 4, 5, 6, 7], [0, 1], 5), (90, [7], [], -2147483648), (91, [7], [], 2147483647)], (4000, [3, 4, 5, 12, 13], [3], 5)),
  ([(10, [13, 7], [], 1), (42, [7, 8], [], 0), (90, [8], [], 0), (91, [8], [], 40), (5000, [0, 1, 2, 3, 4, 5, 6, 7], [0, 1], 5), (90, [7], [], -2147483648), (91, [7], [], 2147483647)], (4000, [3, 4, 5, 12, 13], [3], 5))]
theorem r_142_5 : vCovO true (eRc e_142 L_142 cs_142 2000 (5, [(0, (3, 9, 281, 0)), (1, (3, 6, -1, 0)), (2, (0, -2147483648, 2147483647, 0)), (3, (0, -2147483648, 2147483647, 0)), (4, (0, -2147483648, 2147483647, 0))])) p_142_5 = true := by decide +kernel
theorem m_142 (d : Nat) : eC e_142 (d + 5) := eC_ok (e := e_142) (L := L_142) (cs := cs_142) (n := 2000) (d := d + 4) (A := A_142) (μ := mu_142) (tp := true) (p0 := p_142_s) rfl ⟨m_115 (d + 3), ⟨m_141 d, trivial⟩⟩ rfl (.inr pre0_ok) (by decide +kernel) (fun _ => post0_ok) r_142_s (allC c_142_s_0 allN) (allC (.inl ⟨p_142_5, r_142_5, fun q0 => (allC c_142_5_0 (allC c_142_5_1 allN))⟩) allN)
/- Tracer.seekGiven (ILMixStage$Cue;)V -/
noncomputable def s_144 : vM := ([(3, 9, 281, 0), (0, -2147483648, 2147483647, 0), (3, 1, -1, 0)], (9, 0, 0, 0), 0, 0, [(10, 0), (10, 1), (10, 2), (100, 0)])
noncomputable def e_144 : vE := (144, s_144, pre0, post0)
noncomputable def L_144 : List vE := [e_37, e_39, e_41, e_53, e_201]
def cs_144 : List vC := [(24, [(0, (3, 9, 281, 0)), (1, (0, -2147483648, 2147483647, 0)), (2, (3, 1, -1, 0)), (3, (0, -2147483648, 2147483647, 0)), (4, (0, -2147483648, 2147483647, 0))])]
def mub_144_24 (a0 a1 a2 x0 x1 x2 x3 x4 : Int) (h0 h : gH) : Nat := (2147483648 - x4).toNat
def A_144 : Int → List Int → gH → gH → Prop := fun c xs h0 h => True
def mu_144 : Int → List Int → gH → gH → Nat := fun c xs h0 h => match c.toNat with
  | 24 => (match xs with
    | [a0, a1, a2, x0, x1, x2, x3, x4] => mub_144_24 a0 a1 a2 x0 x1 x2 x3 x4 h0 h
    | _ => 0)
  | _ => 0
theorem q_144_0 {n0 n1 n2 n3 n4 : Int} {H0 H1 : gH}  : True ∧ ∀ q, none = some q → mub_144_24 n0 n1 n2 n0 n1 n2 n3 n4 H0 H1 < q := by
  exact ⟨trivial, fun q hq => nomatch hq⟩
theorem c_144_s_0 : vOkm T0 (eP e_144 L_144 A_144 mu_144 none) 3 ([], (4000, [0, 1, 2, 6, 9], [2], 24)) := vOk_in fun ρ η h => by
  obtain ⟨_⟩ := h
  exact q_144_0 (n0 := ρ 0) (n1 := ρ 1) (n2 := ρ 2) (n3 := ρ 6) (n4 := ρ 9) (H0 := η 0) (H1 := η 2) 
def p_144_s : List vG := [([], (4000, [0, 1, 2, 6, 9], [2], 24))]
theorem r_144_s : vCovO true (eR0 e_144 L_144 cs_144 2000) p_144_s = true := by decide +kernel
theorem q_144_1 {q0 : Nat} {n0 n1 n2 n3 n4 n5 n6 n7 n8 : Int} {H0 H1 H2 : gH} (f0 : n0 ≤ 2147483647) (f1 : (-2147483648) ≤ n0) (f2 : n1 ≤ 2147483647) (f3 : (-2147483648) ≤ n1) (f4 : (hLe T0 H0 H1 ∧ hFr s_144.2.2.2.2 H0 H1 ∧ hWt T0 H1) ∧ (True ∧ True) ∧ some q0 = some (mub_144_24 n2 n3 n4 n5 n6 n7 n1 n0 H0 H1)) (f5 : n0 < n1) (f6 : n8 = w32 (n0 + 1)) : True ∧ ∀ q, some q0 = some q → mub_144_24 n2 n3 n4 n5 n6 n7 n1 n8 H0 H2 < q := by
  have g5 := Option.some.inj f4.2.2
  unfold mub_144_24 at g5
  unfold mub_144_24
  unfold w32 at *
  refine ⟨?_, fun q hq => ?_⟩
  · trivial
  · have g6 := Option.some.inj hq
    subst g6
    omega
theorem c_144_24_0 {q0 : Nat} : vOkm T0 (eP e_144 L_144 A_144 mu_144 (some q0)) 3 ([(10, [13, 7], [], 1), (42, [7, 6], [], 0), (5000, [0, 1, 2, 3, 4, 5, 6, 7], [0, 1], 24), (90, [6], [], -2147483648), (91, [6], [], 2147483647), (90, [7], [], -2147483648), (91, [7], [], 2147483647)], (4000, [3, 4, 5, 6, 13], [3], 24)) := vOk_in fun ρ η h => by
  obtain ⟨f0, f1, f2, f3, f4, f5, f6, _⟩ := h
  exact q_144_1 (q0 := q0) (n0 := ρ 7) (n1 := ρ 6) (n2 := ρ 0) (n3 := ρ 1) (n4 := ρ 2) (n5 := ρ 3) (n6 := ρ 4) (n7 := ρ 5) (n8 := ρ 13) (H0 := η 0) (H1 := η 1) (H2 := η 3) f6 f5 f4 f3 f2 f1 f0
theorem c_144_24_1 {q0 : Nat} : vOkm T0 (eP e_144 L_144 A_144 mu_144 (some q0)) 3 ([(10, [17, 7], [], 1), (42, [7, 6], [], 0), (5000, [0, 1, 2, 3, 4, 5, 6, 7], [0, 1], 24), (90, [6], [], -2147483648), (91, [6], [], 2147483647), (90, [7], [], -2147483648), (91, [7], [], 2147483647)], (4000, [3, 4, 5, 6, 17], [4], 24)) := vOk_in fun ρ η h => by
  obtain ⟨f0, f1, f2, f3, f4, f5, f6, _⟩ := h
  exact q_144_1 (q0 := q0) (n0 := ρ 7) (n1 := ρ 6) (n2 := ρ 0) (n3 := ρ 1) (n4 := ρ 2) (n5 := ρ 3) (n6 := ρ 4) (n7 := ρ 5) (n8 := ρ 17) (H0 := η 0) (H1 := η 1) (H2 := η 4) f6 f5 f4 f3 f2 f1 f0
def p_144_24 : List vG := [([(10, [13, 7], [], 1), (42, [7, 6], [], 0), (5000, [0, 1, 2, 3, 4, 5, 6, 7], [0, 1], 24), (90, [6], [], -2147483648), (91, [6], [], 2147483647), (90, [7], [], -2147483648), (91, [7], [], 2147483647)], (4000, [3, 4, 5, 6, 13], [3], 24)),
  ([(10, [17, 7], [], 1), (42, [7, 6], [], 0), (5000, [0, 1, 2, 3, 4, 5, 6, 7], [0, 1], 24), (90, [6], [], -2147483648), (91, [6], [], 2147483647), (90, [7], [], -2147483648), (91, [7], [], 2147483647)], (4000, [3, 4, 5, 6, 17], [4], 24))]
theorem r_144_24 : vCovO true (eRc e_144 L_144 cs_144 2000 (24, [(0, (3, 9, 281, 0)), (1, (0, -2147483648, 2147483647, 0)), (2, (3, 1, -1, 0)), (3, (0, -2147483648, 2147483647, 0)), (4, (0, -2147483648, 2147483647, 0))])) p_144_24 = true := by decide +kernel
theorem m_144 (d : Nat) : eC e_144 (d + 5) := eC_ok (e := e_144) (L := L_144) (cs := cs_144) (n := 2000) (d := d + 4) (A := A_144) (μ := mu_144) (tp := true) (p0 := p_144_s) rfl ⟨m_37 d, ⟨m_39 (d + 2), ⟨m_41 (d + 3), ⟨m_53 (d + 2), ⟨m_201 (d + 3), trivial⟩⟩⟩⟩⟩ rfl (.inr pre0_ok) (by decide +kernel) (fun _ => post0_ok) r_144_s (allC c_144_s_0 allN) (allC (.inl ⟨p_144_24, r_144_24, fun q0 => (allC c_144_24_0 (allC c_144_24_1 allN))⟩) allN)
/- Tracer.framesOfMusic (LMixStage$Sheet;II)I -/
noncomputable def s_143 : vM := ([(3, 9, 281, 0), (3, 6, -1, 0), (0, -2147483648, 2147483647, 0), (0, -2147483648, 2147483647, 0)], (0, -2147483648, 2147483647, 0), 0, 0, [(10, 0), (10, 1), (10, 2), (100, 0)])
noncomputable def e_143 : vE := (143, s_143, pre0, post0)
noncomputable def L_143 : List vE := [e_53, e_115, e_135, e_141, e_144, e_203]
def cs_143 : List vC := [(11, [(0, (3, 9, 281, 0)), (1, (3, 6, -1, 0)), (2, (0, -2147483648, 2147483647, 0)), (3, (0, -2147483648, 2147483647, 0)), (4, (0, -2147483648, 2147483647, 0))]), (70, [(0, (3, 9, 281, 0)), (1, (3, 6, -1, 0)), (2, (0, -2147483648, 2147483647, 0)), (3, (0, -2147483648, 2147483647, 0)), (4, (0, -2147483648, 2147483647, 0)), (5, (0, -2147483648, 2147483647, 0)), (6, (0, -2147483648, 2147483647, 0))])]
def mub_143_11 (a0 a1 a2 a3 x0 x1 x2 x3 x4 : Int) (h0 h : gH) : Nat := (17179869184 + (2147483648 - x4).toNat) * 1
def mub_143_70 (a0 a1 a2 a3 x0 x1 x2 x3 x4 x5 x6 : Int) (h0 h : gH) : Nat := (8589934592 + (2147483648 - x6).toNat) * 1
def A_143 : Int → List Int → gH → gH → Prop := fun c xs h0 h => True
def mu_143 : Int → List Int → gH → gH → Nat := fun c xs h0 h => match c.toNat with
  | 11 => (match xs with
    | [a0, a1, a2, a3, x0, x1, x2, x3, x4] => mub_143_11 a0 a1 a2 a3 x0 x1 x2 x3 x4 h0 h
    | _ => 0)
  | 70 => (match xs with
    | [a0, a1, a2, a3, x0, x1, x2, x3, x4, x5, x6] => mub_143_70 a0 a1 a2 a3 x0 x1 x2 x3 x4 x5 x6 h0 h
    | _ => 0)
  | _ => 0
theorem q_143_0 {n0 n1 n2 n3 n4 : Int} {H0 H1 : gH}  : True ∧ ∀ q, none = some q → mub_143_11 n0 n1 n2 n3 n0 n1 n2 n3 n4 H0 H1 < q := by
  exact ⟨trivial, fun q hq => nomatch hq⟩
theorem c_143_s_0 : vOkm T0 (eP e_143 L_143 A_143 mu_143 none) 4 ([], (4000, [0, 1, 2, 3, 6], [1], 11)) := vOk_in fun ρ η h => by
  obtain ⟨_⟩ := h
  exact q_143_0 (n0 := ρ 0) (n1 := ρ 1) (n2 := ρ 2) (n3 := ρ 3) (n4 := ρ 6) (H0 := η 0) (H1 := η 1) 
def p_143_s : List vG := [([], (4000, [0, 1, 2, 3, 6], [1], 11))]
theorem r_143_s : vCovO true (eR0 e_143 L_143 cs_143 2000) p_143_s = true := by decide +kernel
theorem q_143_1 {q0 : Nat} {n0 n1 n2 n3 n4 n5 n6 n7 n8 n9 n10 n11 n12 : Int} {H0 H1 H2 : gH} (f0 : n0 ≤ 2147483647) (f1 : (-2147483648) ≤ n0) (f2 : (hLe T0 H0 H1 ∧ hFr s_143.2.2.2.2 H0 H1 ∧ hWt T0 H1) ∧ (True ∧ True) ∧ some q0 = some (mub_143_11 n1 n2 n3 n4 n5 n6 n7 n8 n0 H0 H1)) (f3 : n9 ≤ 40) (f4 : 0 ≤ n9) (f5 : n9 ≤ n0) (f6 : n10 = 0) : True ∧ ∀ q, some q0 = some q → mub_143_70 n1 n2 n3 n4 n5 n6 n7 n8 n11 n12 n10 H0 H2 < q := by
  have g5 := Option.some.inj f2.2.2
  unfold mub_143_11 at g5
  unfold mub_143_70
  refine ⟨?_, fun q hq => ?_⟩
  · trivial
  · have g6 := Option.some.inj hq
    subst g6
    omega
theorem c_143_11_0 {q0 : Nat} : vOkm T0 (eP e_143 L_143 A_143 mu_143 (some q0)) 4 ([(0, [13], [], 0), (43, [8, 9], [], 0), (90, [9], [], 0), (91, [9], [], 40), (5000, [0, 1, 2, 3, 4, 5, 6, 7, 8], [0, 1], 11), (90, [8], [], -2147483648), (91, [8], [], 2147483647)], (4000, [4, 5, 6, 7, 10, 12, 13], [2], 70)) := vOk_in fun ρ η h => by
  obtain ⟨f0, f1, f2, f3, f4, f5, f6, _⟩ := h
  exact q_143_1 (q0 := q0) (n0 := ρ 8) (n1 := ρ 0) (n2 := ρ 1) (n3 := ρ 2) (n4 := ρ 3) (n5 := ρ 4) (n6 := ρ 5) (n7 := ρ 6) (n8 := ρ 7) (n9 := ρ 9) (n10 := ρ 13) (n11 := ρ 10) (n12 := ρ 12) (H0 := η 0) (H1 := η 1) (H2 := η 2) f6 f5 f4 f3 f2 f1 f0
theorem q_143_2 {q0 : Nat} {n0 n1 n2 n3 n4 n5 n6 n7 n8 n9 n10 : Int} {H0 H1 H2 : gH} (f0 : n0 ≤ 2147483647) (f1 : (-2147483648) ≤ n0) (f2 : (hLe T0 H0 H1 ∧ hFr s_143.2.2.2.2 H0 H1 ∧ hWt T0 H1) ∧ (True ∧ True) ∧ some q0 = some (mub_143_11 n1 n2 n3 n4 n5 n6 n7 n8 n0 H0 H1)) (f3 : n9 ≤ 40) (f4 : 0 ≤ n9) (f5 : n0 < n9) (f6 : n10 = w32 (n0 + 1)) : True ∧ ∀ q, some q0 = some q → mub_143_11 n1 n2 n3 n4 n5 n6 n7 n8 n10 H0 H2 < q := by
  have g5 := Option.some.inj f2.2.2
  unfold mub_143_11 at g5
  unfold mub_143_11
  unfold w32 at *
  refine ⟨?_, fun q hq => ?_⟩
  · trivial
  · have g6 := Option.some.inj hq
    subst g6
    omega
theorem c_143_11_1 {q0 : Nat} : vOkm T0 (eP e_143 L_143 A_143 mu_143 (some q0)) 4 ([(10, [12, 8], [], 1), (42, [8, 9], [], 0), (90, [9], [], 0), (91, [9], [], 40), (5000, [0, 1, 2, 3, 4, 5, 6, 7, 8], [0, 1], 11), (90, [8], [], -2147483648), (91, [8], [], 2147483647)], (4000, [4, 5, 6, 7, 12], [3], 11)) := vOk_in fun ρ η h => by
  obtain ⟨f0, f1, f2, f3, f4, f5, f6, _⟩ := h
  exact q_143_2 (q0 := q0) (n0 := ρ 8) (n1 := ρ 0) (n2 := ρ 1) (n3 := ρ 2) (n4 := ρ 3) (n5 := ρ 4) (n6 := ρ 5) (n7 := ρ 6) (n8 := ρ 7) (n9 := ρ 9) (n10 := ρ 12) (H0 := η 0) (H1 := η 1) (H2 := η 3) f6 f5 f4 f3 f2 f1 f0
theorem q_143_3 {q0 : Nat} {n0 n1 n2 n3 n4 n5 n6 n7 n8 n9 n10 n11 : Int} {H0 H1 H2 H3 : gH} (f0 : n0 ≤ 2147483647) (f1 : (-2147483648) ≤ n0) (f2 : n1 ≤ 2147483647) (f3 : (-2147483648) ≤ n1) (f4 : n2 ≤ 2147483647) (f5 : (-2147483648) ≤ n2) (f6 : 0 ≤ n3) (f7 : n4 = 281) (f8 : n5 ≤ 2147483647) (f9 : (-2147483648) ≤ n5) (f10 : n6 ≤ 2147483647) (f11 : (-2147483648) ≤ n6) (f12 : 0 ≤ n7) (f13 : n8 = 281) (f14 : (hLe T0 H0 H1 ∧ hFr s_143.2.2.2.2 H0 H1 ∧ hWt T0 H1) ∧ (True ∧ True) ∧ some q0 = some (mub_143_11 n8 n7 n6 n5 n4 n3 n2 n1 n0 H0 H1)) (f15 : n9 ≤ 40) (f16 : 0 ≤ n9) (f17 : hK H1 (n3).toNat = 6) (f18 : n9 = hV H1 (n3).toNat 2) (f19 : n0 < n9) (f20 : (hLe T0 H1 H2 ∧ hFr s_115.2.2.2.2 H1 H2 ∧ ((0 : Int) = 0 → H2.length = H1.length) ∧ hWt T0 H2) ∧ True) (f21 : n11 ≤ 1) (f22 : 0 ≤ n11) (f23 : (hLe T0 H2 H3 ∧ hFr s_141.2.2.2.2 H2 H3 ∧ ((0 : Int) = 0 → H3.length = H2.length) ∧ hWt T0 H3) ∧ postb_141 n11 n4 n10 n2 H2 H3) (f24 : n11 ≠ 0) (f25 : hK H3 (n3).toNat = 6) : 0 ≤ n10 := by
  have g5 := Option.some.inj f14.2.2
  unfold mub_143_11 at g5
  unfold postb_141 at f23
  have e0 : n9 = hV H1 (n3).toNat 2 := f18
  omega
theorem c_143_11_2 {q0 : Nat} : vOkm T0 (eP e_143 L_143 A_143 mu_143 (some q0)) 4 ([(23, [5], [3], 6), (31, [11], [], 0), (1141, [11, 4, 10, 6], [2, 3], 0), (90, [11], [], 0), (91, [11], [], 1), (1115, [10, 5, 8], [1, 2], 0), (42, [8, 9], [], 0), (20, [9, 5], [1], 2), (23, [5], [1], 6), (90, [9], [], 0), (91, [9], [], 40), (5000, [0, 1, 2, 3, 4, 5, 6, 7, 8], [0, 1], 11), (0, [0], [], 281), (51, [1], [], 0), (90, [2], [], -2147483648), (91, [2], [], 2147483647), (90, [3], [], -2147483648), (91, [3], [], 2147483647), (0, [4], [], 281), (51, [5], [], 0), (90, [6], [], -2147483648), (91, [6], [], 2147483647), (90, [7], [], -2147483648), (91, [7], [], 2147483647), (90, [8], [], -2147483648), (91, [8], [], 2147483647)], (51, [10], [], 0)) := vOk_in fun ρ η h => by
  obtain ⟨f0, f1, f2, f3, f4, f5, f6, f7, f8, f9, f10, f11, f12, f13, f14, f15, f16, f17, f18, f19, f20, f21, f22, f23, f24, f25, _⟩ := h
  exact q_143_3 (q0 := q0) (n0 := ρ 8) (n1 := ρ 7) (n2 := ρ 6) (n3 := ρ 5) (n4 := ρ 4) (n5 := ρ 3) (n6 := ρ 2) (n7 := ρ 1) (n8 := ρ 0) (n9 := ρ 9) (n10 := ρ 10) (n11 := ρ 11) (H0 := η 0) (H1 := η 1) (H2 := η 2) (H3 := η 3) f25 f24 f23 f22 f21 f20 f19 f18 f17 f16 f15 f14 f13 f12 f11 f10 f9 f8 f7 f6 f5 f4 f3 f2 f1 f0
theorem c_143_11_3 {q0 : Nat} : vOkm T0 (eP e_143 L_143 A_143 mu_143 (some q0)) 4 ([(10, [13, 8], [], 1), (42, [8, 9], [], 0), (90, [9], [], 0), (91, [9], [], 40), (5000, [0, 1, 2, 3, 4, 5, 6, 7, 8], [0, 1], 11), (90, [8], [], -2147483648), (91, [8], [], 2147483647)], (4000, [4, 5, 6, 7, 13], [4], 11)) := vOk_in fun ρ η h => by
  obtain ⟨f0, f1, f2, f3, f4, f5, f6, _⟩ := h
  exact q_143_2 (q0 := q0) (n0 := ρ 8) (n1 := ρ 0) (n2 := ρ 1) (n3 := ρ 2) (n4 := ρ 3) (n5 := ρ 4) (n6 := ρ 5) (n7 := ρ 6) (n8 := ρ 7) (n9 := ρ 9) (n10 := ρ 13) (H0 := η 0) (H1 := η 1) (H2 := η 4) f6 f5 f4 f3 f2 f1 f0
def p_143_11 : List vG := [([(0, [13], [], 0), (43, [8, 9], [], 0), (90, [9], [], 0), (91, [9], [], 40), (5000, [0, 1, 2, 3, 4, 5, 6, 7, 8], [0, 1], 11), (90, [8], [], -2147483648), (91, [8], [], 2147483647)], (4000, [4, 5, 6, 7, 10, 12, 13], [2], 70)),
  ([(10, [12, 8], [], 1), (42, [8, 9], [], 0), (90, [9], [], 0), (91, [9], [], 40), (5000, [0, 1, 2, 3, 4, 5, 6, 7, 8], [0, 1], 11), (90, [8], [], -2147483648), (91, [8], [], 2147483647)], (4000, [4, 5, 6, 7, 12], [3], 11)),
  ([(23, [5], [3], 6), (31, [11], [], 0), (1141, [11, 4, 10, 6], [2, 3], 0), (90, [11], [], 0), (91, [11], [], 1), (1115, [10, 5, 8], [1, 2], 0), (42, [8, 9], [], 0), (20, [9, 5], [1], 2), (23, [5], [1], 6), (90, [9], [], 0), (91, [9], [], 40), (5000, [0, 1, 2, 3, 4, 5, 6, 7, 8], [0, 1], 11), (0, [0], [], 281), (51, [1], [], 0), (90, [2], [], -2147483648), (91, [2], [], 2147483647), (90, [3], [], -2147483648), (91, [3], [], 2147483647), (0, [4], [], 281), (51, [5], [], 0), (90, [6], [], -2147483648), (91, [6], [], 2147483647), (90, [7], [], -2147483648), (91, [7], [], 2147483647), (90, [8], [], -2147483648), (91, [8], [], 2147483647)], (51, [10], [], 0)),
  ([(10, [13, 8], [], 1), (42, [8, 9], [], 0), (90, [9], [], 0), (91, [9], [], 40), (5000, [0, 1, 2, 3, 4, 5, 6, 7, 8], [0, 1], 11), (90, [8], [], -2147483648), (91, [8], [], 2147483647)], (4000, [4, 5, 6, 7, 13], [4], 11))]
theorem r_143_11 : vCovO true (eRc e_143 L_143 cs_143 2000 (11, [(0, (3, 9, 281, 0)), (1, (3, 6, -1, 0)), (2, (0, -2147483648, 2147483647, 0)), (3, (0, -2147483648, 2147483647, 0)), (4, (0, -2147483648, 2147483647, 0))])) p_143_11 = true := by decide +kernel
theorem q_143_4 {q0 : Nat} {n0 n1 n2 n3 n4 n5 n6 n7 n8 n9 n10 n11 n12 : Int} {H0 H1 H2 : gH} (f0 : n0 ≤ 2147483647) (f1 : (-2147483648) ≤ n0) (f2 : n1 ≤ 2147483647) (f3 : (-2147483648) ≤ n1) (f4 : (hLe T0 H0 H1 ∧ hFr s_143.2.2.2.2 H0 H1 ∧ hWt T0 H1) ∧ (True ∧ True) ∧ some q0 = some (mub_143_70 n2 n3 n4 n5 n6 n7 n8 n9 n10 n1 n0 H0 H1)) (f5 : n0 < n1) (f6 : n11 = w32 (n0 + 1)) : True ∧ ∀ q, some q0 = some q → mub_143_70 n2 n3 n4 n5 n6 n7 n8 n9 n12 n1 n11 H0 H2 < q := by
  have g5 := Option.some.inj f4.2.2
  unfold mub_143_70 at g5
  unfold mub_143_70
  unfold w32 at *
  refine ⟨?_, fun q hq => ?_⟩
  · trivial
  · have g6 := Option.some.inj hq
    subst g6
    omega
theorem c_143_70_0 {q0 : Nat} : vOkm T0 (eP e_143 L_143 A_143 mu_143 (some q0)) 4 ([(10, [15, 10], [], 1), (42, [10, 9], [], 0), (5000, [0, 1, 2, 3, 4, 5, 6, 7, 8, 9, 10], [0, 1], 70), (90, [9], [], -2147483648), (91, [9], [], 2147483647), (90, [10], [], -2147483648), (91, [10], [], 2147483647)], (4000, [4, 5, 6, 7, 14, 9, 15], [2], 70)) := vOk_in fun ρ η h => by
  obtain ⟨f0, f1, f2, f3, f4, f5, f6, _⟩ := h
  exact q_143_4 (q0 := q0) (n0 := ρ 10) (n1 := ρ 9) (n2 := ρ 0) (n3 := ρ 1) (n4 := ρ 2) (n5 := ρ 3) (n6 := ρ 4) (n7 := ρ 5) (n8 := ρ 6) (n9 := ρ 7) (n10 := ρ 8) (n11 := ρ 15) (n12 := ρ 14) (H0 := η 0) (H1 := η 1) (H2 := η 2) f6 f5 f4 f3 f2 f1 f0
theorem c_143_70_1 {q0 : Nat} : vOkm T0 (eP e_143 L_143 A_143 mu_143 (some q0)) 4 ([(10, [15, 10], [], 1), (42, [10, 9], [], 0), (5000, [0, 1, 2, 3, 4, 5, 6, 7, 8, 9, 10], [0, 1], 70), (90, [9], [], -2147483648), (91, [9], [], 2147483647), (90, [10], [], -2147483648), (91, [10], [], 2147483647)], (4000, [4, 5, 6, 7, 14, 9, 15], [2], 70)) := vOk_in fun ρ η h => by
  obtain ⟨f0, f1, f2, f3, f4, f5, f6, _⟩ := h
  exact q_143_4 (q0 := q0) (n0 := ρ 10) (n1 := ρ 9) (n2 := ρ 0) (n3 := ρ 1) (n4 := ρ 2) (n5 := ρ 3) (n6 := ρ 4) (n7 := ρ 5) (n8 := ρ 6) (n9 := ρ 7) (n10 := ρ 8) (n11 := ρ 15) (n12 := ρ 14) (H0 := η 0) (H1 := η 1) (H2 := η 2) f6 f5 f4 f3 f2 f1 f0
def p_143_70 : List vG := [([(10, [15, 10], [], 1), (42, [10, 9], [], 0), (5000, [0, 1, 2, 3, 4, 5, 6, 7, 8, 9, 10], [0, 1], 70), (90, [9], [], -2147483648), (91, [9], [], 2147483647), (90, [10], [], -2147483648), (91, [10], [], 2147483647)], (4000, [4, 5, 6, 7, 14, 9, 15], [2], 70)),
  ([(10, [15, 10], [], 1), (42, [10, 9], [], 0), (5000, [0, 1, 2, 3, 4, 5, 6, 7, 8, 9, 10], [0, 1], 70), (90, [9], [], -2147483648), (91, [9], [], 2147483647), (90, [10], [], -2147483648), (91, [10], [], 2147483647)], (4000, [4, 5, 6, 7, 14, 9, 15], [2], 70))]
theorem r_143_70 : vCovO true (eRc e_143 L_143 cs_143 2000 (70, [(0, (3, 9, 281, 0)), (1, (3, 6, -1, 0)), (2, (0, -2147483648, 2147483647, 0)), (3, (0, -2147483648, 2147483647, 0)), (4, (0, -2147483648, 2147483647, 0)), (5, (0, -2147483648, 2147483647, 0)), (6, (0, -2147483648, 2147483647, 0))])) p_143_70 = true := by decide +kernel
theorem m_143 (d : Nat) : eC e_143 (d + 6) := eC_ok (e := e_143) (L := L_143) (cs := cs_143) (n := 2000) (d := d + 5) (A := A_143) (μ := mu_143) (tp := true) (p0 := p_143_s) rfl ⟨m_53 (d + 3), ⟨m_115 (d + 4), ⟨m_135 (d + 2), ⟨m_141 (d + 1), ⟨m_144 d, ⟨m_203 (d + 3), trivial⟩⟩⟩⟩⟩⟩ rfl (.inr pre0_ok) (by decide +kernel) (fun _ => post0_ok) r_143_s (allC c_143_s_0 allN) (allC (.inl ⟨p_143_11, r_143_11, fun q0 => (allC c_143_11_0 (allC c_143_11_1 (allC c_143_11_2 (allC c_143_11_3 allN))))⟩) (allC (.inl ⟨p_143_70, r_143_70, fun q0 => (allC c_143_70_0 (allC c_143_70_1 allN))⟩) allN))
/- Tracer.doQuarrel (LMixStage$Cue;LMixStage$Cue;)Z -/
noncomputable def s_146 : vM := ([(3, 9, 281, 0), (2, 1, -1, 0), (2, 1, -1, 0)], (0, 0, 1, 0), 0, 0, [])
noncomputable def e_146 : vE := (146, s_146, pre0, post0)
noncomputable def L_146 : List vE := [e_8]
def cs_146 : List vC := []
def A_146 : Int → List Int → gH → gH → Prop := fun c xs h0 h => True
def mu_146 : Int → List Int → gH → gH → Nat := fun c xs h0 h => 0
def p_146_s : List vG := []
theorem r_146_s : vCovO true (eR0 e_146 L_146 cs_146 2000) p_146_s = true := by decide +kernel
theorem m_146 (d : Nat) : eC e_146 (d + 3) := eC_ok (e := e_146) (L := L_146) (cs := cs_146) (n := 2000) (d := d + 2) (A := A_146) (μ := mu_146) (tp := true) (p0 := p_146_s) rfl ⟨m_8 d, trivial⟩ rfl (.inr pre0_ok) (by decide +kernel) (fun _ => post0_ok) r_146_s allN allN
/- Tracer.quarrelOf (LMixStage$Sheet;I)I -/
noncomputable def s_145 : vM := ([(3, 9, 281, 0), (3, 6, -1, 0), (0, -2147483648, 2147483647, 0)], (0, -2147483648, 2147483647, 0), 0, 0, [])
noncomputable def e_145 : vE := (145, s_145, pre0, post0)
noncomputable def L_145 : List vE := [e_115, e_146]
def cs_145 : List vC := [(5, [(0, (3, 9, 281, 0)), (1, (3, 6, -1, 0)), (2, (0, -2147483648, 2147483647, 0)), (3, (0, -2147483648, 2147483647, 0)), (4, (0, -2147483648, 2147483647, 0))]), (20, [(0, (3, 9, 281, 0)), (1, (3, 6, -1, 0)), (2, (0, -2147483648, 2147483647, 0)), (3, (0, -2147483648, 2147483647, 0)), (4, (0, -2147483648, 2147483646, 0)), (5, (0, -2147483648, 2147483647, 0))])]
def mub_145_5 (a0 a1 a2 x0 x1 x2 x3 x4 : Int) (h0 h : gH) : Nat := (8589934592 + (2147483648 - x4).toNat) * 1099511627776 + 1099511627775
def mub_145_20 (a0 a1 a2 x0 x1 x2 x3 x4 x5 : Int) (h0 h : gH) : Nat := (8589934592 + (2147483648 - x4).toNat) * 1099511627776 + (8589934592 + (2147483648 - x5).toNat) * 1
def A_145 : Int → List Int → gH → gH → Prop := fun c xs h0 h => True
def mu_145 : Int → List Int → gH → gH → Nat := fun c xs h0 h => match c.toNat with
  | 5 => (match xs with
    | [a0, a1, a2, x0, x1, x2, x3, x4] => mub_145_5 a0 a1 a2 x0 x1 x2 x3 x4 h0 h
    | _ => 0)
  | 20 => (match xs with
    | [a0, a1, a2, x0, x1, x2, x3, x4, x5] => mub_145_20 a0 a1 a2 x0 x1 x2 x3 x4 x5 h0 h
    | _ => 0)
  | _ => 0
theorem q_145_0 {n0 n1 n2 n3 : Int} {H0 : gH}  : True ∧ ∀ q, none = some q → mub_145_5 n0 n1 n2 n0 n1 n2 n2 n3 H0 H0 < q := by
  exact ⟨trivial, fun q hq => nomatch hq⟩
theorem c_145_s_0 : vOkm T0 (eP e_145 L_145 A_145 mu_145 none) 3 ([], (4000, [0, 1, 2, 2, 3], [0], 5)) := vOk_in fun ρ η h => by
  obtain ⟨_⟩ := h
  exact q_145_0 (n0 := ρ 0) (n1 := ρ 1) (n2 := ρ 2) (n3 := ρ 3) (H0 := η 0) 
def p_145_s : List vG := [([], (4000, [0, 1, 2, 2, 3], [0], 5))]
theorem r_145_s : vCovO true (eR0 e_145 L_145 cs_145 2000) p_145_s = true := by decide +kernel
theorem q_145_1 {q0 : Nat} {n0 n1 n2 n3 n4 n5 n6 n7 n8 n9 n10 : Int} {H0 H1 : gH} (f0 : n0 ≤ 2147483647) (f1 : (-2147483648) ≤ n0) (f2 : n1 ≤ 2147483647) (f3 : (-2147483648) ≤ n1) (f4 : n2 ≤ 2147483647) (f5 : (-2147483648) ≤ n2) (f6 : 0 ≤ n3) (f7 : n4 = 281) (f8 : n5 ≤ 2147483647) (f9 : (-2147483648) ≤ n5) (f10 : 0 ≤ n6) (f11 : n7 = 281) (f12 : (hLe T0 H0 H1 ∧ hFr s_145.2.2.2.2 H0 H1 ∧ hWt T0 H1) ∧ (True ∧ True) ∧ some q0 = some (mub_145_5 n7 n6 n5 n4 n3 n2 n1 n0 H0 H1)) (f13 : n8 ≤ 40) (f14 : 0 ≤ n8) (f15 : hK H1 (n3).toNat = 6) (f16 : n8 = hV H1 (n3).toNat 2) (f17 : n0 < n8) (f18 : n9 = 1) (f19 : n10 = w32 (n0 + n9)) : n0 ≤ 2147483646 := by
  have g5 := Option.some.inj f12.2.2
  unfold mub_145_5 at g5
  have e0 : n8 = hV H1 (n3).toNat 2 := f16
  unfold w32 at *
  omega
theorem c_145_5_0 {q0 : Nat} : vOkm T0 (eP e_145 L_145 A_145 mu_145 (some q0)) 3 ([(1, [10, 7, 9], [], 0), (0, [9], [], 1), (42, [7, 8], [], 0), (20, [8, 4], [1], 2), (23, [4], [1], 6), (90, [8], [], 0), (91, [8], [], 40), (5000, [0, 1, 2, 3, 4, 5, 6, 7], [0, 1], 5), (0, [0], [], 281), (51, [1], [], 0), (90, [2], [], -2147483648), (91, [2], [], 2147483647), (0, [3], [], 281), (51, [4], [], 0), (90, [5], [], -2147483648), (91, [5], [], 2147483647), (90, [6], [], -2147483648), (91, [6], [], 2147483647), (90, [7], [], -2147483648), (91, [7], [], 2147483647)], (91, [7], [], 2147483646)) := vOk_in fun ρ η h => by
  obtain ⟨f0, f1, f2, f3, f4, f5, f6, f7, f8, f9, f10, f11, f12, f13, f14, f15, f16, f17, f18, f19, _⟩ := h
  exact q_145_1 (q0 := q0) (n0 := ρ 7) (n1 := ρ 6) (n2 := ρ 5) (n3 := ρ 4) (n4 := ρ 3) (n5 := ρ 2) (n6 := ρ 1) (n7 := ρ 0) (n8 := ρ 8) (n9 := ρ 9) (n10 := ρ 10) (H0 := η 0) (H1 := η 1) f19 f18 f17 f16 f15 f14 f13 f12 f11 f10 f9 f8 f7 f6 f5 f4 f3 f2 f1 f0
theorem q_145_2 {q0 : Nat} {n0 n1 n2 n3 n4 n5 n6 n7 n8 n9 n10 : Int} {H0 H1 : gH} (f0 : n0 ≤ 2147483647) (f1 : (-2147483648) ≤ n0) (f2 : (hLe T0 H0 H1 ∧ hFr s_145.2.2.2.2 H0 H1 ∧ hWt T0 H1) ∧ (True ∧ True) ∧ some q0 = some (mub_145_5 n1 n2 n3 n4 n5 n6 n7 n0 H0 H1)) (f3 : n8 ≤ 40) (f4 : 0 ≤ n8) (f5 : n0 < n8) (f6 : n9 = 1) (f7 : n10 = w32 (n0 + n9)) : True ∧ ∀ q, some q0 = some q → mub_145_20 n1 n2 n3 n4 n5 n6 n7 n0 n10 H0 H1 < q := by
  have g5 := Option.some.inj f2.2.2
  unfold mub_145_5 at g5
  unfold mub_145_20
  unfold w32 at *
  refine ⟨?_, fun q hq => ?_⟩
  · trivial
  · have g6 := Option.some.inj hq
    subst g6
    omega
theorem c_145_5_1 {q0 : Nat} : vOkm T0 (eP e_145 L_145 A_145 mu_145 (some q0)) 3 ([(1, [10, 7, 9], [], 0), (0, [9], [], 1), (42, [7, 8], [], 0), (90, [8], [], 0), (91, [8], [], 40), (5000, [0, 1, 2, 3, 4, 5, 6, 7], [0, 1], 5), (90, [7], [], -2147483648), (91, [7], [], 2147483647)], (4000, [3, 4, 5, 6, 7, 10], [1], 20)) := vOk_in fun ρ η h => by
  obtain ⟨f0, f1, f2, f3, f4, f5, f6, f7, _⟩ := h
  exact q_145_2 (q0 := q0) (n0 := ρ 7) (n1 := ρ 0) (n2 := ρ 1) (n3 := ρ 2) (n4 := ρ 3) (n5 := ρ 4) (n6 := ρ 5) (n7 := ρ 6) (n8 := ρ 8) (n9 := ρ 9) (n10 := ρ 10) (H0 := η 0) (H1 := η 1) f7 f6 f5 f4 f3 f2 f1 f0
def p_145_5 : List vG := [([(1, [10, 7, 9], [], 0), (0, [9], [], 1), (42, [7, 8], [], 0), (20, [8, 4], [1], 2), (23, [4], [1], 6), (90, [8], [], 0), (91, [8], [], 40), (5000, [0, 1, 2, 3, 4, 5, 6, 7], [0, 1], 5), (0, [0], [], 281), (51, [1], [], 0), (90, [2], [], -2147483648), (91, [2], [], 2147483647), (0, [3], [], 281), (51, [4], [], 0), (90, [5], [], -2147483648), (91, [5], [], 2147483647), (90, [6], [], -2147483648), (91, [6], [], 2147483647), (90, [7], [], -2147483648), (91, [7], [], 2147483647)], (91, [7], [], 2147483646)),
  ([(1, [10, 7, 9], [], 0), (0, [9], [], 1), (42, [7, 8], [], 0), (90, [8], [], 0), (91, [8], [], 40), (5000, [0, 1, 2, 3, 4, 5, 6, 7], [0, 1], 5), (90, [7], [], -2147483648), (91, [7], [], 2147483647)], (4000, [3, 4, 5, 6, 7, 10], [1], 20))]
theorem r_145_5 : vCovO true (eRc e_145 L_145 cs_145 2000 (5, [(0, (3, 9, 281, 0)), (1, (3, 6, -1, 0)), (2, (0, -2147483648, 2147483647, 0)), (3, (0, -2147483648, 2147483647, 0)), (4, (0, -2147483648, 2147483647, 0))])) p_145_5 = true := by decide +kernel
theorem q_145_3 {q0 : Nat} {n0 n1 n2 n3 n4 n5 n6 n7 n8 n9 n10 : Int} {H0 H1 : gH} (f0 : n0 ≤ 2147483647) (f1 : (-2147483648) ≤ n0) (f2 : n1 ≤ 2147483646) (f3 : (-2147483648) ≤ n1) (f4 : (hLe T0 H0 H1 ∧ hFr s_145.2.2.2.2 H0 H1 ∧ hWt T0 H1) ∧ (True ∧ True) ∧ some q0 = some (mub_145_20 n2 n3 n4 n5 n6 n7 n8 n1 n0 H0 H1)) (f5 : n9 ≤ 40) (f6 : 0 ≤ n9) (f7 : n9 ≤ n0) (f8 : n10 = w32 (n1 + 1)) : True ∧ ∀ q, some q0 = some q → mub_145_5 n2 n3 n4 n5 n6 n7 n8 n10 H0 H1 < q := by
  have g5 := Option.some.inj f4.2.2
  unfold mub_145_20 at g5
  unfold mub_145_5
  unfold w32 at *
  refine ⟨?_, fun q hq => ?_⟩
  · trivial
  · have g6 := Option.some.inj hq
    subst g6
    omega
theorem c_145_20_0 {q0 : Nat} : vOkm T0 (eP e_145 L_145 A_145 mu_145 (some q0)) 3 ([(10, [10, 7], [], 1), (43, [8, 9], [], 0), (90, [9], [], 0), (91, [9], [], 40), (5000, [0, 1, 2, 3, 4, 5, 6, 7, 8], [0, 1], 20), (90, [7], [], -2147483648), (91, [7], [], 2147483646), (90, [8], [], -2147483648), (91, [8], [], 2147483647)], (4000, [3, 4, 5, 6, 10], [1], 5)) := vOk_in fun ρ η h => by
  obtain ⟨f0, f1, f2, f3, f4, f5, f6, f7, f8, _⟩ := h
  exact q_145_3 (q0 := q0) (n0 := ρ 8) (n1 := ρ 7) (n2 := ρ 0) (n3 := ρ 1) (n4 := ρ 2) (n5 := ρ 3) (n6 := ρ 4) (n7 := ρ 5) (n8 := ρ 6) (n9 := ρ 9) (n10 := ρ 10) (H0 := η 0) (H1 := η 1) f8 f7 f6 f5 f4 f3 f2 f1 f0
theorem q_145_4 {q0 : Nat} {n0 n1 n2 n3 n4 n5 n6 n7 n8 n9 n10 : Int} {H0 H1 H2 : gH} (f0 : n0 ≤ 2147483647) (f1 : (-2147483648) ≤ n0) (f2 : n1 ≤ 2147483646) (f3 : (-2147483648) ≤ n1) (f4 : (hLe T0 H0 H1 ∧ hFr s_145.2.2.2.2 H0 H1 ∧ hWt T0 H1) ∧ (True ∧ True) ∧ some q0 = some (mub_145_20 n2 n3 n4 n5 n6 n7 n8 n1 n0 H0 H1)) (f5 : n9 ≤ 40) (f6 : 0 ≤ n9) (f7 : n0 < n9) (f8 : n10 = w32 (n0 + 1)) : True ∧ ∀ q, some q0 = some q → mub_145_20 n2 n3 n4 n5 n6 n7 n8 n1 n10 H0 H2 < q := by
  have g5 := Option.some.inj f4.2.2
  unfold mub_145_20 at g5
  unfold mub_145_20
  unfold w32 at *
  refine ⟨?_, fun q hq => ?_⟩
  · trivial
  · have g6 := Option.some.inj hq
    subst g6
    omega
theorem c_145_20_1 {q0 : Nat} : vOkm T0 (eP e_145 L_145 A_145 mu_145 (some q0)) 3 ([(10, [13, 8], [], 1), (42, [8, 9], [], 0), (90, [9], [], 0), (91, [9], [], 40), (5000, [0, 1, 2, 3, 4, 5, 6, 7, 8], [0, 1], 20), (90, [7], [], -2147483648), (91, [7], [], 2147483646), (90, [8], [], -2147483648), (91, [8], [], 2147483647)], (4000, [3, 4, 5, 6, 7, 13], [4], 20)) := vOk_in fun ρ η h => by
  obtain ⟨f0, f1, f2, f3, f4, f5, f6, f7, f8, _⟩ := h
  exact q_145_4 (q0 := q0) (n0 := ρ 8) (n1 := ρ 7) (n2 := ρ 0) (n3 := ρ 1) (n4 := ρ 2) (n5 := ρ 3) (n6 := ρ 4) (n7 := ρ 5) (n8 := ρ 6) (n9 := ρ 9) (n10 := ρ 13) (H0 := η 0) (H1 := η 1) (H2 := η 4) f8 f7 f6 f5 f4 f3 f2 f1 f0
theorem q_145_5 {q0 : Nat} {n0 n1 n2 n3 n4 n5 n6 n7 n8 n9 n10 n11 : Int} {H0 H1 H2 : gH} (f0 : n0 ≤ 2147483647) (f1 : (-2147483648) ≤ n0) (f2 : n1 ≤ 2147483646) (f3 : (-2147483648) ≤ n1) (f4 : (hLe T0 H0 H1 ∧ hFr s_145.2.2.2.2 H0 H1 ∧ hWt T0 H1) ∧ (True ∧ True) ∧ some q0 = some (mub_145_20 n2 n3 n4 n5 n6 n7 n8 n1 n0 H0 H1)) (f5 : n9 ≤ 40) (f6 : 0 ≤ n9) (f7 : n0 < n9) (f8 : n10 = w32 (n0 + 1)) : True ∧ ∀ q, some q0 = some q → mub_145_20 n2 n3 n4 n5 n6 n7 n11 n1 n10 H0 H2 < q := by
  have g5 := Option.some.inj f4.2.2
  unfold mub_145_20 at g5
  unfold mub_145_20
  unfold w32 at *
  refine ⟨?_, fun q hq => ?_⟩
  · trivial
  · have g6 := Option.some.inj hq
    subst g6
    omega
theorem c_145_20_2 {q0 : Nat} : vOkm T0 (eP e_145 L_145 A_145 mu_145 (some q0)) 3 ([(10, [14, 8], [], 1), (42, [8, 9], [], 0), (90, [9], [], 0), (91, [9], [], 40), (5000, [0, 1, 2, 3, 4, 5, 6, 7, 8], [0, 1], 20), (90, [7], [], -2147483648), (91, [7], [], 2147483646), (90, [8], [], -2147483648), (91, [8], [], 2147483647)], (4000, [3, 4, 5, 13, 7, 14], [4], 20)) := vOk_in fun ρ η h => by
  obtain ⟨f0, f1, f2, f3, f4, f5, f6, f7, f8, _⟩ := h
  exact q_145_5 (q0 := q0) (n0 := ρ 8) (n1 := ρ 7) (n2 := ρ 0) (n3 := ρ 1) (n4 := ρ 2) (n5 := ρ 3) (n6 := ρ 4) (n7 := ρ 5) (n8 := ρ 6) (n9 := ρ 9) (n10 := ρ 14) (n11 := ρ 13) (H0 := η 0) (H1 := η 1) (H2 := η 4) f8 f7 f6 f5 f4 f3 f2 f1 f0
def p_145_20 : List vG := [([(10, [10, 7], [], 1), (43, [8, 9], [], 0), (90, [9], [], 0), (91, [9], [], 40), (5000, [0, 1, 2, 3, 4, 5, 6, 7, 8], [0, 1], 20), (90, [7], [], -2147483648), (91, [7], [], 2147483646), (90, [8], [], -2147483648), (91, [8], [], 2147483647)], (4000, [3, 4, 5, 6, 10], [1], 5)),
  ([(10, [13, 8], [], 1), (42, [8, 9], [], 0), (90, [9], [], 0), (91, [9], [], 40), (5000, [0, 1, 2, 3, 4, 5, 6, 7, 8], [0, 1], 20), (90, [7], [], -2147483648), (91, [7], [], 2147483646), (90, [8], [], -2147483648), (91, [8], [], 2147483647)], (4000, [3, 4, 5, 6, 7, 13], [4], 20)),
  ([(10, [14, 8], [], 1), (42, [8, 9], [], 0), (90, [9], [], 0), (91, [9], [], 40), (5000, [0, 1, 2, 3, 4, 5, 6, 7, 8], [0, 1], 20), (90, [7], [], -2147483648), (91, [7], [], 2147483646), (90, [8], [], -2147483648), (91, [8], [], 2147483647)], (4000, [3, 4, 5, 13, 7, 14], [4], 20))]
theorem r_145_20 : vCovO true (eRc e_145 L_145 cs_145 2000 (20, [(0, (3, 9, 281, 0)), (1, (3, 6, -1, 0)), (2, (0, -2147483648, 2147483647, 0)), (3, (0, -2147483648, 2147483647, 0)), (4, (0, -2147483648, 2147483646, 0)), (5, (0, -2147483648, 2147483647, 0))])) p_145_20 = true := by decide +kernel
theorem m_145 (d : Nat) : eC e_145 (d + 4) := eC_ok (e := e_145) (L := L_145) (cs := cs_145) (n := 2000) (d := d + 3) (A := A_145) (μ := mu_145) (tp := true) (p0 := p_145_s) rfl ⟨m_115 (d + 2), ⟨m_146 d, trivial⟩⟩ rfl (.inr pre0_ok) (by decide +kernel) (fun _ => post0_ok) r_145_s (allC c_145_s_0 allN) (allC (.inl ⟨p_145_5, r_145_5, fun q0 => (allC c_145_5_0 (allC c_145_5_1 allN))⟩) (allC (.inl ⟨p_145_20, r_145_20, fun q0 => (allC c_145_20_0 (allC c_145_20_1 (allC c_145_20_2 allN)))⟩) allN))
/- Tracer.isMet (LMixStage$Sound;II)Z -/
noncomputable def s_150 : vM := ([(3, 7, -1, 0), (0, -2147483648, 2147483647, 0), (0, -2147483648, 2147483647, 0)], (0, 0, 1, 0), 0, 0, [])
noncomputable def e_150 : vE := (150, s_150, pre0, post0)
noncomputable def L_150 : List vE := [e_199, e_316]
def cs_150 : List vC := [(2, [(0, (3, 7, -1, 0)), (1, (0, -2147483648, 2147483647, 0)), (2, (0, -2147483648, 2147483647, 0)), (3, (0, -2147483648, 2147483647, 0))])]
def mub_150_2 (a0 a1 a2 x0 x1 x2 x3 : Int) (h0 h : gH) : Nat := (2147483648 - x3).toNat
def A_150 : Int → List Int → gH → gH → Prop := fun c xs h0 h => True
def mu_150 : Int → List Int → gH → gH → Nat := fun c xs h0 h => match c.toNat with
  | 2 => (match xs with
    | [a0, a1, a2, x0, x1, x2, x3] => mub_150_2 a0 a1 a2 x0 x1 x2 x3 h0 h
    | _ => 0)
  | _ => 0
theorem q_150_0 {n0 n1 n2 n3 : Int} {H0 : gH}  : True ∧ ∀ q, none = some q → mub_150_2 n0 n1 n2 n0 n1 n2 n3 H0 H0 < q := by
  exact ⟨trivial, fun q hq => nomatch hq⟩
theorem c_150_s_0 : vOkm T0 (eP e_150 L_150 A_150 mu_150 none) 3 ([], (4000, [0, 1, 2, 3], [0], 2)) := vOk_in fun ρ η h => by
  obtain ⟨_⟩ := h
  exact q_150_0 (n0 := ρ 0) (n1 := ρ 1) (n2 := ρ 2) (n3 := ρ 3) (H0 := η 0) 
def p_150_s : List vG := [([], (4000, [0, 1, 2, 3], [0], 2))]
theorem r_150_s : vCovO true (eR0 e_150 L_150 cs_150 2000) p_150_s = true := by decide +kernel
theorem q_150_1 {q0 : Nat} {n0 n1 n2 n3 n4 n5 n6 n7 n8 : Int} {H0 H1 H2 : gH} (f0 : n0 ≤ 2147483647) (f1 : (-2147483648) ≤ n0) (f2 : (hLe T0 H0 H1 ∧ hFr s_150.2.2.2.2 H0 H1 ∧ hWt T0 H1) ∧ (True ∧ True) ∧ some q0 = some (mub_150_2 n1 n2 n3 n4 n5 n6 n0 H0 H1)) (f3 : n7 ≤ 2147483647) (f4 : (-2147483648) ≤ n7) (f5 : n0 < n7) (f6 : n8 = w32 (n0 + 1)) : True ∧ ∀ q, some q0 = some q → mub_150_2 n1 n2 n3 n4 n5 n6 n8 H0 H2 < q := by
  have g5 := Option.some.inj f2.2.2
  unfold mub_150_2 at g5
  unfold mub_150_2
  unfold w32 at *
  refine ⟨?_, fun q hq => ?_⟩
  · trivial
  · have g6 := Option.some.inj hq
    subst g6
    omega
theorem c_150_2_0 {q0 : Nat} : vOkm T0 (eP e_150 L_150 A_150 mu_150 (some q0)) 3 ([(10, [12, 6], [], 1), (42, [6, 7], [], 0), (90, [7], [], -2147483648), (91, [7], [], 2147483647), (5000, [0, 1, 2, 3, 4, 5, 6], [0, 1], 2), (90, [6], [], -2147483648), (91, [6], [], 2147483647)], (4000, [3, 4, 5, 12], [3], 2)) := vOk_in fun ρ η h => by
  obtain ⟨f0, f1, f2, f3, f4, f5, f6, _⟩ := h
  exact q_150_1 (q0 := q0) (n0 := ρ 6) (n1 := ρ 0) (n2 := ρ 1) (n3 := ρ 2) (n4 := ρ 3) (n5 := ρ 4) (n6 := ρ 5) (n7 := ρ 7) (n8 := ρ 12) (H0 := η 0) (H1 := η 1) (H2 := η 3) f6 f5 f4 f3 f2 f1 f0
def p_150_2 : List vG := [([(10, [12, 6], [], 1), (42, [6, 7], [], 0), (90, [7], [], -2147483648), (91, [7], [], 2147483647), (5000, [0, 1, 2, 3, 4, 5, 6], [0, 1], 2), (90, [6], [], -2147483648), (91, [6], [], 2147483647)], (4000, [3, 4, 5, 12], [3], 2))]
theorem r_150_2 : vCovO true (eRc e_150 L_150 cs_150 2000 (2, [(0, (3, 7, -1, 0)), (1, (0, -2147483648, 2147483647, 0)), (2, (0, -2147483648, 2147483647, 0)), (3, (0, -2147483648, 2147483647, 0))])) p_150_2 = true := by decide +kernel
theorem m_150 (d : Nat) : eC e_150 (d + 2) := eC_ok (e := e_150) (L := L_150) (cs := cs_150) (n := 2000) (d := d + 1) (A := A_150) (μ := mu_150) (tp := true) (p0 := p_150_s) rfl ⟨m_199 d, ⟨m_316 d, trivial⟩⟩ rfl (.inr pre0_ok) (by decide +kernel) (fun _ => post0_ok) r_150_s (allC c_150_s_0 allN) (allC (.inl ⟨p_150_2, r_150_2, fun q0 => (allC c_150_2_0 allN)⟩) allN)
/- Tracer.tryStretch (LMixStage$Sound;LMixStage$Sound;III)V -/
noncomputable def s_149 : vM := ([(3, 9, 281, 0), (3, 7, -1, 0), (3, 7, -1, 0), (0, -2147483648, 2147483647, 0), (0, -2147483648, 2147483647, 0), (0, -2147483648, 2147483647, 0)], (9, 0, 0, 0), 0, 0, [(9, 5), (9, 6), (9, 7)])
noncomputable def e_149 : vE := (149, s_149, pre0, post0)
noncomputable def L_149 : List vE := [e_150, e_199]
def cs_149 : List vC := [(6, [(0, (3, 9, 281, 0)), (1, (3, 7, -1, 0)), (2, (3, 7, -1, 0)), (3, (0, -2147483648, 2147483647, 0)), (4, (0, -2147483648, 2147483647, 0)), (5, (0, -2147483648, 2147483647, 0)), (6, (0, -2147483648, 2147483647, 0)), (7, (0, -2147483648, 2147483647, 0))])]
def mub_149_6 (a0 a1 a2 a3 a4 a5 x0 x1 x2 x3 x4 x5 x6 x7 : Int) (h0 h : gH) : Nat := (2147483648 - x7).toNat
def A_149 : Int → List Int → gH → gH → Prop := fun c xs h0 h => True
def mu_149 : Int → List Int → gH → gH → Nat := fun c xs h0 h => match c.toNat with
  | 6 => (match xs with
    | [a0, a1, a2, a3, a4, a5, x0, x1, x2, x3, x4, x5, x6, x7] => mub_149_6 a0 a1 a2 a3 a4 a5 x0 x1 x2 x3 x4 x5 x6 x7 h0 h
    | _ => 0)
  | _ => 0
theorem q_149_0 {n0 n1 n2 n3 n4 n5 n6 n7 : Int} {H0 : gH}  : True ∧ ∀ q, none = some q → mub_149_6 n0 n1 n2 n3 n4 n5 n0 n1 n2 n3 n4 n5 n6 n7 H0 H0 < q := by
  exact ⟨trivial, fun q hq => nomatch hq⟩
theorem c_149_s_0 : vOkm T0 (eP e_149 L_149 A_149 mu_149 none) 6 ([], (4000, [0, 1, 2, 3, 4, 5, 6, 7], [0], 6)) := vOk_in fun ρ η h => by
  obtain ⟨_⟩ := h
  exact q_149_0 (n0 := ρ 0) (n1 := ρ 1) (n2 := ρ 2) (n3 := ρ 3) (n4 := ρ 4) (n5 := ρ 5) (n6 := ρ 6) (n7 := ρ 7) (H0 := η 0) 
def p_149_s : List vG := [([], (4000, [0, 1, 2, 3, 4, 5, 6, 7], [0], 6))]
theorem r_149_s : vCovO true (eR0 e_149 L_149 cs_149 2000) p_149_s = true := by decide +kernel
theorem q_149_1 {q0 : Nat} {n0 n1 n2 n3 n4 n5 n6 n7 n8 n9 n10 n11 n12 n13 n14 n15 n16 : Int} {H0 H1 H2 : gH} (f0 : n0 ≤ 2147483647) (f1 : (-2147483648) ≤ n0) (f2 : (hLe T0 H0 H1 ∧ hFr s_149.2.2.2.2 H0 H1 ∧ hWt T0 H1) ∧ (True ∧ True) ∧ some q0 = some (mub_149_6 n1 n2 n3 n4 n5 n6 n7 n8 n9 n10 n11 n12 n13 n0 H0 H1)) (f3 : n14 ≤ 2147483647) (f4 : (-2147483648) ≤ n14) (f5 : n0 < n14) (f6 : n15 = w32 (n0 + 1)) : True ∧ ∀ q, some q0 = some q → mub_149_6 n1 n2 n3 n4 n5 n6 n7 n8 n9 n10 n11 n12 n16 n15 H0 H2 < q := by
  have g5 := Option.some.inj f2.2.2
  unfold mub_149_6 at g5
  unfold mub_149_6
  unfold w32 at *
  refine ⟨?_, fun q hq => ?_⟩
  · trivial
  · have g6 := Option.some.inj hq
    subst g6
    omega
theorem c_149_6_0 {q0 : Nat} : vOkm T0 (eP e_149 L_149 A_149 mu_149 (some q0)) 6 ([(10, [24, 13], [], 1), (42, [13, 14], [], 0), (90, [14], [], -2147483648), (91, [14], [], 2147483647), (5000, [0, 1, 2, 3, 4, 5, 6, 7, 8, 9, 10, 11, 12, 13], [0, 1], 6), (90, [13], [], -2147483648), (91, [13], [], 2147483647)], (4000, [6, 7, 8, 9, 10, 11, 23, 24], [3], 6)) := vOk_in fun ρ η h => by
  obtain ⟨f0, f1, f2, f3, f4, f5, f6, _⟩ := h
  exact q_149_1 (q0 := q0) (n0 := ρ 13) (n1 := ρ 0) (n2 := ρ 1) (n3 := ρ 2) (n4 := ρ 3) (n5 := ρ 4) (n6 := ρ 5) (n7 := ρ 6) (n8 := ρ 7) (n9 := ρ 8) (n10 := ρ 9) (n11 := ρ 10) (n12 := ρ 11) (n13 := ρ 12) (n14 := ρ 14) (n15 := ρ 24) (n16 := ρ 23) (H0 := η 0) (H1 := η 1) (H2 := η 3) f6 f5 f4 f3 f2 f1 f0
theorem c_149_6_1 {q0 : Nat} : vOkm T0 (eP e_149 L_149 A_149 mu_149 (some q0)) 6 ([(10, [24, 13], [], 1), (42, [13, 14], [], 0), (90, [14], [], -2147483648), (91, [14], [], 2147483647), (5000, [0, 1, 2, 3, 4, 5, 6, 7, 8, 9, 10, 11, 12, 13], [0, 1], 6), (90, [13], [], -2147483648), (91, [13], [], 2147483647)], (4000, [6, 7, 8, 9, 10, 11, 23, 24], [3], 6)) := vOk_in fun ρ η h => by
  obtain ⟨f0, f1, f2, f3, f4, f5, f6, _⟩ := h
  exact q_149_1 (q0 := q0) (n0 := ρ 13) (n1 := ρ 0) (n2 := ρ 1) (n3 := ρ 2) (n4 := ρ 3) (n5 := ρ 4) (n6 := ρ 5) (n7 := ρ 6) (n8 := ρ 7) (n9 := ρ 8) (n10 := ρ 9) (n11 := ρ 10) (n12 := ρ 11) (n13 := ρ 12) (n14 := ρ 14) (n15 := ρ 24) (n16 := ρ 23) (H0 := η 0) (H1 := η 1) (H2 := η 3) f6 f5 f4 f3 f2 f1 f0
def p_149_6 : List vG := [([(10, [24, 13], [], 1), (42, [13, 14], [], 0), (90, [14], [], -2147483648), (91, [14], [], 2147483647), (5000, [0, 1, 2, 3, 4, 5, 6, 7, 8, 9, 10, 11, 12, 13], [0, 1], 6), (90, [13], [], -2147483648), (91, [13], [], 2147483647)], (4000, [6, 7, 8, 9, 10, 11, 23, 24], [3], 6)),
  ([(10, [24, 13], [], 1), (42, [13, 14], [], 0), (90, [14], [], -2147483648), (91, [14], [], 2147483647), (5000, [0, 1, 2, 3, 4, 5, 6, 7, 8, 9, 10, 11, 12, 13], [0, 1], 6), (90, [13], [], -2147483648), (91, [13], [], 2147483647)], (4000, [6, 7, 8, 9, 10, 11, 23, 24], [3], 6))]
theorem r_149_6 : vCovO true (eRc e_149 L_149 cs_149 2000 (6, [(0, (3, 9, 281, 0)), (1, (3, 7, -1, 0)), (2, (3, 7, -1, 0)), (3, (0, -2147483648, 2147483647, 0)), (4, (0, -2147483648, 2147483647, 0)), (5, (0, -2147483648, 2147483647, 0)), (6, (0, -2147483648, 2147483647, 0)), (7, (0, -2147483648, 2147483647, 0))])) p_149_6 = true := by decide +kernel
theorem m_149 (d : Nat) : eC e_149 (d + 3) := eC_ok (e := e_149) (L := L_149) (cs := cs_149) (n := 2000) (d := d + 2) (A := A_149) (μ := mu_149) (tp := true) (p0 := p_149_s) rfl ⟨m_150 d, ⟨m_199 (d + 1), trivial⟩⟩ rfl (.inr pre0_ok) (by decide +kernel) (fun _ => post0_ok) r_149_s (allC c_149_s_0 allN) (allC (.inl ⟨p_149_6, r_149_6, fun q0 => (allC c_149_6_0 (allC c_149_6_1 allN))⟩) allN)
/- Tracer.tryFit (LMixStage$Sound;LMixStage$Sound;II)V -/
noncomputable def s_148 : vM := ([(3, 9, 281, 0), (3, 7, -1, 0), (3, 7, -1, 0), (0, -2147483648, 2147483647, 0), (0, -2147483648, 2147483647, 0)], (9, 0, 0, 0), 0, 0, [(9, 5), (9, 6), (9, 7)])
noncomputable def e_148 : vE := (148, s_148, pre0, post0)
noncomputable def L_148 : List vE := [e_149]
def cs_148 : List vC := []
def A_148 : Int → List Int → gH → gH → Prop := fun c xs h0 h => True
def mu_148 : Int → List Int → gH → gH → Nat := fun c xs h0 h => 0
def p_148_s : List vG := []
theorem r_148_s : vCovO true (eR0 e_148 L_148 cs_148 2000) p_148_s = true := by decide +kernel
theorem m_148 (d : Nat) : eC e_148 (d + 4) := eC_ok (e := e_148) (L := L_148) (cs := cs_148) (n := 2000) (d := d + 3) (A := A_148) (μ := mu_148) (tp := true) (p0 := p_148_s) rfl ⟨m_149 d, trivial⟩ rfl (.inr pre0_ok) (by decide +kernel) (fun _ => post0_ok) r_148_s allN allN
/- Tracer.fitOf (LMixStage$Sound;LMixStage$Sound;II)I -/
noncomputable def s_147 : vM := ([(3, 9, 281, 0), (3, 7, -1, 0), (3, 7, -1, 0), (0, -2147483648, 2147483647, 0), (0, -2147483648, 2147483647, 0)], (0, -2147483648, 2147483647, 0), 0, 0, [(9, 5), (9, 6), (9, 7)])
noncomputable def e_147 : vE := (147, s_147, pre0, post0)
noncomputable def L_147 : List vE := [e_148]
def cs_147 : List vC := [(9, [(0, (3, 9, 281, 0)), (1, (3, 7, -1, 0)), (2, (3, 7, -1, 0)), (3, (0, -2147483648, 2147483647, 0)), (4, (0, -2147483648, 2147483647, 0)), (5, (0, -2147483648, 2147483647, 0))])]
def mub_147_9 (a0 a1 a2 a3 a4 x0 x1 x2 x3 x4 x5 : Int) (h0 h : gH) : Nat := (2147483648 - x5).toNat
def A_147 : Int → List Int → gH → gH → Prop := fun c xs h0 h => True
def mu_147 : Int → List Int → gH → gH → Nat := fun c xs h0 h => match c.toNat with
  | 9 => (match xs with
    | [a0, a1, a2, a3, a4, x0, x1, x2, x3, x4, x5] => mub_147_9 a0 a1 a2 a3 a4 x0 x1 x2 x3 x4 x5 h0 h
    | _ => 0)
  | _ => 0
theorem q_147_0 {n0 n1 n2 n3 n4 n5 : Int} {H0 H1 : gH}  : True ∧ ∀ q, none = some q → mub_147_9 n0 n1 n2 n3 n4 n0 n1 n2 n3 n4 n5 H0 H1 < q := by
  exact ⟨trivial, fun q hq => nomatch hq⟩
theorem c_147_s_0 : vOkm T0 (eP e_147 L_147 A_147 mu_147 none) 5 ([], (4000, [0, 1, 2, 3, 4, 7], [1], 9)) := vOk_in fun ρ η h => by
  obtain ⟨_⟩ := h
  exact q_147_0 (n0 := ρ 0) (n1 := ρ 1) (n2 := ρ 2) (n3 := ρ 3) (n4 := ρ 4) (n5 := ρ 7) (H0 := η 0) (H1 := η 1) 
def p_147_s : List vG := [([], (4000, [0, 1, 2, 3, 4, 7], [1], 9))]
theorem r_147_s : vCovO true (eR0 e_147 L_147 cs_147 2000) p_147_s = true := by decide +kernel
theorem q_147_1 {q0 : Nat} {n0 n1 n2 n3 n4 n5 n6 n7 n8 n9 n10 n11 n12 : Int} {H0 H1 H2 : gH} (f0 : n0 ≤ 2147483647) (f1 : (-2147483648) ≤ n0) (f2 : (hLe T0 H0 H1 ∧ hFr s_147.2.2.2.2 H0 H1 ∧ hWt T0 H1) ∧ (True ∧ True) ∧ some q0 = some (mub_147_9 n1 n2 n3 n4 n5 n6 n7 n8 n9 n10 n0 H0 H1)) (f3 : n11 = 24) (f4 : n0 ≤ n11) (f5 : n12 = w32 (n0 + 1)) : True ∧ ∀ q, some q0 = some q → mub_147_9 n1 n2 n3 n4 n5 n6 n7 n8 n9 n10 n12 H0 H2 < q := by
  have g5 := Option.some.inj f2.2.2
  unfold mub_147_9 at g5
  unfold mub_147_9
  unfold w32 at *
  refine ⟨?_, fun q hq => ?_⟩
  · trivial
  · have g6 := Option.some.inj hq
    subst g6
    omega
theorem c_147_9_0 {q0 : Nat} : vOkm T0 (eP e_147 L_147 A_147 mu_147 (some q0)) 5 ([(10, [13, 10], [], 1), (45, [10, 11], [], 0), (0, [11], [], 24), (5000, [0, 1, 2, 3, 4, 5, 6, 7, 8, 9, 10], [0, 1], 9), (90, [10], [], -2147483648), (91, [10], [], 2147483647)], (4000, [5, 6, 7, 8, 9, 13], [3], 9)) := vOk_in fun ρ η h => by
  obtain ⟨f0, f1, f2, f3, f4, f5, _⟩ := h
  exact q_147_1 (q0 := q0) (n0 := ρ 10) (n1 := ρ 0) (n2 := ρ 1) (n3 := ρ 2) (n4 := ρ 3) (n5 := ρ 4) (n6 := ρ 5) (n7 := ρ 6) (n8 := ρ 7) (n9 := ρ 8) (n10 := ρ 9) (n11 := ρ 11) (n12 := ρ 13) (H0 := η 0) (H1 := η 1) (H2 := η 3) f5 f4 f3 f2 f1 f0
def p_147_9 : List vG := [([(10, [13, 10], [], 1), (45, [10, 11], [], 0), (0, [11], [], 24), (5000, [0, 1, 2, 3, 4, 5, 6, 7, 8, 9, 10], [0, 1], 9), (90, [10], [], -2147483648), (91, [10], [], 2147483647)], (4000, [5, 6, 7, 8, 9, 13], [3], 9))]
theorem r_147_9 : vCovO true (eRc e_147 L_147 cs_147 2000 (9, [(0, (3, 9, 281, 0)), (1, (3, 7, -1, 0)), (2, (3, 7, -1, 0)), (3, (0, -2147483648, 2147483647, 0)), (4, (0, -2147483648, 2147483647, 0)), (5, (0, -2147483648, 2147483647, 0))])) p_147_9 = true := by decide +kernel
theorem m_147 (d : Nat) : eC e_147 (d + 5) := eC_ok (e := e_147) (L := L_147) (cs := cs_147) (n := 2000) (d := d + 4) (A := A_147) (μ := mu_147) (tp := true) (p0 := p_147_s) rfl ⟨m_148 d, trivial⟩ rfl (.inr pre0_ok) (by decide +kernel) (fun _ => post0_ok) r_147_s (allC c_147_s_0 allN) (allC (.inl ⟨p_147_9, r_147_9, fun q0 => (allC c_147_9_0 allN)⟩) allN)
/- MixStage.putWord (I)V -/
noncomputable def s_192 : vM := ([(3, 11, 7, 0), (0, -2147483648, 2147483647, 0)], (9, 0, 0, 0), 0, 0, [(11, 1), (100, 0)])
noncomputable def e_192 : vE := (192, s_192, pre0, post0)
noncomputable def L_192 : List vE := [e_201]
def cs_192 : List vC := [(3, [(0, (3, 11, 7, 0)), (1, (0, -2147483648, 2147483647, 0)), (2, (0, -2147483648, 2147483647, 0))])]
def mub_192_3 (a0 a1 x0 x1 x2 : Int) (h0 h : gH) : Nat := (x2 + 2147483648).toNat
def A_192 : Int → List Int → gH → gH → Prop := fun c xs h0 h => True
def mu_192 : Int → List Int → gH → gH → Nat := fun c xs h0 h => match c.toNat with
  | 3 => (match xs with
    | [a0, a1, x0, x1, x2] => mub_192_3 a0 a1 x0 x1 x2 h0 h
    | _ => 0)
  | _ => 0
theorem q_192_0 {n0 n1 n2 : Int} {H0 : gH}  : True ∧ ∀ q, none = some q → mub_192_3 n0 n1 n0 n1 n2 H0 H0 < q := by
  exact ⟨trivial, fun q hq => nomatch hq⟩
theorem c_192_s_0 : vOkm T0 (eP e_192 L_192 A_192 mu_192 none) 2 ([], (4000, [0, 1, 2], [0], 3)) := vOk_in fun ρ η h => by
  obtain ⟨_⟩ := h
  exact q_192_0 (n0 := ρ 0) (n1 := ρ 1) (n2 := ρ 2) (H0 := η 0) 
def p_192_s : List vG := [([], (4000, [0, 1, 2], [0], 3))]
theorem r_192_s : vCovO true (eR0 e_192 L_192 cs_192 2000) p_192_s = true := by decide +kernel
theorem q_192_1 {q0 : Nat} {n0 n1 n2 n3 n4 n5 : Int} {H0 H1 H2 : gH} (f0 : n0 ≤ 2147483647) (f1 : (-2147483648) ≤ n0) (f2 : (hLe T0 H0 H1 ∧ hFr s_192.2.2.2.2 H0 H1 ∧ hWt T0 H1) ∧ (True ∧ True) ∧ some q0 = some (mub_192_3 n1 n2 n3 n4 n0 H0 H1)) (f3 : 0 ≤ n0) (f4 : n5 = w32 (n0 + (-8))) : True ∧ ∀ q, some q0 = some q → mub_192_3 n1 n2 n3 n4 n5 H0 H2 < q := by
  have g5 := Option.some.inj f2.2.2
  unfold mub_192_3 at g5
  unfold mub_192_3
  unfold w32 at *
  refine ⟨?_, fun q hq => ?_⟩
  · trivial
  · have g6 := Option.some.inj hq
    subst g6
    omega
theorem c_192_3_0 {q0 : Nat} : vOkm T0 (eP e_192 L_192 A_192 mu_192 (some q0)) 2 ([(10, [14, 4], [], -8), (33, [4], [], 0), (5000, [0, 1, 2, 3, 4], [0, 1], 3), (90, [4], [], -2147483648), (91, [4], [], 2147483647)], (4000, [2, 3, 14], [3], 3)) := vOk_in fun ρ η h => by
  obtain ⟨f0, f1, f2, f3, f4, _⟩ := h
  exact q_192_1 (q0 := q0) (n0 := ρ 4) (n1 := ρ 0) (n2 := ρ 1) (n3 := ρ 2) (n4 := ρ 3) (n5 := ρ 14) (H0 := η 0) (H1 := η 1) (H2 := η 3) f4 f3 f2 f1 f0
def p_192_3 : List vG := [([(10, [14, 4], [], -8), (33, [4], [], 0), (5000, [0, 1, 2, 3, 4], [0, 1], 3), (90, [4], [], -2147483648), (91, [4], [], 2147483647)], (4000, [2, 3, 14], [3], 3))]
theorem r_192_3 : vCovO true (eRc e_192 L_192 cs_192 2000 (3, [(0, (3, 11, 7, 0)), (1, (0, -2147483648, 2147483647, 0)), (2, (0, -2147483648, 2147483647, 0))])) p_192_3 = true := by decide +kernel
theorem m_192 (d : Nat) : eC e_192 (d + 2) := eC_ok (e := e_192) (L := L_192) (cs := cs_192) (n := 2000) (d := d + 1) (A := A_192) (μ := mu_192) (tp := true) (p0 := p_192_s) rfl ⟨m_201 d, trivial⟩ rfl (.inr pre0_ok) (by decide +kernel) (fun _ => post0_ok) r_192_s (allC c_192_s_0 allN) (allC (.inl ⟨p_192_3, r_192_3, fun q0 => (allC c_192_3_0 allN)⟩) allN)
/- MixStage.feed (IIIII)I -/
noncomputable def s_155 : vM := ([(3, 11, 7, 0), (0, -2147483648, 2147483647, 0), (0, -2147483648, 2147483647, 0), (0, -2147483648, 2147483647, 0), (0, -2147483648, 2147483647, 0), (0, -2147483648, 2147483647, 0)], (0, -2147483648, 2147483647, 0), 0, 0, [(11, 1), (100, 0)])
noncomputable def e_155 : vE := (155, s_155, pre0, post0)
noncomputable def L_155 : List vE := [e_192]
def cs_155 : List vC := []
def A_155 : Int → List Int → gH → gH → Prop := fun c xs h0 h => True
def mu_155 : Int → List Int → gH → gH → Nat := fun c xs h0 h => 0
def p_155_s : List vG := []
theorem r_155_s : vCovO true (eR0 e_155 L_155 cs_155 2000) p_155_s = true := by decide +kernel
theorem m_155 (d : Nat) : eC e_155 (d + 3) := eC_ok (e := e_155) (L := L_155) (cs := cs_155) (n := 2000) (d := d + 2) (A := A_155) (μ := mu_155) (tp := true) (p0 := p_155_s) rfl ⟨m_192 d, trivial⟩ rfl (.inr pre0_ok) (by decide +kernel) (fun _ => post0_ok) r_155_s allN allN
/- MixStage.back (I)I -/
noncomputable def s_156 : vM := ([(3, 11, 7, 0), (0, -2147483648, 2147483647, 0)], (0, -2147483648, 2147483647, 0), 0, 0, [(11, 1)])
noncomputable def e_156 : vE := (156, s_156, pre0, post0)
noncomputable def L_156 : List vE := []
def cs_156 : List vC := []
def A_156 : Int → List Int → gH → gH → Prop := fun c xs h0 h => True
def mu_156 : Int → List Int → gH → gH → Nat := fun c xs h0 h => 0
def p_156_s : List vG := []
theorem r_156_s : vCovO true (eR0 e_156 L_156 cs_156 2000) p_156_s = true := by decide +kernel
theorem m_156 (d : Nat) : eC e_156 (d + 1) := eC_ok (e := e_156) (L := L_156) (cs := cs_156) (n := 2000) (d := d + 0) (A := A_156) (μ := mu_156) (tp := true) (p0 := p_156_s) rfl trivial rfl (.inr pre0_ok) (by decide +kernel) (fun _ => post0_ok) r_156_s allN allN
/- MixStage.place ()I -/
noncomputable def s_158 : vM := ([(3, 11, 7, 0)], (0, -2147483648, 2147483647, 0), 0, 0, [])
noncomputable def e_158 : vE := (158, s_158, pre0, post0)
noncomputable def L_158 : List vE := []
def cs_158 : List vC := []
def A_158 : Int → List Int → gH → gH → Prop := fun c xs h0 h => True
def mu_158 : Int → List Int → gH → gH → Nat := fun c xs h0 h => 0
def p_158_s : List vG := []
theorem r_158_s : vCovO true (eR0 e_158 L_158 cs_158 2000) p_158_s = true := by decide +kernel
theorem m_158 (d : Nat) : eC e_158 (d + 1) := eC_ok (e := e_158) (L := L_158) (cs := cs_158) (n := 2000) (d := d + 0) (A := A_158) (μ := mu_158) (tp := true) (p0 := p_158_s) rfl trivial rfl (.inr pre0_ok) (by decide +kernel) (fun _ => post0_ok) r_158_s allN allN
/- MixStage.reel (I)Z -/
noncomputable def s_159 : vM := ([(3, 11, 7, 0), (0, -2147483648, 2147483647, 0)], (0, 0, 1, 0), 0, 0, [(100, 0)])
noncomputable def e_159 : vE := (159, s_159, pre0, post0)
noncomputable def L_159 : List vE := [e_54]
def cs_159 : List vC := []
def A_159 : Int → List Int → gH → gH → Prop := fun c xs h0 h => True
def mu_159 : Int → List Int → gH → gH → Nat := fun c xs h0 h => 0
def p_159_s : List vG := []
theorem r_159_s : vCovO true (eR0 e_159 L_159 cs_159 2000) p_159_s = true := by decide +kernel
theorem m_159 (d : Nat) : eC e_159 (d + 3) := eC_ok (e := e_159) (L := L_159) (cs := cs_159) (n := 2000) (d := d + 2) (A := A_159) (μ := mu_159) (tp := true) (p0 := p_159_s) rfl ⟨m_54 d, trivial⟩ rfl (.inr pre0_ok) (by decide +kernel) (fun _ => post0_ok) r_159_s allN allN
/- MixStage.edition ()I -/
noncomputable def s_160 : vM := ([(3, 11, 7, 0)], (0, -2147483648, 2147483647, 0), 0, 0, [(3, 3)])
noncomputable def e_160 : vE := (160, s_160, pre0, post0)
noncomputable def L_160 : List vE := [e_55]
def cs_160 : List vC := []
def A_160 : Int → List Int → gH → gH → Prop := fun c xs h0 h => True
def mu_160 : Int → List Int → gH → gH → Nat := fun c xs h0 h => 0
def p_160_s : List vG := []
theorem r_160_s : vCovO true (eR0 e_160 L_160 cs_160 2000) p_160_s = true := by decide +kernel
theorem m_160 (d : Nat) : eC e_160 (d + 4) := eC_ok (e := e_160) (L := L_160) (cs := cs_160) (n := 2000) (d := d + 3) (A := A_160) (μ := mu_160) (tp := true) (p0 := p_160_s) rfl ⟨m_55 d, trivial⟩ rfl (.inr pre0_ok) (by decide +kernel) (fun _ => post0_ok) r_160_s allN allN
/- MixStage.keep (II)I -/
noncomputable def s_161 : vM := ([(3, 11, 7, 0), (0, -2147483648, 2147483647, 0), (0, -2147483648, 2147483647, 0)], (0, -2147483648, 2147483647, 0), 0, 0, [(100, 0)])
noncomputable def e_161 : vE := (161, s_161, pre0, post0)
noncomputable def L_161 : List vE := [e_52, e_53, e_57]
def cs_161 : List vC := []
def A_161 : Int → List Int → gH → gH → Prop := fun c xs h0 h => True
def mu_161 : Int → List Int → gH → gH → Nat := fun c xs h0 h => 0
def p_161_s : List vG := []
theorem r_161_s : vCovO true (eR0 e_161 L_161 cs_161 2000) p_161_s = true := by decide +kernel
theorem m_161 (d : Nat) : eC e_161 (d + 4) := eC_ok (e := e_161) (L := L_161) (cs := cs_161) (n := 2000) (d := d + 3) (A := A_161) (μ := mu_161) (tp := true) (p0 := p_161_s) rfl ⟨m_52 (d + 2), ⟨m_53 (d + 1), ⟨m_57 d, trivial⟩⟩⟩ rfl (.inr pre0_ok) (by decide +kernel) (fun _ => post0_ok) r_161_s allN allN
/- MixStage.blank (I)I -/
noncomputable def s_162 : vM := ([(3, 11, 7, 0), (0, -2147483648, 2147483647, 0)], (0, -2147483648, 2147483647, 0), 0, 0, [(100, 0)])
noncomputable def e_162 : vE := (162, s_162, pre0, post0)
noncomputable def L_162 : List vE := [e_57]
def cs_162 : List vC := []
def A_162 : Int → List Int → gH → gH → Prop := fun c xs h0 h => True
def mu_162 : Int → List Int → gH → gH → Nat := fun c xs h0 h => 0
def p_162_s : List vG := []
theorem r_162_s : vCovO true (eR0 e_162 L_162 cs_162 2000) p_162_s = true := by decide +kernel
theorem m_162 (d : Nat) : eC e_162 (d + 4) := eC_ok (e := e_162) (L := L_162) (cs := cs_162) (n := 2000) (d := d + 3) (A := A_162) (μ := mu_162) (tp := true) (p0 := p_162_s) rfl ⟨m_57 d, trivial⟩ rfl (.inr pre0_ok) (by decide +kernel) (fun _ => post0_ok) r_162_s allN allN
/- MixStage.frames (I)I -/
noncomputable def s_163 : vM := ([(3, 11, 7, 0), (0, -2147483648, 2147483647, 0)], (0, -2147483648, 2147483647, 0), 0, 0, [])
noncomputable def e_163 : vE := (163, s_163, pre0, post0)
noncomputable def L_163 : List vE := [e_51, e_53]
def cs_163 : List vC := []
def A_163 : Int → List Int → gH → gH → Prop := fun c xs h0 h => True
def mu_163 : Int → List Int → gH → gH → Nat := fun c xs h0 h => 0
def p_163_s : List vG := []
theorem r_163_s : vCovO true (eR0 e_163 L_163 cs_163 2000) p_163_s = true := by decide +kernel
theorem m_163 (d : Nat) : eC e_163 (d + 3) := eC_ok (e := e_163) (L := L_163) (cs := cs_163) (n := 2000) (d := d + 2) (A := A_163) (μ := mu_163) (tp := true) (p0 := p_163_s) rfl ⟨m_51 (d + 1), ⟨m_53 d, trivial⟩⟩ rfl (.inr pre0_ok) (by decide +kernel) (fun _ => post0_ok) r_163_s allN allN
/- MixStage.old (III)I -/
noncomputable def s_164 : vM := ([(3, 11, 7, 0), (0, -2147483648, 2147483647, 0), (0, -2147483648, 2147483647, 0), (0, -2147483648, 2147483647, 0)], (0, -2147483648, 2147483647, 0), 0, 0, [])
noncomputable def e_164 : vE := (164, s_164, pre0, post0)
noncomputable def L_164 : List vE := [e_51, e_53, e_58]
def cs_164 : List vC := []
def A_164 : Int → List Int → gH → gH → Prop := fun c xs h0 h => True
def mu_164 : Int → List Int → gH → gH → Nat := fun c xs h0 h => 0
def p_164_s : List vG := []
theorem r_164_s : vCovO true (eR0 e_164 L_164 cs_164 2000) p_164_s = true := by decide +kernel
theorem m_164 (d : Nat) : eC e_164 (d + 3) := eC_ok (e := e_164) (L := L_164) (cs := cs_164) (n := 2000) (d := d + 2) (A := A_164) (μ := mu_164) (tp := true) (p0 := p_164_s) rfl ⟨m_51 (d + 1), ⟨m_53 d, ⟨m_58 d, trivial⟩⟩⟩ rfl (.inr pre0_ok) (by decide +kernel) (fun _ => post0_ok) r_164_s allN allN
/- MixStage.sound (IIII)I -/
noncomputable def s_165 : vM := ([(3, 11, 7, 0), (0, -2147483648, 2147483647, 0), (0, -2147483648, 2147483647, 0), (0, -2147483648, 2147483647, 0), (0, -2147483648, 2147483647, 0)], (0, -2147483648, 2147483647, 0), 0, 1, [(0, 1), (0, 2), (7, 8), (105, 0)])
def postb_165 (r a0 a1 a2 a3 a4 : Int) (h0 h : gH) : Prop := (h.length : Int) ≤ h0.length + 3 * (hV h 23 1 - hV h0 23 1)
def post_165 : List Int → gH → gH → Prop := fun xs h0 h => match xs with
  | [r, a0, a1, a2, a3, a4] => postb_165 r a0 a1 a2 a3 a4 h0 h
  | _ => True
noncomputable def e_165 : vE := (165, s_165, pre0, post_165)
noncomputable def L_165 : List vE := [e_4]
def cs_165 : List vC := []
def A_165 : Int → List Int → gH → gH → Prop := fun c xs h0 h => True
def mu_165 : Int → List Int → gH → gH → Nat := fun c xs h0 h => 0
theorem q_165_0 {n0 n1 n2 n3 n4 n5 : Int} {H0 : gH} (f0 : n0 ≤ 2147483647) (f1 : (-2147483648) ≤ n0) (f2 : n1 ≤ 2147483647) (f3 : (-2147483648) ≤ n1) (f4 : n2 ≤ 2147483647) (f5 : (-2147483648) ≤ n2) (f6 : n3 ≤ 2147483647) (f7 : (-2147483648) ≤ n3) (f8 : n4 = 7) (f9 : hWt T0 H0 ∧ True) (f10 : n3 < 0) (f11 : n5 = (-1)) : postb_165 n5 n4 n3 n2 n1 n0 H0 H0 := by
  unfold postb_165
  omega
theorem c_165_s_0 : vOkm T0 (eP e_165 L_165 A_165 mu_165 none) 5 ([(0, [5], [], -1), (32, [1], [], 0), (6000, [0, 1, 2, 3, 4], [0], 0), (0, [0], [], 7), (90, [1], [], -2147483648), (91, [1], [], 2147483647), (90, [2], [], -2147483648), (91, [2], [], 2147483647), (90, [3], [], -2147483648), (91, [3], [], 2147483647), (90, [4], [], -2147483648), (91, [4], [], 2147483647)], (3000, [5], [0], 26)) := vOk_in fun ρ η h => by
  obtain ⟨f0, f1, f2, f3, f4, f5, f6, f7, f8, f9, f10, f11, _⟩ := h
  exact q_165_0 (n0 := ρ 4) (n1 := ρ 3) (n2 := ρ 2) (n3 := ρ 1) (n4 := ρ 0) (n5 := ρ 5) (H0 := η 0) f11 f10 f9 f8 f7 f6 f5 f4 f3 f2 f1 f0
theorem q_165_1 {n0 n1 n2 n3 n4 n5 n6 : Int} {H0 : gH} (f0 : n0 ≤ 2147483647) (f1 : (-2147483648) ≤ n0) (f2 : n1 ≤ 2147483647) (f3 : (-2147483648) ≤ n1) (f4 : n2 ≤ 2147483647) (f5 : (-2147483648) ≤ n2) (f6 : n3 ≤ 2147483647) (f7 : (-2147483648) ≤ n3) (f8 : n4 = 7) (f9 : hWt T0 H0 ∧ True) (f10 : 0 ≤ n3) (f11 : n5 = 3) (f12 : n5 < n3) (f13 : n6 = (-1)) : postb_165 n6 n4 n3 n2 n1 n0 H0 H0 := by
  unfold postb_165
  omega
theorem c_165_s_1 : vOkm T0 (eP e_165 L_165 A_165 mu_165 none) 5 ([(0, [6], [], -1), (44, [1, 5], [], 0), (0, [5], [], 3), (33, [1], [], 0), (6000, [0, 1, 2, 3, 4], [0], 0), (0, [0], [], 7), (90, [1], [], -2147483648), (91, [1], [], 2147483647), (90, [2], [], -2147483648), (91, [2], [], 2147483647), (90, [3], [], -2147483648), (91, [3], [], 2147483647), (90, [4], [], -2147483648), (91, [4], [], 2147483647)], (3000, [6], [0], 26)) := vOk_in fun ρ η h => by
  obtain ⟨f0, f1, f2, f3, f4, f5, f6, f7, f8, f9, f10, f11, f12, f13, _⟩ := h
  exact q_165_1 (n0 := ρ 4) (n1 := ρ 3) (n2 := ρ 2) (n3 := ρ 1) (n4 := ρ 0) (n5 := ρ 5) (n6 := ρ 6) (H0 := η 0) f13 f12 f11 f10 f9 f8 f7 f6 f5 f4 f3 f2 f1 f0
theorem q_165_2 {n0 n1 n2 n3 n4 n5 n6 : Int} {H0 : gH} (f0 : n0 ≤ 2147483647) (f1 : (-2147483648) ≤ n0) (f2 : n1 ≤ 2147483647) (f3 : (-2147483648) ≤ n1) (f4 : n2 ≤ 2147483647) (f5 : (-2147483648) ≤ n2) (f6 : n3 ≤ 2147483647) (f7 : (-2147483648) ≤ n3) (f8 : n4 = 7) (f9 : hWt T0 H0 ∧ True) (f10 : 0 ≤ n3) (f11 : n5 = 3) (f12 : n3 ≤ n5) (f13 : n2 = 0) (f14 : n6 = (-1)) : postb_165 n6 n4 n3 n2 n1 n0 H0 H0 := by
  unfold postb_165
  omega
theorem c_165_s_2 : vOkm T0 (eP e_165 L_165 A_165 mu_165 none) 5 ([(0, [6], [], -1), (30, [2], [], 0), (45, [1, 5], [], 0), (0, [5], [], 3), (33, [1], [], 0), (6000, [0, 1, 2, 3, 4], [0], 0), (0, [0], [], 7), (90, [1], [], -2147483648), (91, [1], [], 2147483647), (90, [2], [], -2147483648), (91, [2], [], 2147483647), (90, [3], [], -2147483648), (91, [3], [], 2147483647), (90, [4], [], -2147483648), (91, [4], [], 2147483647)], (3000, [6], [0], 26)) := vOk_in fun ρ η h => by
  obtain ⟨f0, f1, f2, f3, f4, f5, f6, f7, f8, f9, f10, f11, f12, f13, f14, _⟩ := h
  exact q_165_2 (n0 := ρ 4) (n1 := ρ 3) (n2 := ρ 2) (n3 := ρ 1) (n4 := ρ 0) (n5 := ρ 5) (n6 := ρ 6) (H0 := η 0) f14 f13 f12 f11 f10 f9 f8 f7 f6 f5 f4 f3 f2 f1 f0
theorem q_165_3 {n0 n1 n2 n3 n4 n5 n6 n7 : Int} {H0 : gH} (f0 : n0 ≤ 2147483647) (f1 : (-2147483648) ≤ n0) (f2 : n1 ≤ 2147483647) (f3 : (-2147483648) ≤ n1) (f4 : n2 ≤ 2147483647) (f5 : (-2147483648) ≤ n2) (f6 : n3 ≤ 2147483647) (f7 : (-2147483648) ≤ n3) (f8 : n4 = 7) (f9 : hWt T0 H0 ∧ True) (f10 : 0 ≤ n3) (f11 : n5 = 3) (f12 : n3 ≤ n5) (f13 : n2 ≠ 0) (f14 : n6 = (-1)) (f15 : n2 < n6) (f16 : n7 = (-1)) : postb_165 n7 n4 n3 n2 n1 n0 H0 H0 := by
  unfold postb_165
  omega
theorem c_165_s_3 : vOkm T0 (eP e_165 L_165 A_165 mu_165 none) 5 ([(0, [7], [], -1), (42, [2, 6], [], 0), (0, [6], [], -1), (31, [2], [], 0), (45, [1, 5], [], 0), (0, [5], [], 3), (33, [1], [], 0), (6000, [0, 1, 2, 3, 4], [0], 0), (0, [0], [], 7), (90, [1], [], -2147483648), (91, [1], [], 2147483647), (90, [2], [], -2147483648), (91, [2], [], 2147483647), (90, [3], [], -2147483648), (91, [3], [], 2147483647), (90, [4], [], -2147483648), (91, [4], [], 2147483647)], (3000, [7], [0], 26)) := vOk_in fun ρ η h => by
  obtain ⟨f0, f1, f2, f3, f4, f5, f6, f7, f8, f9, f10, f11, f12, f13, f14, f15, f16, _⟩ := h
  exact q_165_3 (n0 := ρ 4) (n1 := ρ 3) (n2 := ρ 2) (n3 := ρ 1) (n4 := ρ 0) (n5 := ρ 5) (n6 := ρ 6) (n7 := ρ 7) (H0 := η 0) f16 f15 f14 f13 f12 f11 f10 f9 f8 f7 f6 f5 f4 f3 f2 f1 f0
theorem q_165_4 {n0 n1 n2 n3 n4 n5 n6 n7 n8 n9 n10 n11 n12 n13 n14 : Int} {H0 H1 : gH} (f0 : n0 ≤ 2147483647) (f1 : (-2147483648) ≤ n0) (f2 : n1 ≤ 2147483647) (f3 : (-2147483648) ≤ n1) (f4 : n2 ≤ 2147483647) (f5 : (-2147483648) ≤ n2) (f6 : n3 ≤ 2147483647) (f7 : (-2147483648) ≤ n3) (f8 : n4 = 7) (f9 : hWt T0 H0 ∧ True) (f10 : 0 ≤ n3) (f11 : n5 = 3) (f12 : n3 ≤ n5) (f13 : n2 ≠ 0) (f14 : n6 = (-1)) (f15 : n6 ≤ n2) (f16 : n7 = 240) (f17 : n2 ≤ n7) (f18 : n8 = (-1)) (f19 : n2 ≠ n8) (f20 : n9 = 1) (f21 : n3 ≠ n9) (f22 : n10 = 3) (f23 : n3 ≠ n10) (f24 : n11 = 23) (f25 : n11 = hV H0 (n4).toNat 7) (f26 : n12 = (-1)) (f27 : n13 = (-1)) (f28 : n2 ≠ n13) (f29 : n14 ≤ 2147483647) (f30 : (-2147483648) ≤ n14) (f31 : (hLe T0 H0 H1 ∧ hFr s_4.2.2.2.2 H0 H1 ∧ ((1 : Int) = 0 → H1.length = H0.length) ∧ hWt T0 H1) ∧ postb_4 n14 n11 n3 n1 n0 n12 n2 H0 H1) : postb_165 n14 n4 n3 n2 n1 n0 H0 H1 := by
  unfold postb_4 at f31
  unfold postb_165
  omega
theorem c_165_s_4 : vOkm T0 (eP e_165 L_165 A_165 mu_165 none) 5 ([(1004, [14, 11, 1, 3, 4, 12, 2], [0, 1], 1), (90, [14], [], -2147483648), (91, [14], [], 2147483647), (41, [2, 13], [], 0), (0, [13], [], -1), (0, [12], [], -1), (20, [11, 0], [0], 7), (0, [11], [], 23), (41, [1, 10], [], 0), (0, [10], [], 3), (41, [1, 9], [], 0), (0, [9], [], 1), (41, [2, 8], [], 0), (0, [8], [], -1), (45, [2, 7], [], 0), (0, [7], [], 240), (43, [2, 6], [], 0), (0, [6], [], -1), (31, [2], [], 0), (45, [1, 5], [], 0), (0, [5], [], 3), (33, [1], [], 0), (6000, [0, 1, 2, 3, 4], [0], 0), (0, [0], [], 7), (90, [1], [], -2147483648), (91, [1], [], 2147483647), (90, [2], [], -2147483648), (91, [2], [], 2147483647), (90, [3], [], -2147483648), (91, [3], [], 2147483647), (90, [4], [], -2147483648), (91, [4], [], 2147483647)], (3000, [14], [1], 104)) := vOk_in fun ρ η h => by
  obtain ⟨f0, f1, f2, f3, f4, f5, f6, f7, f8, f9, f10, f11, f12, f13, f14, f15, f16, f17, f18, f19, f20, f21, f22, f23, f24, f25, f26, f27, f28, f29, f30, f31, _⟩ := h
  exact q_165_4 (n0 := ρ 4) (n1 := ρ 3) (n2 := ρ 2) (n3 := ρ 1) (n4 := ρ 0) (n5 := ρ 5) (n6 := ρ 6) (n7 := ρ 7) (n8 := ρ 8) (n9 := ρ 9) (n10 := ρ 10) (n11 := ρ 11) (n12 := ρ 12) (n13 := ρ 13) (n14 := ρ 14) (H0 := η 0) (H1 := η 1) f31 f30 f29 f28 f27 f26 f25 f24 f23 f22 f21 f20 f19 f18 f17 f16 f15 f14 f13 f12 f11 f10 f9 f8 f7 f6 f5 f4 f3 f2 f1 f0
theorem q_165_5 {n0 n1 n2 n3 n4 n5 n6 n7 n8 n9 n10 n11 n12 n13 n14 n15 : Int} {H0 H1 : gH} (f0 : n0 ≤ 2147483647) (f1 : (-2147483648) ≤ n0) (f2 : n1 ≤ 2147483647) (f3 : (-2147483648) ≤ n1) (f4 : n2 ≤ 2147483647) (f5 : (-2147483648) ≤ n2) (f6 : n3 ≤ 2147483647) (f7 : (-2147483648) ≤ n3) (f8 : n4 = 7) (f9 : hWt T0 H0 ∧ True) (f10 : 0 ≤ n3) (f11 : n5 = 3) (f12 : n3 ≤ n5) (f13 : n2 ≠ 0) (f14 : n6 = (-1)) (f15 : n6 ≤ n2) (f16 : n7 = 240) (f17 : n2 ≤ n7) (f18 : n8 = (-1)) (f19 : n2 ≠ n8) (f20 : n9 = 1) (f21 : n3 ≠ n9) (f22 : n10 = 3) (f23 : n3 ≠ n10) (f24 : n11 = 23) (f25 : n11 = hV H0 (n4).toNat 7) (f26 : n12 = (-1)) (f27 : n13 = (-1)) (f28 : n2 = n13) (f29 : n14 = 0) (f30 : n15 ≤ 2147483647) (f31 : (-2147483648) ≤ n15) (f32 : (hLe T0 H0 H1 ∧ hFr s_4.2.2.2.2 H0 H1 ∧ ((1 : Int) = 0 → H1.length = H0.length) ∧ hWt T0 H1) ∧ postb_4 n15 n11 n3 n1 n0 n12 n14 H0 H1) : postb_165 n15 n4 n3 n2 n1 n0 H0 H1 := by
  unfold postb_4 at f32
  unfold postb_165
  omega
theorem c_165_s_5 : vOkm T0 (eP e_165 L_165 A_165 mu_165 none) 5 ([(1004, [15, 11, 1, 3, 4, 12, 14], [0, 1], 1), (90, [15], [], -2147483648), (91, [15], [], 2147483647), (0, [14], [], 0), (40, [2, 13], [], 0), (0, [13], [], -1), (0, [12], [], -1), (20, [11, 0], [0], 7), (0, [11], [], 23), (41, [1, 10], [], 0), (0, [10], [], 3), (41, [1, 9], [], 0), (0, [9], [], 1), (41, [2, 8], [], 0), (0, [8], [], -1), (45, [2, 7], [], 0), (0, [7], [], 240), (43, [2, 6], [], 0), (0, [6], [], -1), (31, [2], [], 0), (45, [1, 5], [], 0), (0, [5], [], 3), (33, [1], [], 0), (6000, [0, 1, 2, 3, 4], [0], 0), (0, [0], [], 7), (90, [1], [], -2147483648), (91, [1], [], 2147483647), (90, [2], [], -2147483648), (91, [2], [], 2147483647), (90, [3], [], -2147483648), (91, [3], [], 2147483647), (90, [4], [], -2147483648), (91, [4], [], 2147483647)], (3000, [15], [1], 104)) := vOk_in fun ρ η h => by
  obtain ⟨f0, f1, f2, f3, f4, f5, f6, f7, f8, f9, f10, f11, f12, f13, f14, f15, f16, f17, f18, f19, f20, f21, f22, f23, f24, f25, f26, f27, f28, f29, f30, f31, f32, _⟩ := h
  exact q_165_5 (n0 := ρ 4) (n1 := ρ 3) (n2 := ρ 2) (n3 := ρ 1) (n4 := ρ 0) (n5 := ρ 5) (n6 := ρ 6) (n7 := ρ 7) (n8 := ρ 8) (n9 := ρ 9) (n10 := ρ 10) (n11 := ρ 11) (n12 := ρ 12) (n13 := ρ 13) (n14 := ρ 14) (n15 := ρ 15) (H0 := η 0) (H1 := η 1) f32 f31 f30 f29 f28 f27 f26 f25 f24 f23 f22 f21 f20 f19 f18 f17 f16 f15 f14 f13 f12 f11 f10 f9 f8 f7 f6 f5 f4 f3 f2 f1 f0
theorem q_165_6 {n0 n1 n2 n3 n4 n5 n6 n7 n8 n9 n10 n11 : Int} {H0 : gH} (f0 : n0 ≤ 2147483647) (f1 : (-2147483648) ≤ n0) (f2 : n1 ≤ 2147483647) (f3 : (-2147483648) ≤ n1) (f4 : n2 ≤ 2147483647) (f5 : (-2147483648) ≤ n2) (f6 : n3 ≤ 2147483647) (f7 : (-2147483648) ≤ n3) (f8 : n4 = 7) (f9 : hWt T0 H0 ∧ True) (f10 : 0 ≤ n3) (f11 : n5 = 3) (f12 : n3 ≤ n5) (f13 : n2 ≠ 0) (f14 : n6 = (-1)) (f15 : n6 ≤ n2) (f16 : n7 = 240) (f17 : n2 ≤ n7) (f18 : n8 = (-1)) (f19 : n2 ≠ n8) (f20 : n9 = 1) (f21 : n3 ≠ n9) (f22 : n10 = 3) (f23 : n3 = n10) (f24 : n1 < 0) (f25 : n11 = (-1)) : postb_165 n11 n4 n3 n2 n1 n0 H0 H0 := by
  unfold postb_165
  omega
theorem c_165_s_6 : vOkm T0 (eP e_165 L_165 A_165 mu_165 none) 5 ([(0, [11], [], -1), (32, [3], [], 0), (40, [1, 10], [], 0), (0, [10], [], 3), (41, [1, 9], [], 0), (0, [9], [], 1), (41, [2, 8], [], 0), (0, [8], [], -1), (45, [2, 7], [], 0), (0, [7], [], 240), (43, [2, 6], [], 0), (0, [6], [], -1), (31, [2], [], 0), (45, [1, 5], [], 0), (0, [5], [], 3), (33, [1], [], 0), (6000, [0, 1, 2, 3, 4], [0], 0), (0, [0], [], 7), (90, [1], [], -2147483648), (91, [1], [], 2147483647), (90, [2], [], -2147483648), (91, [2], [], 2147483647), (90, [3], [], -2147483648), (91, [3], [], 2147483647), (90, [4], [], -2147483648), (91, [4], [], 2147483647)], (3000, [11], [0], 81)) := vOk_in fun ρ η h => by
  obtain ⟨f0, f1, f2, f3, f4, f5, f6, f7, f8, f9, f10, f11, f12, f13, f14, f15, f16, f17, f18, f19, f20, f21, f22, f23, f24, f25, _⟩ := h
  exact q_165_6 (n0 := ρ 4) (n1 := ρ 3) (n2 := ρ 2) (n3 := ρ 1) (n4 := ρ 0) (n5 := ρ 5) (n6 := ρ 6) (n7 := ρ 7) (n8 := ρ 8) (n9 := ρ 9) (n10 := ρ 10) (n11 := ρ 11) (H0 := η 0) f25 f24 f23 f22 f21 f20 f19 f18 f17 f16 f15 f14 f13 f12 f11 f10 f9 f8 f7 f6 f5 f4 f3 f2 f1 f0
theorem q_165_7 {n0 n1 n2 n3 n4 n5 n6 n7 n8 n9 n10 n11 n12 n13 n14 n15 : Int} {H0 H1 : gH} (f0 : n0 ≤ 2147483647) (f1 : (-2147483648) ≤ n0) (f2 : n1 ≤ 2147483647) (f3 : (-2147483648) ≤ n1) (f4 : n2 ≤ 2147483647) (f5 : (-2147483648) ≤ n2) (f6 : n3 ≤ 2147483647) (f7 : (-2147483648) ≤ n3) (f8 : n4 = 7) (f9 : hWt T0 H0 ∧ True) (f10 : 0 ≤ n3) (f11 : n5 = 3) (f12 : n3 ≤ n5) (f13 : n2 ≠ 0) (f14 : n6 = (-1)) (f15 : n6 ≤ n2) (f16 : n7 = 240) (f17 : n2 ≤ n7) (f18 : n8 = (-1)) (f19 : n2 ≠ n8) (f20 : n9 = 1) (f21 : n3 ≠ n9) (f22 : n10 = 3) (f23 : n3 = n10) (f24 : 0 ≤ n1) (f25 : n11 = 7) (f26 : n1 ≤ n11) (f27 : n12 = 23) (f28 : n12 = hV H0 (n4).toNat 7) (f29 : n13 = (-1)) (f30 : n14 = (-1)) (f31 : n2 ≠ n14) (f32 : n15 ≤ 2147483647) (f33 : (-2147483648) ≤ n15) (f34 : (hLe T0 H0 H1 ∧ hFr s_4.2.2.2.2 H0 H1 ∧ ((1 : Int) = 0 → H1.length = H0.length) ∧ hWt T0 H1) ∧ postb_4 n15 n12 n3 n1 n0 n13 n2 H0 H1) : postb_165 n15 n4 n3 n2 n1 n0 H0 H1 := by
  unfold postb_4 at f34
  unfold postb_165
  omega
theorem c_165_s_7 : vOkm T0 (eP e_165 L_165 A_165 mu_165 none) 5 ([(1004, [15, 12, 1, 3, 4, 13, 2], [0, 1], 1), (90, [15], [], -2147483648), (91, [15], [], 2147483647), (41, [2, 14], [], 0), (0, [14], [], -1), (0, [13], [], -1), (20, [12, 0], [0], 7), (0, [12], [], 23), (45, [3, 11], [], 0), (0, [11], [], 7), (33, [3], [], 0), (40, [1, 10], [], 0), (0, [10], [], 3), (41, [1, 9], [], 0), (0, [9], [], 1), (41, [2, 8], [], 0), (0, [8], [], -1), (45, [2, 7], [], 0), (0, [7], [], 240), (43, [2, 6], [], 0), (0, [6], [], -1), (31, [2], [], 0), (45, [1, 5], [], 0), (0, [5], [], 3), (33, [1], [], 0), (6000, [0, 1, 2, 3, 4], [0], 0), (0, [0], [], 7), (90, [1], [], -2147483648), (91, [1], [], 2147483647), (90, [2], [], -2147483648), (91, [2], [], 2147483647), (90, [3], [], -2147483648), (91, [3], [], 2147483647), (90, [4], [], -2147483648), (91, [4], [], 2147483647)], (3000, [15], [1], 104)) := vOk_in fun ρ η h => by
  obtain ⟨f0, f1, f2, f3, f4, f5, f6, f7, f8, f9, f10, f11, f12, f13, f14, f15, f16, f17, f18, f19, f20, f21, f22, f23, f24, f25, f26, f27, f28, f29, f30, f31, f32, f33, f34, _⟩ := h
  exact q_165_7 (n0 := ρ 4) (n1 := ρ 3) (n2 := ρ 2) (n3 := ρ 1) (n4 := ρ 0) (n5 := ρ 5) (n6 := ρ 6) (n7 := ρ 7) (n8 := ρ 8) (n9 := ρ 9) (n10 := ρ 10) (n11 := ρ 11) (n12 := ρ 12) (n13 := ρ 13) (n14 := ρ 14) (n15 := ρ 15) (H0 := η 0) (H1 := η 1) f34 f33 f32 f31 f30 f29 f28 f27 f26 f25 f24 f23 f22 f21 f20 f19 f18 f17 f16 f15 f14 f13 f12 f11 f10 f9 f8 f7 f6 f5 f4 f3 f2 f1 f0
theorem q_165_8 {n0 n1 n2 n3 n4 n5 n6 n7 n8 n9 n10 n11 n12 n13 n14 n15 n16 : Int} {H0 H1 : gH} (f0 : n0 ≤ 2147483647) (f1 : (-2147483648) ≤ n0) (f2 : n1 ≤ 2147483647) (f3 : (-2147483648) ≤ n1) (f4 : n2 ≤ 2147483647) (f5 : (-2147483648) ≤ n2) (f6 : n3 ≤ 2147483647) (f7 : (-2147483648) ≤ n3) (f8 : n4 = 7) (f9 : hWt T0 H0 ∧ True) (f10 : 0 ≤ n3) (f11 : n5 = 3) (f12 : n3 ≤ n5) (f13 : n2 ≠ 0) (f14 : n6 = (-1)) (f15 : n6 ≤ n2) (f16 : n7 = 240) (f17 : n2 ≤ n7) (f18 : n8 = (-1)) (f19 : n2 ≠ n8) (f20 : n9 = 1) (f21 : n3 ≠ n9) (f22 : n10 = 3) (f23 : n3 = n10) (f24 : 0 ≤ n1) (f25 : n11 = 7) (f26 : n1 ≤ n11) (f27 : n12 = 23) (f28 : n12 = hV H0 (n4).toNat 7) (f29 : n13 = (-1)) (f30 : n14 = (-1)) (f31 : n2 = n14) (f32 : n15 = 0) (f33 : n16 ≤ 2147483647) (f34 : (-2147483648) ≤ n16) (f35 : (hLe T0 H0 H1 ∧ hFr s_4.2.2.2.2 H0 H1 ∧ ((1 : Int) = 0 → H1.length = H0.length) ∧ hWt T0 H1) ∧ postb_4 n16 n12 n3 n1 n0 n13 n15 H0 H1) : postb_165 n16 n4 n3 n2 n1 n0 H0 H1 := by
  unfold postb_4 at f35
  unfold postb_165
  omega
theorem c_165_s_8 : vOkm T0 (eP e_165 L_165 A_165 mu_165 none) 5 ([(1004, [16, 12, 1, 3, 4, 13, 15], [0, 1], 1), (90, [16], [], -2147483648), (91, [16], [], 2147483647), (0, [15], [], 0), (40, [2, 14], [], 0), (0, [14], [], -1), (0, [13], [], -1), (20, [12, 0], [0], 7), (0, [12], [], 23), (45, [3, 11], [], 0), (0, [11], [], 7), (33, [3], [], 0), (40, [1, 10], [], 0), (0, [10], [], 3), (41, [1, 9], [], 0), (0, [9], [], 1), (41, [2, 8], [], 0), (0, [8], [], -1), (45, [2, 7], [], 0), (0, [7], [], 240), (43, [2, 6], [], 0), (0, [6], [], -1), (31, [2], [], 0), (45, [1, 5], [], 0), (0, [5], [], 3), (33, [1], [], 0), (6000, [0, 1, 2, 3, 4], [0], 0), (0, [0], [], 7), (90, [1], [], -2147483648), (91, [1], [], 2147483647), (90, [2], [], -2147483648), (91, [2], [], 2147483647), (90, [3], [], -2147483648), (91, [3], [], 2147483647), (90, [4], [], -2147483648), (91, [4], [], 2147483647)], (3000, [16], [1], 104)) := vOk_in fun ρ η h => by
  obtain ⟨f0, f1, f2, f3, f4, f5, f6, f7, f8, f9, f10, f11, f12, f13, f14, f15, f16, f17, f18, f19, f20, f21, f22, f23, f24, f25, f26, f27, f28, f29, f30, f31, f32, f33, f34, f35, _⟩ := h
  exact q_165_8 (n0 := ρ 4) (n1 := ρ 3) (n2 := ρ 2) (n3 := ρ 1) (n4 := ρ 0) (n5 := ρ 5) (n6 := ρ 6) (n7 := ρ 7) (n8 := ρ 8) (n9 := ρ 9) (n10 := ρ 10) (n11 := ρ 11) (n12 := ρ 12) (n13 := ρ 13) (n14 := ρ 14) (n15 := ρ 15) (n16 := ρ 16) (H0 := η 0) (H1 := η 1) f35 f34 f33 f32 f31 f30 f29 f28 f27 f26 f25 f24 f23 f22 f21 f20 f19 f18 f17 f16 f15 f14 f13 f12 f11 f10 f9 f8 f7 f6 f5 f4 f3 f2 f1 f0
theorem q_165_9 {n0 n1 n2 n3 n4 n5 n6 n7 n8 n9 n10 n11 n12 : Int} {H0 : gH} (f0 : n0 ≤ 2147483647) (f1 : (-2147483648) ≤ n0) (f2 : n1 ≤ 2147483647) (f3 : (-2147483648) ≤ n1) (f4 : n2 ≤ 2147483647) (f5 : (-2147483648) ≤ n2) (f6 : n3 ≤ 2147483647) (f7 : (-2147483648) ≤ n3) (f8 : n4 = 7) (f9 : hWt T0 H0 ∧ True) (f10 : 0 ≤ n3) (f11 : n5 = 3) (f12 : n3 ≤ n5) (f13 : n2 ≠ 0) (f14 : n6 = (-1)) (f15 : n6 ≤ n2) (f16 : n7 = 240) (f17 : n2 ≤ n7) (f18 : n8 = (-1)) (f19 : n2 ≠ n8) (f20 : n9 = 1) (f21 : n3 ≠ n9) (f22 : n10 = 3) (f23 : n3 = n10) (f24 : 0 ≤ n1) (f25 : n11 = 7) (f26 : n11 < n1) (f27 : n12 = (-1)) : postb_165 n12 n4 n3 n2 n1 n0 H0 H0 := by
  unfold postb_165
  omega
theorem c_165_s_9 : vOkm T0 (eP e_165 L_165 A_165 mu_165 none) 5 ([(0, [12], [], -1), (44, [3, 11], [], 0), (0, [11], [], 7), (33, [3], [], 0), (40, [1, 10], [], 0), (0, [10], [], 3), (41, [1, 9], [], 0), (0, [9], [], 1), (41, [2, 8], [], 0), (0, [8], [], -1), (45, [2, 7], [], 0), (0, [7], [], 240), (43, [2, 6], [], 0), (0, [6], [], -1), (31, [2], [], 0), (45, [1, 5], [], 0), (0, [5], [], 3), (33, [1], [], 0), (6000, [0, 1, 2, 3, 4], [0], 0), (0, [0], [], 7), (90, [1], [], -2147483648), (91, [1], [], 2147483647), (90, [2], [], -2147483648), (91, [2], [], 2147483647), (90, [3], [], -2147483648), (91, [3], [], 2147483647), (90, [4], [], -2147483648), (91, [4], [], 2147483647)], (3000, [12], [0], 81)) := vOk_in fun ρ η h => by
  obtain ⟨f0, f1, f2, f3, f4, f5, f6, f7, f8, f9, f10, f11, f12, f13, f14, f15, f16, f17, f18, f19, f20, f21, f22, f23, f24, f25, f26, f27, _⟩ := h
  exact q_165_9 (n0 := ρ 4) (n1 := ρ 3) (n2 := ρ 2) (n3 := ρ 1) (n4 := ρ 0) (n5 := ρ 5) (n6 := ρ 6) (n7 := ρ 7) (n8 := ρ 8) (n9 := ρ 9) (n10 := ρ 10) (n11 := ρ 11) (n12 := ρ 12) (H0 := η 0) f27 f26 f25 f24 f23 f22 f21 f20 f19 f18 f17 f16 f15 f14 f13 f12 f11 f10 f9 f8 f7 f6 f5 f4 f3 f2 f1 f0
theorem q_165_10 {n0 n1 n2 n3 n4 n5 n6 n7 n8 n9 n10 : Int} {H0 : gH} (f0 : n0 ≤ 2147483647) (f1 : (-2147483648) ≤ n0) (f2 : n1 ≤ 2147483647) (f3 : (-2147483648) ≤ n1) (f4 : n2 ≤ 2147483647) (f5 : (-2147483648) ≤ n2) (f6 : n3 ≤ 2147483647) (f7 : (-2147483648) ≤ n3) (f8 : n4 = 7) (f9 : hWt T0 H0 ∧ True) (f10 : 0 ≤ n3) (f11 : n5 = 3) (f12 : n3 ≤ n5) (f13 : n2 ≠ 0) (f14 : n6 = (-1)) (f15 : n6 ≤ n2) (f16 : n7 = 240) (f17 : n2 ≤ n7) (f18 : n8 = (-1)) (f19 : n2 ≠ n8) (f20 : n9 = 1) (f21 : n3 = n9) (f22 : n1 < 0) (f23 : n10 = (-1)) : postb_165 n10 n4 n3 n2 n1 n0 H0 H0 := by
  unfold postb_165
  omega
theorem c_165_s_10 : vOkm T0 (eP e_165 L_165 A_165 mu_165 none) 5 ([(0, [10], [], -1), (32, [3], [], 0), (40, [1, 9], [], 0), (0, [9], [], 1), (41, [2, 8], [], 0), (0, [8], [], -1), (45, [2, 7], [], 0), (0, [7], [], 240), (43, [2, 6], [], 0), (0, [6], [], -1), (31, [2], [], 0), (45, [1, 5], [], 0), (0, [5], [], 3), (33, [1], [], 0), (6000, [0, 1, 2, 3, 4], [0], 0), (0, [0], [], 7), (90, [1], [], -2147483648), (91, [1], [], 2147483647), (90, [2], [], -2147483648), (91, [2], [], 2147483647), (90, [3], [], -2147483648), (91, [3], [], 2147483647), (90, [4], [], -2147483648), (91, [4], [], 2147483647)], (3000, [10], [0], 64)) := vOk_in fun ρ η h => by
  obtain ⟨f0, f1, f2, f3, f4, f5, f6, f7, f8, f9, f10, f11, f12, f13, f14, f15, f16, f17, f18, f19, f20, f21, f22, f23, _⟩ := h
  exact q_165_10 (n0 := ρ 4) (n1 := ρ 3) (n2 := ρ 2) (n3 := ρ 1) (n4 := ρ 0) (n5 := ρ 5) (n6 := ρ 6) (n7 := ρ 7) (n8 := ρ 8) (n9 := ρ 9) (n10 := ρ 10) (H0 := η 0) f23 f22 f21 f20 f19 f18 f17 f16 f15 f14 f13 f12 f11 f10 f9 f8 f7 f6 f5 f4 f3 f2 f1 f0
theorem q_165_11 {n0 n1 n2 n3 n4 n5 n6 n7 n8 n9 n10 : Int} {H0 : gH} (f0 : n0 ≤ 2147483647) (f1 : (-2147483648) ≤ n0) (f2 : n1 ≤ 2147483647) (f3 : (-2147483648) ≤ n1) (f4 : n2 ≤ 2147483647) (f5 : (-2147483648) ≤ n2) (f6 : n3 ≤ 2147483647) (f7 : (-2147483648) ≤ n3) (f8 : n4 = 7) (f9 : hWt T0 H0 ∧ True) (f10 : 0 ≤ n3) (f11 : n5 = 3) (f12 : n3 ≤ n5) (f13 : n2 ≠ 0) (f14 : n6 = (-1)) (f15 : n6 ≤ n2) (f16 : n7 = 240) (f17 : n2 ≤ n7) (f18 : n8 = (-1)) (f19 : n2 ≠ n8) (f20 : n9 = 1) (f21 : n3 = n9) (f22 : 0 ≤ n1) (f23 : n0 ≤ n1) (f24 : n10 = (-1)) : postb_165 n10 n4 n3 n2 n1 n0 H0 H0 := by
  unfold postb_165
  omega
theorem c_165_s_11 : vOkm T0 (eP e_165 L_165 A_165 mu_165 none) 5 ([(0, [10], [], -1), (45, [4, 3], [], 0), (33, [3], [], 0), (40, [1, 9], [], 0), (0, [9], [], 1), (41, [2, 8], [], 0), (0, [8], [], -1), (45, [2, 7], [], 0), (0, [7], [], 240), (43, [2, 6], [], 0), (0, [6], [], -1), (31, [2], [], 0), (45, [1, 5], [], 0), (0, [5], [], 3), (33, [1], [], 0), (6000, [0, 1, 2, 3, 4], [0], 0), (0, [0], [], 7), (90, [1], [], -2147483648), (91, [1], [], 2147483647), (90, [2], [], -2147483648), (91, [2], [], 2147483647), (90, [3], [], -2147483648), (91, [3], [], 2147483647), (90, [4], [], -2147483648), (91, [4], [], 2147483647)], (3000, [10], [0], 64)) := vOk_in fun ρ η h => by
  obtain ⟨f0, f1, f2, f3, f4, f5, f6, f7, f8, f9, f10, f11, f12, f13, f14, f15, f16, f17, f18, f19, f20, f21, f22, f23, f24, _⟩ := h
  exact q_165_11 (n0 := ρ 4) (n1 := ρ 3) (n2 := ρ 2) (n3 := ρ 1) (n4 := ρ 0) (n5 := ρ 5) (n6 := ρ 6) (n7 := ρ 7) (n8 := ρ 8) (n9 := ρ 9) (n10 := ρ 10) (H0 := η 0) f24 f23 f22 f21 f20 f19 f18 f17 f16 f15 f14 f13 f12 f11 f10 f9 f8 f7 f6 f5 f4 f3 f2 f1 f0
theorem q_165_12 {n0 n1 n2 n3 n4 n5 n6 n7 n8 n9 n10 n11 n12 n13 n14 : Int} {H0 H1 : gH} (f0 : n0 ≤ 2147483647) (f1 : (-2147483648) ≤ n0) (f2 : n1 ≤ 2147483647) (f3 : (-2147483648) ≤ n1) (f4 : n2 ≤ 2147483647) (f5 : (-2147483648) ≤ n2) (f6 : n3 ≤ 2147483647) (f7 : (-2147483648) ≤ n3) (f8 : n4 = 7) (f9 : hWt T0 H0 ∧ True) (f10 : 0 ≤ n3) (f11 : n5 = 3) (f12 : n3 ≤ n5) (f13 : n2 ≠ 0) (f14 : n6 = (-1)) (f15 : n6 ≤ n2) (f16 : n7 = 240) (f17 : n2 ≤ n7) (f18 : n8 = (-1)) (f19 : n2 ≠ n8) (f20 : n9 = 1) (f21 : n3 = n9) (f22 : 0 ≤ n1) (f23 : n1 < n0) (f24 : n0 ≤ n2) (f25 : n10 = 3) (f26 : n3 ≠ n10) (f27 : n11 = 23) (f28 : n11 = hV H0 (n4).toNat 7) (f29 : n12 = (-1)) (f30 : n13 = (-1)) (f31 : n2 ≠ n13) (f32 : n14 ≤ 2147483647) (f33 : (-2147483648) ≤ n14) (f34 : (hLe T0 H0 H1 ∧ hFr s_4.2.2.2.2 H0 H1 ∧ ((1 : Int) = 0 → H1.length = H0.length) ∧ hWt T0 H1) ∧ postb_4 n14 n11 n3 n1 n0 n12 n2 H0 H1) : postb_165 n14 n4 n3 n2 n1 n0 H0 H1 := by
  unfold postb_4 at f34
  unfold postb_165
  omega
theorem c_165_s_12 : vOkm T0 (eP e_165 L_165 A_165 mu_165 none) 5 ([(1004, [14, 11, 1, 3, 4, 12, 2], [0, 1], 1), (90, [14], [], -2147483648), (91, [14], [], 2147483647), (41, [2, 13], [], 0), (0, [13], [], -1), (0, [12], [], -1), (20, [11, 0], [0], 7), (0, [11], [], 23), (41, [1, 10], [], 0), (0, [10], [], 3), (45, [4, 2], [], 0), (44, [4, 3], [], 0), (33, [3], [], 0), (40, [1, 9], [], 0), (0, [9], [], 1), (41, [2, 8], [], 0), (0, [8], [], -1), (45, [2, 7], [], 0), (0, [7], [], 240), (43, [2, 6], [], 0), (0, [6], [], -1), (31, [2], [], 0), (45, [1, 5], [], 0), (0, [5], [], 3), (33, [1], [], 0), (6000, [0, 1, 2, 3, 4], [0], 0), (0, [0], [], 7), (90, [1], [], -2147483648), (91, [1], [], 2147483647), (90, [2], [], -2147483648), (91, [2], [], 2147483647), (90, [3], [], -2147483648), (91, [3], [], 2147483647), (90, [4], [], -2147483648), (91, [4], [], 2147483647)], (3000, [14], [1], 104)) := vOk_in fun ρ η h => by
  obtain ⟨f0, f1, f2, f3, f4, f5, f6, f7, f8, f9, f10, f11, f12, f13, f14, f15, f16, f17, f18, f19, f20, f21, f22, f23, f24, f25, f26, f27, f28, f29, f30, f31, f32, f33, f34, _⟩ := h
  exact q_165_12 (n0 := ρ 4) (n1 := ρ 3) (n2 := ρ 2) (n3 := ρ 1) (n4 := ρ 0) (n5 := ρ 5) (n6 := ρ 6) (n7 := ρ 7) (n8 := ρ 8) (n9 := ρ 9) (n10 := ρ 10) (n11 := ρ 11) (n12 := ρ 12) (n13 := ρ 13) (n14 := ρ 14) (H0 := η 0) (H1 := η 1) f34 f33 f32 f31 f30 f29 f28 f27 f26 f25 f24 f23 f22 f21 f20 f19 f18 f17 f16 f15 f14 f13 f12 f11 f10 f9 f8 f7 f6 f5 f4 f3 f2 f1 f0
theorem q_165_13 {n0 n1 n2 n3 n4 n5 n6 n7 n8 n9 n10 n11 n12 n13 n14 n15 : Int} {H0 H1 : gH} (f0 : n0 ≤ 2147483647) (f1 : (-2147483648) ≤ n0) (f2 : n1 ≤ 2147483647) (f3 : (-2147483648) ≤ n1) (f4 : n2 ≤ 2147483647) (f5 : (-2147483648) ≤ n2) (f6 : n3 ≤ 2147483647) (f7 : (-2147483648) ≤ n3) (f8 : n4 = 7) (f9 : hWt T0 H0 ∧ True) (f10 : 0 ≤ n3) (f11 : n5 = 3) (f12 : n3 ≤ n5) (f13 : n2 ≠ 0) (f14 : n6 = (-1)) (f15 : n6 ≤ n2) (f16 : n7 = 240) (f17 : n2 ≤ n7) (f18 : n8 = (-1)) (f19 : n2 ≠ n8) (f20 : n9 = 1) (f21 : n3 = n9) (f22 : 0 ≤ n1) (f23 : n1 < n0) (f24 : n0 ≤ n2) (f25 : n10 = 3) (f26 : n3 ≠ n10) (f27 : n11 = 23) (f28 : n11 = hV H0 (n4).toNat 7) (f29 : n12 = (-1)) (f30 : n13 = (-1)) (f31 : n2 = n13) (f32 : n14 = 0) (f33 : n15 ≤ 2147483647) (f34 : (-2147483648) ≤ n15) (f35 : (hLe T0 H0 H1 ∧ hFr s_4.2.2.2.2 H0 H1 ∧ ((1 : Int) = 0 → H1.length = H0.length) ∧ hWt T0 H1) ∧ postb_4 n15 n11 n3 n1 n0 n12 n14 H0 H1) : postb_165 n15 n4 n3 n2 n1 n0 H0 H1 := by
  unfold postb_4 at f35
  unfold postb_165
  omega
theorem c_165_s_13 : vOkm T0 (eP e_165 L_165 A_165 mu_165 none) 5 ([(1004, [15, 11, 1, 3, 4, 12, 14], [0, 1], 1), (90, [15], [], -2147483648), (91, [15], [], 2147483647), (0, [14], [], 0), (40, [2, 13], [], 0), (0, [13], [], -1), (0, [12], [], -1), (20, [11, 0], [0], 7), (0, [11], [], 23), (41, [1, 10], [], 0), (0, [10], [], 3), (45, [4, 2], [], 0), (44, [4, 3], [], 0), (33, [3], [], 0), (40, [1, 9], [], 0), (0, [9], [], 1), (41, [2, 8], [], 0), (0, [8], [], -1), (45, [2, 7], [], 0), (0, [7], [], 240), (43, [2, 6], [], 0), (0, [6], [], -1), (31, [2], [], 0), (45, [1, 5], [], 0), (0, [5], [], 3), (33, [1], [], 0), (6000, [0, 1, 2, 3, 4], [0], 0), (0, [0], [], 7), (90, [1], [], -2147483648), (91, [1], [], 2147483647), (90, [2], [], -2147483648), (91, [2], [], 2147483647), (90, [3], [], -2147483648), (91, [3], [], 2147483647), (90, [4], [], -2147483648), (91, [4], [], 2147483647)], (3000, [15], [1], 104)) := vOk_in fun ρ η h => by
  obtain ⟨f0, f1, f2, f3, f4, f5, f6, f7, f8, f9, f10, f11, f12, f13, f14, f15, f16, f17, f18, f19, f20, f21, f22, f23, f24, f25, f26, f27, f28, f29, f30, f31, f32, f33, f34, f35, _⟩ := h
  exact q_165_13 (n0 := ρ 4) (n1 := ρ 3) (n2 := ρ 2) (n3 := ρ 1) (n4 := ρ 0) (n5 := ρ 5) (n6 := ρ 6) (n7 := ρ 7) (n8 := ρ 8) (n9 := ρ 9) (n10 := ρ 10) (n11 := ρ 11) (n12 := ρ 12) (n13 := ρ 13) (n14 := ρ 14) (n15 := ρ 15) (H0 := η 0) (H1 := η 1) f35 f34 f33 f32 f31 f30 f29 f28 f27 f26 f25 f24 f23 f22 f21 f20 f19 f18 f17 f16 f15 f14 f13 f12 f11 f10 f9 f8 f7 f6 f5 f4 f3 f2 f1 f0
theorem q_165_14 {n0 n1 n2 n3 n4 n5 n6 n7 n8 n9 n10 n11 : Int} {H0 : gH} (f0 : n0 ≤ 2147483647) (f1 : (-2147483648) ≤ n0) (f2 : n1 ≤ 2147483647) (f3 : (-2147483648) ≤ n1) (f4 : n2 ≤ 2147483647) (f5 : (-2147483648) ≤ n2) (f6 : n3 ≤ 2147483647) (f7 : (-2147483648) ≤ n3) (f8 : n4 = 7) (f9 : hWt T0 H0 ∧ True) (f10 : 0 ≤ n3) (f11 : n5 = 3) (f12 : n3 ≤ n5) (f13 : n2 ≠ 0) (f14 : n6 = (-1)) (f15 : n6 ≤ n2) (f16 : n7 = 240) (f17 : n2 ≤ n7) (f18 : n8 = (-1)) (f19 : n2 ≠ n8) (f20 : n9 = 1) (f21 : n3 = n9) (f22 : 0 ≤ n1) (f23 : n1 < n0) (f24 : n0 ≤ n2) (f25 : n10 = 3) (f26 : n3 = n10) (f27 : n1 < 0) (f28 : n11 = (-1)) : postb_165 n11 n4 n3 n2 n1 n0 H0 H0 := by
  unfold postb_165
  omega
theorem c_165_s_14 : vOkm T0 (eP e_165 L_165 A_165 mu_165 none) 5 ([(0, [11], [], -1), (32, [3], [], 0), (40, [1, 10], [], 0), (0, [10], [], 3), (45, [4, 2], [], 0), (44, [4, 3], [], 0), (33, [3], [], 0), (40, [1, 9], [], 0), (0, [9], [], 1), (41, [2, 8], [], 0), (0, [8], [], -1), (45, [2, 7], [], 0), (0, [7], [], 240), (43, [2, 6], [], 0), (0, [6], [], -1), (31, [2], [], 0), (45, [1, 5], [], 0), (0, [5], [], 3), (33, [1], [], 0), (6000, [0, 1, 2, 3, 4], [0], 0), (0, [0], [], 7), (90, [1], [], -2147483648), (91, [1], [], 2147483647), (90, [2], [], -2147483648), (91, [2], [], 2147483647), (90, [3], [], -2147483648), (91, [3], [], 2147483647), (90, [4], [], -2147483648), (91, [4], [], 2147483647)], (3000, [11], [0], 81)) := vOk_in fun ρ η h => by
  obtain ⟨f0, f1, f2, f3, f4, f5, f6, f7, f8, f9, f10, f11, f12, f13, f14, f15, f16, f17, f18, f19, f20, f21, f22, f23, f24, f25, f26, f27, f28, _⟩ := h
  exact q_165_14 (n0 := ρ 4) (n1 := ρ 3) (n2 := ρ 2) (n3 := ρ 1) (n4 := ρ 0) (n5 := ρ 5) (n6 := ρ 6) (n7 := ρ 7) (n8 := ρ 8) (n9 := ρ 9) (n10 := ρ 10) (n11 := ρ 11) (H0 := η 0) f28 f27 f26 f25 f24 f23 f22 f21 f20 f19 f18 f17 f16 f15 f14 f13 f12 f11 f10 f9 f8 f7 f6 f5 f4 f3 f2 f1 f0
theorem q_165_15 {n0 n1 n2 n3 n4 n5 n6 n7 n8 n9 n10 n11 n12 n13 n14 n15 : Int} {H0 H1 : gH} (f0 : n0 ≤ 2147483647) (f1 : (-2147483648) ≤ n0) (f2 : n1 ≤ 2147483647) (f3 : (-2147483648) ≤ n1) (f4 : n2 ≤ 2147483647) (f5 : (-2147483648) ≤ n2) (f6 : n3 ≤ 2147483647) (f7 : (-2147483648) ≤ n3) (f8 : n4 = 7) (f9 : hWt T0 H0 ∧ True) (f10 : 0 ≤ n3) (f11 : n5 = 3) (f12 : n3 ≤ n5) (f13 : n2 ≠ 0) (f14 : n6 = (-1)) (f15 : n6 ≤ n2) (f16 : n7 = 240) (f17 : n2 ≤ n7) (f18 : n8 = (-1)) (f19 : n2 ≠ n8) (f20 : n9 = 1) (f21 : n3 = n9) (f22 : 0 ≤ n1) (f23 : n1 < n0) (f24 : n0 ≤ n2) (f25 : n10 = 3) (f26 : n3 = n10) (f27 : 0 ≤ n1) (f28 : n11 = 7) (f29 : n1 ≤ n11) (f30 : n12 = 23) (f31 : n12 = hV H0 (n4).toNat 7) (f32 : n13 = (-1)) (f33 : n14 = (-1)) (f34 : n2 ≠ n14) (f35 : n15 ≤ 2147483647) (f36 : (-2147483648) ≤ n15) (f37 : (hLe T0 H0 H1 ∧ hFr s_4.2.2.2.2 H0 H1 ∧ ((1 : Int) = 0 → H1.length = H0.length) ∧ hWt T0 H1) ∧ postb_4 n15 n12 n3 n1 n0 n13 n2 H0 H1) : postb_165 n15 n4 n3 n2 n1 n0 H0 H1 := by
  unfold postb_4 at f37
  unfold postb_165
  omega
theorem c_165_s_15 : vOkm T0 (eP e_165 L_165 A_165 mu_165 none) 5 ([(1004, [15, 12, 1, 3, 4, 13, 2], [0, 1], 1), (90, [15], [], -2147483648), (91, [15], [], 2147483647), (41, [2, 14], [], 0), (0, [14], [], -1), (0, [13], [], -1), (20, [12, 0], [0], 7), (0, [12], [], 23), (45, [3, 11], [], 0), (0, [11], [], 7), (33, [3], [], 0), (40, [1, 10], [], 0), (0, [10], [], 3), (45, [4, 2], [], 0), (44, [4, 3], [], 0), (33, [3], [], 0), (40, [1, 9], [], 0), (0, [9], [], 1), (41, [2, 8], [], 0), (0, [8], [], -1), (45, [2, 7], [], 0), (0, [7], [], 240), (43, [2, 6], [], 0), (0, [6], [], -1), (31, [2], [], 0), (45, [1, 5], [], 0), (0, [5], [], 3), (33, [1], [], 0), (6000, [0, 1, 2, 3, 4], [0], 0), (0, [0], [], 7), (90, [1], [], -2147483648), (91, [1], [], 2147483647), (90, [2], [], -2147483648), (91, [2], [], 2147483647), (90, [3], [], -2147483648), (91, [3], [], 2147483647), (90, [4], [], -2147483648), (91, [4], [], 2147483647)], (3000, [15], [1], 104)) := vOk_in fun ρ η h => by
  obtain ⟨f0, f1, f2, f3, f4, f5, f6, f7, f8, f9, f10, f11, f12, f13, f14, f15, f16, f17, f18, f19, f20, f21, f22, f23, f24, f25, f26, f27, f28, f29, f30, f31, f32, f33, f34, f35, f36, f37, _⟩ := h
  exact q_165_15 (n0 := ρ 4) (n1 := ρ 3) (n2 := ρ 2) (n3 := ρ 1) (n4 := ρ 0) (n5 := ρ 5) (n6 := ρ 6) (n7 := ρ 7) (n8 := ρ 8) (n9 := ρ 9) (n10 := ρ 10) (n11 := ρ 11) (n12 := ρ 12) (n13 := ρ 13) (n14 := ρ 14) (n15 := ρ 15) (H0 := η 0) (H1 := η 1) f37 f36 f35 f34 f33 f32 f31 f30 f29 f28 f27 f26 f25 f24 f23 f22 f21 f20 f19 f18 f17 f16 f15 f14 f13 f12 f11 f10 f9 f8 f7 f6 f5 f4 f3 f2 f1 f0
theorem q_165_16 {n0 n1 n2 n3 n4 n5 n6 n7 n8 n9 n10 n11 n12 n13 n14 n15 n16 : Int} {H0 H1 : gH} (f0 : n0 ≤ 2147483647) (f1 : (-2147483648) ≤ n0) (f2 : n1 ≤ 2147483647) (f3 : (-2147483648) ≤ n1) (f4 : n2 ≤ 2147483647) (f5 : (-2147483648) ≤ n2) (f6 : n3 ≤ 2147483647) (f7 : (-2147483648) ≤ n3) (f8 : n4 = 7) (f9 : hWt T0 H0 ∧ True) (f10 : 0 ≤ n3) (f11 : n5 = 3) (f12 : n3 ≤ n5) (f13 : n2 ≠ 0) (f14 : n6 = (-1)) (f15 : n6 ≤ n2) (f16 : n7 = 240) (f17 : n2 ≤ n7) (f18 : n8 = (-1)) (f19 : n2 ≠ n8) (f20 : n9 = 1) (f21 : n3 = n9) (f22 : 0 ≤ n1) (f23 : n1 < n0) (f24 : n0 ≤ n2) (f25 : n10 = 3) (f26 : n3 = n10) (f27 : 0 ≤ n1) (f28 : n11 = 7) (f29 : n1 ≤ n11) (f30 : n12 = 23) (f31 : n12 = hV H0 (n4).toNat 7) (f32 : n13 = (-1)) (f33 : n14 = (-1)) (f34 : n2 = n14) (f35 : n15 = 0) (f36 : n16 ≤ 2147483647) (f37 : (-2147483648) ≤ n16) (f38 : (hLe T0 H0 H1 ∧ hFr s_4.2.2.2.2 H0 H1 ∧ ((1 : Int) = 0 → H1.length = H0.length) ∧ hWt T0 H1) ∧ postb_4 n16 n12 n3 n1 n0 n13 n15 H0 H1) : postb_165 n16 n4 n3 n2 n1 n0 H0 H1 := by
  unfold postb_4 at f38
  unfold postb_165
  omega
theorem c_165_s_16 : vOkm T0 (eP e_165 L_165 A_165 mu_165 none) 5 ([(1004, [16, 12, 1, 3, 4, 13, 15], [0, 1], 1), (90, [16], [], -2147483648), (91, [16], [], 2147483647), (0, [15], [], 0), (40, [2, 14], [], 0), (0, [14], [], -1), (0, [13], [], -1), (20, [12, 0], [0], 7), (0, [12], [], 23), (45, [3, 11], [], 0), (0, [11], [], 7), (33, [3], [], 0), (40, [1, 10], [], 0), (0, [10], [], 3), (45, [4, 2], [], 0), (44, [4, 3], [], 0), (33, [3], [], 0), (40, [1, 9], [], 0), (0, [9], [], 1), (41, [2, 8], [], 0), (0, [8], [], -1), (45, [2, 7], [], 0), (0, [7], [], 240), (43, [2, 6], [], 0), (0, [6], [], -1), (31, [2], [], 0), (45, [1, 5], [], 0), (0, [5], [], 3), (33, [1], [], 0), (6000, [0, 1, 2, 3, 4], [0], 0), (0, [0], [], 7), (90, [1], [], -2147483648), (91, [1], [], 2147483647), (90, [2], [], -2147483648), (91, [2], [], 2147483647), (90, [3], [], -2147483648), (91, [3], [], 2147483647), (90, [4], [], -2147483648), (91, [4], [], 2147483647)], (3000, [16], [1], 104)) := vOk_in fun ρ η h => by
  obtain ⟨f0, f1, f2, f3, f4, f5, f6, f7, f8, f9, f10, f11, f12, f13, f14, f15, f16, f17, f18, f19, f20, f21, f22, f23, f24, f25, f26, f27, f28, f29, f30, f31, f32, f33, f34, f35, f36, f37, f38, _⟩ := h
  exact q_165_16 (n0 := ρ 4) (n1 := ρ 3) (n2 := ρ 2) (n3 := ρ 1) (n4 := ρ 0) (n5 := ρ 5) (n6 := ρ 6) (n7 := ρ 7) (n8 := ρ 8) (n9 := ρ 9) (n10 := ρ 10) (n11 := ρ 11) (n12 := ρ 12) (n13 := ρ 13) (n14 := ρ 14) (n15 := ρ 15) (n16 := ρ 16) (H0 := η 0) (H1 := η 1) f38 f37 f36 f35 f34 f33 f32 f31 f30 f29 f28 f27 f26 f25 f24 f23 f22 f21 f20 f19 f18 f17 f16 f15 f14 f13 f12 f11 f10 f9 f8 f7 f6 f5 f4 f3 f2 f1 f0
theorem q_165_17 {n0 n1 n2 n3 n4 n5 n6 n7 n8 n9 n10 n11 n12 : Int} {H0 : gH} (f0 : n0 ≤ 2147483647) (f1 : (-2147483648) ≤ n0) (f2 : n1 ≤ 2147483647) (f3 : (-2147483648) ≤ n1) (f4 : n2 ≤ 2147483647) (f5 : (-2147483648) ≤ n2) (f6 : n3 ≤ 2147483647) (f7 : (-2147483648) ≤ n3) (f8 : n4 = 7) (f9 : hWt T0 H0 ∧ True) (f10 : 0 ≤ n3) (f11 : n5 = 3) (f12 : n3 ≤ n5) (f13 : n2 ≠ 0) (f14 : n6 = (-1)) (f15 : n6 ≤ n2) (f16 : n7 = 240) (f17 : n2 ≤ n7) (f18 : n8 = (-1)) (f19 : n2 ≠ n8) (f20 : n9 = 1) (f21 : n3 = n9) (f22 : 0 ≤ n1) (f23 : n1 < n0) (f24 : n0 ≤ n2) (f25 : n10 = 3) (f26 : n3 = n10) (f27 : 0 ≤ n1) (f28 : n11 = 7) (f29 : n11 < n1) (f30 : n12 = (-1)) : postb_165 n12 n4 n3 n2 n1 n0 H0 H0 := by
  unfold postb_165
  omega
theorem c_165_s_17 : vOkm T0 (eP e_165 L_165 A_165 mu_165 none) 5 ([(0, [12], [], -1), (44, [3, 11], [], 0), (0, [11], [], 7), (33, [3], [], 0), (40, [1, 10], [], 0), (0, [10], [], 3), (45, [4, 2], [], 0), (44, [4, 3], [], 0), (33, [3], [], 0), (40, [1, 9], [], 0), (0, [9], [], 1), (41, [2, 8], [], 0), (0, [8], [], -1), (45, [2, 7], [], 0), (0, [7], [], 240), (43, [2, 6], [], 0), (0, [6], [], -1), (31, [2], [], 0), (45, [1, 5], [], 0), (0, [5], [], 3), (33, [1], [], 0), (6000, [0, 1, 2, 3, 4], [0], 0), (0, [0], [], 7), (90, [1], [], -2147483648), (91, [1], [], 2147483647), (90, [2], [], -2147483648), (91, [2], [], 2147483647), (90, [3], [], -2147483648), (91, [3], [], 2147483647), (90, [4], [], -2147483648), (91, [4], [], 2147483647)], (3000, [12], [0], 81)) := vOk_in fun ρ η h => by
  obtain ⟨f0, f1, f2, f3, f4, f5, f6, f7, f8, f9, f10, f11, f12, f13, f14, f15, f16, f17, f18, f19, f20, f21, f22, f23, f24, f25, f26, f27, f28, f29, f30, _⟩ := h
  exact q_165_17 (n0 := ρ 4) (n1 := ρ 3) (n2 := ρ 2) (n3 := ρ 1) (n4 := ρ 0) (n5 := ρ 5) (n6 := ρ 6) (n7 := ρ 7) (n8 := ρ 8) (n9 := ρ 9) (n10 := ρ 10) (n11 := ρ 11) (n12 := ρ 12) (H0 := η 0) f30 f29 f28 f27 f26 f25 f24 f23 f22 f21 f20 f19 f18 f17 f16 f15 f14 f13 f12 f11 f10 f9 f8 f7 f6 f5 f4 f3 f2 f1 f0
theorem q_165_18 {n0 n1 n2 n3 n4 n5 n6 n7 n8 n9 n10 : Int} {H0 : gH} (f0 : n0 ≤ 2147483647) (f1 : (-2147483648) ≤ n0) (f2 : n1 ≤ 2147483647) (f3 : (-2147483648) ≤ n1) (f4 : n2 ≤ 2147483647) (f5 : (-2147483648) ≤ n2) (f6 : n3 ≤ 2147483647) (f7 : (-2147483648) ≤ n3) (f8 : n4 = 7) (f9 : hWt T0 H0 ∧ True) (f10 : 0 ≤ n3) (f11 : n5 = 3) (f12 : n3 ≤ n5) (f13 : n2 ≠ 0) (f14 : n6 = (-1)) (f15 : n6 ≤ n2) (f16 : n7 = 240) (f17 : n2 ≤ n7) (f18 : n8 = (-1)) (f19 : n2 ≠ n8) (f20 : n9 = 1) (f21 : n3 = n9) (f22 : 0 ≤ n1) (f23 : n1 < n0) (f24 : n2 < n0) (f25 : n10 = (-1)) : postb_165 n10 n4 n3 n2 n1 n0 H0 H0 := by
  unfold postb_165
  omega
theorem c_165_s_18 : vOkm T0 (eP e_165 L_165 A_165 mu_165 none) 5 ([(0, [10], [], -1), (44, [4, 2], [], 0), (44, [4, 3], [], 0), (33, [3], [], 0), (40, [1, 9], [], 0), (0, [9], [], 1), (41, [2, 8], [], 0), (0, [8], [], -1), (45, [2, 7], [], 0), (0, [7], [], 240), (43, [2, 6], [], 0), (0, [6], [], -1), (31, [2], [], 0), (45, [1, 5], [], 0), (0, [5], [], 3), (33, [1], [], 0), (6000, [0, 1, 2, 3, 4], [0], 0), (0, [0], [], 7), (90, [1], [], -2147483648), (91, [1], [], 2147483647), (90, [2], [], -2147483648), (91, [2], [], 2147483647), (90, [3], [], -2147483648), (91, [3], [], 2147483647), (90, [4], [], -2147483648), (91, [4], [], 2147483647)], (3000, [10], [0], 64)) := vOk_in fun ρ η h => by
  obtain ⟨f0, f1, f2, f3, f4, f5, f6, f7, f8, f9, f10, f11, f12, f13, f14, f15, f16, f17, f18, f19, f20, f21, f22, f23, f24, f25, _⟩ := h
  exact q_165_18 (n0 := ρ 4) (n1 := ρ 3) (n2 := ρ 2) (n3 := ρ 1) (n4 := ρ 0) (n5 := ρ 5) (n6 := ρ 6) (n7 := ρ 7) (n8 := ρ 8) (n9 := ρ 9) (n10 := ρ 10) (H0 := η 0) f25 f24 f23 f22 f21 f20 f19 f18 f17 f16 f15 f14 f13 f12 f11 f10 f9 f8 f7 f6 f5 f4 f3 f2 f1 f0
theorem q_165_19 {n0 n1 n2 n3 n4 n5 n6 n7 n8 n9 n10 n11 n12 n13 n14 : Int} {H0 H1 : gH} (f0 : n0 ≤ 2147483647) (f1 : (-2147483648) ≤ n0) (f2 : n1 ≤ 2147483647) (f3 : (-2147483648) ≤ n1) (f4 : n2 ≤ 2147483647) (f5 : (-2147483648) ≤ n2) (f6 : n3 ≤ 2147483647) (f7 : (-2147483648) ≤ n3) (f8 : n4 = 7) (f9 : hWt T0 H0 ∧ True) (f10 : 0 ≤ n3) (f11 : n5 = 3) (f12 : n3 ≤ n5) (f13 : n2 ≠ 0) (f14 : n6 = (-1)) (f15 : n6 ≤ n2) (f16 : n7 = 240) (f17 : n2 ≤ n7) (f18 : n8 = (-1)) (f19 : n2 = n8) (f20 : n9 = 1) (f21 : n3 ≠ n9) (f22 : n10 = 3) (f23 : n3 ≠ n10) (f24 : n11 = 23) (f25 : n11 = hV H0 (n4).toNat 7) (f26 : n12 = (-1)) (f27 : n13 = (-1)) (f28 : n2 ≠ n13) (f29 : n14 ≤ 2147483647) (f30 : (-2147483648) ≤ n14) (f31 : (hLe T0 H0 H1 ∧ hFr s_4.2.2.2.2 H0 H1 ∧ ((1 : Int) = 0 → H1.length = H0.length) ∧ hWt T0 H1) ∧ postb_4 n14 n11 n3 n1 n0 n12 n2 H0 H1) : postb_165 n14 n4 n3 n2 n1 n0 H0 H1 := by
  unfold postb_4 at f31
  unfold postb_165
  omega
theorem c_165_s_19 : vOkm T0 (eP e_165 L_165 A_165 mu_165 none) 5 ([(1004, [15, 12, 1, 3, 4, 13, 2], [0, 1], 1), (90, [15], [], -2147483648), (91, [15], [], 2147483647), (41, [2, 14], [], 0), (0, [14], [], -1), (0, [13], [], -1), (20, [12, 0], [0], 7), (0, [12], [], 23), (41, [1, 11], [], 0), (0, [11], [], 3), (41, [1, 10], [], 0), (0, [10], [], 1), (40, [2, 8], [], 0), (0, [8], [], -1), (45, [2, 7], [], 0), (0, [7], [], 240), (43, [2, 6], [], 0), (0, [6], [], -1), (31, [2], [], 0), (45, [1, 5], [], 0), (0, [5], [], 3), (33, [1], [], 0), (6000, [0, 1, 2, 3, 4], [0], 0), (0, [0], [], 7), (90, [1], [], -2147483648), (91, [1], [], 2147483647), (90, [2], [], -2147483648), (91, [2], [], 2147483647), (90, [3], [], -2147483648), (91, [3], [], 2147483647), (90, [4], [], -2147483648), (91, [4], [], 2147483647)], (3000, [15], [1], 104)) := vOk_in fun ρ η h => by
  obtain ⟨f0, f1, f2, f3, f4, f5, f6, f7, f8, f9, f10, f11, f12, f13, f14, f15, f16, f17, f18, f19, f20, f21, f22, f23, f24, f25, f26, f27, f28, f29, f30, f31, _⟩ := h
  exact q_165_19 (n0 := ρ 4) (n1 := ρ 3) (n2 := ρ 2) (n3 := ρ 1) (n4 := ρ 0) (n5 := ρ 5) (n6 := ρ 6) (n7 := ρ 7) (n8 := ρ 8) (n9 := ρ 10) (n10 := ρ 11) (n11 := ρ 12) (n12 := ρ 13) (n13 := ρ 14) (n14 := ρ 15) (H0 := η 0) (H1 := η 1) f31 f30 f29 f28 f27 f26 f25 f24 f23 f22 f21 f20 f19 f18 f17 f16 f15 f14 f13 f12 f11 f10 f9 f8 f7 f6 f5 f4 f3 f2 f1 f0
theorem q_165_20 {n0 n1 n2 n3 n4 n5 n6 n7 n8 n9 n10 n11 n12 n13 n14 n15 : Int} {H0 H1 : gH} (f0 : n0 ≤ 2147483647) (f1 : (-2147483648) ≤ n0) (f2 : n1 ≤ 2147483647) (f3 : (-2147483648) ≤ n1) (f4 : n2 ≤ 2147483647) (f5 : (-2147483648) ≤ n2) (f6 : n3 ≤ 2147483647) (f7 : (-2147483648) ≤ n3) (f8 : n4 = 7) (f9 : hWt T0 H0 ∧ True) (f10 : 0 ≤ n3) (f11 : n5 = 3) (f12 : n3 ≤ n5) (f13 : n2 ≠ 0) (f14 : n6 = (-1)) (f15 : n6 ≤ n2) (f16 : n7 = 240) (f17 : n2 ≤ n7) (f18 : n8 = (-1)) (f19 : n2 = n8) (f20 : n9 = 1) (f21 : n3 ≠ n9) (f22 : n10 = 3) (f23 : n3 ≠ n10) (f24 : n11 = 23) (f25 : n11 = hV H0 (n4).toNat 7) (f26 : n12 = (-1)) (f27 : n13 = (-1)) (f28 : n2 = n13) (f29 : n14 = 0) (f30 : n15 ≤ 2147483647) (f31 : (-2147483648) ≤ n15) (f32 : (hLe T0 H0 H1 ∧ hFr s_4.2.2.2.2 H0 H1 ∧ ((1 : Int) = 0 → H1.length = H0.length) ∧ hWt T0 H1) ∧ postb_4 n15 n11 n3 n1 n0 n12 n14 H0 H1) : postb_165 n15 n4 n3 n2 n1 n0 H0 H1 := by
  unfold postb_4 at f32
  unfold postb_165
  omega
theorem c_165_s_20 : vOkm T0 (eP e_165 L_165 A_165 mu_165 none) 5 ([(1004, [16, 12, 1, 3, 4, 13, 15], [0, 1], 1), (90, [16], [], -2147483648), (91, [16], [], 2147483647), (0, [15], [], 0), (40, [2, 14], [], 0), (0, [14], [], -1), (0, [13], [], -1), (20, [12, 0], [0], 7), (0, [12], [], 23), (41, [1, 11], [], 0), (0, [11], [], 3), (41, [1, 10], [], 0), (0, [10], [], 1), (40, [2, 8], [], 0), (0, [8], [], -1), (45, [2, 7], [], 0), (0, [7], [], 240), (43, [2, 6], [], 0), (0, [6], [], -1), (31, [2], [], 0), (45, [1, 5], [], 0), (0, [5], [], 3), (33, [1], [], 0), (6000, [0, 1, 2, 3, 4], [0], 0), (0, [0], [], 7), (90, [1], [], -2147483648), (91, [1], [], 2147483647), (90, [2], [], -2147483648), (91, [2], [], 2147483647), (90, [3], [], -2147483648), (91, [3], [], 2147483647), (90, [4], [], -2147483648), (91, [4], [], 2147483647)], (3000, [16], [1], 104)) := vOk_in fun ρ η h => by
  obtain ⟨f0, f1, f2, f3, f4, f5, f6, f7, f8, f9, f10, f11, f12, f13, f14, f15, f16, f17, f18, f19, f20, f21, f22, f23, f24, f25, f26, f27, f28, f29, f30, f31, f32, _⟩ := h
  exact q_165_20 (n0 := ρ 4) (n1 := ρ 3) (n2 := ρ 2) (n3 := ρ 1) (n4 := ρ 0) (n5 := ρ 5) (n6 := ρ 6) (n7 := ρ 7) (n8 := ρ 8) (n9 := ρ 10) (n10 := ρ 11) (n11 := ρ 12) (n12 := ρ 13) (n13 := ρ 14) (n14 := ρ 15) (n15 := ρ 16) (H0 := η 0) (H1 := η 1) f32 f31 f30 f29 f28 f27 f26 f25 f24 f23 f22 f21 f20 f19 f18 f17 f16 f15 f14 f13 f12 f11 f10 f9 f8 f7 f6 f5 f4 f3 f2 f1 f0
theorem q_165_21 {n0 n1 n2 n3 n4 n5 n6 n7 n8 n9 n10 n11 : Int} {H0 : gH} (f0 : n0 ≤ 2147483647) (f1 : (-2147483648) ≤ n0) (f2 : n1 ≤ 2147483647) (f3 : (-2147483648) ≤ n1) (f4 : n2 ≤ 2147483647) (f5 : (-2147483648) ≤ n2) (f6 : n3 ≤ 2147483647) (f7 : (-2147483648) ≤ n3) (f8 : n4 = 7) (f9 : hWt T0 H0 ∧ True) (f10 : 0 ≤ n3) (f11 : n5 = 3) (f12 : n3 ≤ n5) (f13 : n2 ≠ 0) (f14 : n6 = (-1)) (f15 : n6 ≤ n2) (f16 : n7 = 240) (f17 : n2 ≤ n7) (f18 : n8 = (-1)) (f19 : n2 = n8) (f20 : n9 = 1) (f21 : n3 ≠ n9) (f22 : n10 = 3) (f23 : n3 = n10) (f24 : n1 < 0) (f25 : n11 = (-1)) : postb_165 n11 n4 n3 n2 n1 n0 H0 H0 := by
  unfold postb_165
  omega
theorem c_165_s_21 : vOkm T0 (eP e_165 L_165 A_165 mu_165 none) 5 ([(0, [12], [], -1), (32, [3], [], 0), (40, [1, 11], [], 0), (0, [11], [], 3), (41, [1, 10], [], 0), (0, [10], [], 1), (40, [2, 8], [], 0), (0, [8], [], -1), (45, [2, 7], [], 0), (0, [7], [], 240), (43, [2, 6], [], 0), (0, [6], [], -1), (31, [2], [], 0), (45, [1, 5], [], 0), (0, [5], [], 3), (33, [1], [], 0), (6000, [0, 1, 2, 3, 4], [0], 0), (0, [0], [], 7), (90, [1], [], -2147483648), (91, [1], [], 2147483647), (90, [2], [], -2147483648), (91, [2], [], 2147483647), (90, [3], [], -2147483648), (91, [3], [], 2147483647), (90, [4], [], -2147483648), (91, [4], [], 2147483647)], (3000, [12], [0], 81)) := vOk_in fun ρ η h => by
  obtain ⟨f0, f1, f2, f3, f4, f5, f6, f7, f8, f9, f10, f11, f12, f13, f14, f15, f16, f17, f18, f19, f20, f21, f22, f23, f24, f25, _⟩ := h
  exact q_165_21 (n0 := ρ 4) (n1 := ρ 3) (n2 := ρ 2) (n3 := ρ 1) (n4 := ρ 0) (n5 := ρ 5) (n6 := ρ 6) (n7 := ρ 7) (n8 := ρ 8) (n9 := ρ 10) (n10 := ρ 11) (n11 := ρ 12) (H0 := η 0) f25 f24 f23 f22 f21 f20 f19 f18 f17 f16 f15 f14 f13 f12 f11 f10 f9 f8 f7 f6 f5 f4 f3 f2 f1 f0
theorem q_165_22 {n0 n1 n2 n3 n4 n5 n6 n7 n8 n9 n10 n11 n12 n13 n14 n15 : Int} {H0 H1 : gH} (f0 : n0 ≤ 2147483647) (f1 : (-2147483648) ≤ n0) (f2 : n1 ≤ 2147483647) (f3 : (-2147483648) ≤ n1) (f4 : n2 ≤ 2147483647) (f5 : (-2147483648) ≤ n2) (f6 : n3 ≤ 2147483647) (f7 : (-2147483648) ≤ n3) (f8 : n4 = 7) (f9 : hWt T0 H0 ∧ True) (f10 : 0 ≤ n3) (f11 : n5 = 3) (f12 : n3 ≤ n5) (f13 : n2 ≠ 0) (f14 : n6 = (-1)) (f15 : n6 ≤ n2) (f16 : n7 = 240) (f17 : n2 ≤ n7) (f18 : n8 = (-1)) (f19 : n2 = n8) (f20 : n9 = 1) (f21 : n3 ≠ n9) (f22 : n10 = 3) (f23 : n3 = n10) (f24 : 0 ≤ n1) (f25 : n11 = 7) (f26 : n1 ≤ n11) (f27 : n12 = 23) (f28 : n12 = hV H0 (n4).toNat 7) (f29 : n13 = (-1)) (f30 : n14 = (-1)) (f31 : n2 ≠ n14) (f32 : n15 ≤ 2147483647) (f33 : (-2147483648) ≤ n15) (f34 : (hLe T0 H0 H1 ∧ hFr s_4.2.2.2.2 H0 H1 ∧ ((1 : Int) = 0 → H1.length = H0.length) ∧ hWt T0 H1) ∧ postb_4 n15 n12 n3 n1 n0 n13 n2 H0 H1) : postb_165 n15 n4 n3 n2 n1 n0 H0 H1 := by
  unfold postb_4 at f34
  unfold postb_165
  omega
theorem c_165_s_22 : vOkm T0 (eP e_165 L_165 A_165 mu_165 none) 5 ([(1004, [16, 13, 1, 3, 4, 14, 2], [0, 1], 1), (90, [16], [], -2147483648), (91, [16], [], 2147483647), (41, [2, 15], [], 0), (0, [15], [], -1), (0, [14], [], -1), (20, [13, 0], [0], 7), (0, [13], [], 23), (45, [3, 12], [], 0), (0, [12], [], 7), (33, [3], [], 0), (40, [1, 11], [], 0), (0, [11], [], 3), (41, [1, 10], [], 0), (0, [10], [], 1), (40, [2, 8], [], 0), (0, [8], [], -1), (45, [2, 7], [], 0), (0, [7], [], 240), (43, [2, 6], [], 0), (0, [6], [], -1), (31, [2], [], 0), (45, [1, 5], [], 0), (0, [5], [], 3), (33, [1], [], 0), (6000, [0, 1, 2, 3, 4], [0], 0), (0, [0], [], 7), (90, [1], [], -2147483648), (91, [1], [], 2147483647), (90, [2], [], -2147483648), (91, [2], [], 2147483647), (90, [3], [], -2147483648), (91, [3], [], 2147483647), (90, [4], [], -2147483648), (91, [4], [], 2147483647)], (3000, [16], [1], 104)) := vOk_in fun ρ η h => by
  obtain ⟨f0, f1, f2, f3, f4, f5, f6, f7, f8, f9, f10, f11, f12, f13, f14, f15, f16, f17, f18, f19, f20, f21, f22, f23, f24, f25, f26, f27, f28, f29, f30, f31, f32, f33, f34, _⟩ := h
  exact q_165_22 (n0 := ρ 4) (n1 := ρ 3) (n2 := ρ 2) (n3 := ρ 1) (n4 := ρ 0) (n5 := ρ 5) (n6 := ρ 6) (n7 := ρ 7) (n8 := ρ 8) (n9 := ρ 10) (n10 := ρ 11) (n11 := ρ 12) (n12 := ρ 13) (n13 := ρ 14) (n14 := ρ 15) (n15 := ρ 16) (H0 := η 0) (H1 := η 1) f34 f33 f32 f31 f30 f29 f28 f27 f26 f25 f24 f23 f22 f21 f20 f19 f18 f17 f16 f15 f14 f13 f12 f11 f10 f9 f8 f7 f6 f5 f4 f3 f2 f1 f0
theorem q_165_23 {n0 n1 n2 n3 n4 n5 n6 n7 n8 n9 n10 n11 n12 n13 n14 n15 n16 : Int} {H0 H1 : gH} (f0 : n0 ≤ 2147483647) (f1 : (-2147483648) ≤ n0) (f2 : n1 ≤ 2147483647) (f3 : (-2147483648) ≤ n1) (f4 : n2 ≤ 2147483647) (f5 : (-2147483648) ≤ n2) (f6 : n3 ≤ 2147483647) (f7 : (-2147483648) ≤ n3) (f8 : n4 = 7) (f9 : hWt T0 H0 ∧ True) (f10 : 0 ≤ n3) (f11 : n5 = 3) (f12 : n3 ≤ n5) (f13 : n2 ≠ 0) (f14 : n6 = (-1)) (f15 : n6 ≤ n2) (f16 : n7 = 240) (f17 : n2 ≤ n7) (f18 : n8 = (-1)) (f19 : n2 = n8) (f20 : n9 = 1) (f21 : n3 ≠ n9) (f22 : n10 = 3) (f23 : n3 = n10) (f24 : 0 ≤ n1) (f25 : n11 = 7) (f26 : n1 ≤ n11) (f27 : n12 = 23) (f28 : n12 = hV H0 (n4).toNat 7) (f29 : n13 = (-1)) (f30 : n14 = (-1)) (f31 : n2 = n14) (f32 : n15 = 0) (f33 : n16 ≤ 2147483647) (f34 : (-2147483648) ≤ n16) (f35 : (hLe T0 H0 H1 ∧ hFr s_4.2.2.2.2 H0 H1 ∧ ((1 : Int) = 0 → H1.length = H0.length) ∧ hWt T0 H1) ∧ postb_4 n16 n12 n3 n1 n0 n13 n15 H0 H1) : postb_165 n16 n4 n3 n2 n1 n0 H0 H1 := by
  unfold postb_4 at f35
  unfold postb_165
  omega
theorem c_165_s_23 : vOkm T0 (eP e_165 L_165 A_165 mu_165 none) 5 ([(1004, [17, 13, 1, 3, 4, 14, 16], [0, 1], 1), (90, [17], [], -2147483648), (91, [17], [], 2147483647), (0, [16], [], 0), (40, [2, 15], [], 0), (0, [15], [], -1), (0, [14], [], -1), (20, [13, 0], [0], 7), (0, [13], [], 23), (45, [3, 12], [], 0), (0, [12], [], 7), (33, [3], [], 0), (40, [1, 11], [], 0), (0, [11], [], 3), (41, [1, 10], [], 0), (0, [10], [], 1), (40, [2, 8], [], 0), (0, [8], [], -1), (45, [2, 7], [], 0), (0, [7], [], 240), (43, [2, 6], [], 0), (0, [6], [], -1), (31, [2], [], 0), (45, [1, 5], [], 0), (0, [5], [], 3), (33, [1], [], 0), (6000, [0, 1, 2, 3, 4], [0], 0), (0, [0], [], 7), (90, [1], [], -2147483648), (91, [1], [], 2147483647), (90, [2], [], -2147483648), (91, [2], [], 2147483647), (90, [3], [], -2147483648), (91, [3], [], 2147483647), (90, [4], [], -2147483648), (91, [4], [], 2147483647)], (3000, [17], [1], 104)) := vOk_in fun ρ η h => by
  obtain ⟨f0, f1, f2, f3, f4, f5, f6, f7, f8, f9, f10, f11, f12, f13, f14, f15, f16, f17, f18, f19, f20, f21, f22, f23, f24, f25, f26, f27, f28, f29, f30, f31, f32, f33, f34, f35, _⟩ := h
  exact q_165_23 (n0 := ρ 4) (n1 := ρ 3) (n2 := ρ 2) (n3 := ρ 1) (n4 := ρ 0) (n5 := ρ 5) (n6 := ρ 6) (n7 := ρ 7) (n8 := ρ 8) (n9 := ρ 10) (n10 := ρ 11) (n11 := ρ 12) (n12 := ρ 13) (n13 := ρ 14) (n14 := ρ 15) (n15 := ρ 16) (n16 := ρ 17) (H0 := η 0) (H1 := η 1) f35 f34 f33 f32 f31 f30 f29 f28 f27 f26 f25 f24 f23 f22 f21 f20 f19 f18 f17 f16 f15 f14 f13 f12 f11 f10 f9 f8 f7 f6 f5 f4 f3 f2 f1 f0
theorem q_165_24 {n0 n1 n2 n3 n4 n5 n6 n7 n8 n9 n10 n11 n12 : Int} {H0 : gH} (f0 : n0 ≤ 2147483647) (f1 : (-2147483648) ≤ n0) (f2 : n1 ≤ 2147483647) (f3 : (-2147483648) ≤ n1) (f4 : n2 ≤ 2147483647) (f5 : (-2147483648) ≤ n2) (f6 : n3 ≤ 2147483647) (f7 : (-2147483648) ≤ n3) (f8 : n4 = 7) (f9 : hWt T0 H0 ∧ True) (f10 : 0 ≤ n3) (f11 : n5 = 3) (f12 : n3 ≤ n5) (f13 : n2 ≠ 0) (f14 : n6 = (-1)) (f15 : n6 ≤ n2) (f16 : n7 = 240) (f17 : n2 ≤ n7) (f18 : n8 = (-1)) (f19 : n2 = n8) (f20 : n9 = 1) (f21 : n3 ≠ n9) (f22 : n10 = 3) (f23 : n3 = n10) (f24 : 0 ≤ n1) (f25 : n11 = 7) (f26 : n11 < n1) (f27 : n12 = (-1)) : postb_165 n12 n4 n3 n2 n1 n0 H0 H0 := by
  unfold postb_165
  omega
theorem c_165_s_24 : vOkm T0 (eP e_165 L_165 A_165 mu_165 none) 5 ([(0, [13], [], -1), (44, [3, 12], [], 0), (0, [12], [], 7), (33, [3], [], 0), (40, [1, 11], [], 0), (0, [11], [], 3), (41, [1, 10], [], 0), (0, [10], [], 1), (40, [2, 8], [], 0), (0, [8], [], -1), (45, [2, 7], [], 0), (0, [7], [], 240), (43, [2, 6], [], 0), (0, [6], [], -1), (31, [2], [], 0), (45, [1, 5], [], 0), (0, [5], [], 3), (33, [1], [], 0), (6000, [0, 1, 2, 3, 4], [0], 0), (0, [0], [], 7), (90, [1], [], -2147483648), (91, [1], [], 2147483647), (90, [2], [], -2147483648), (91, [2], [], 2147483647), (90, [3], [], -2147483648), (91, [3], [], 2147483647), (90, [4], [], -2147483648), (91, [4], [], 2147483647)], (3000, [13], [0], 81)) := vOk_in fun ρ η h => by
  obtain ⟨f0, f1, f2, f3, f4, f5, f6, f7, f8, f9, f10, f11, f12, f13, f14, f15, f16, f17, f18, f19, f20, f21, f22, f23, f24, f25, f26, f27, _⟩ := h
  exact q_165_24 (n0 := ρ 4) (n1 := ρ 3) (n2 := ρ 2) (n3 := ρ 1) (n4 := ρ 0) (n5 := ρ 5) (n6 := ρ 6) (n7 := ρ 7) (n8 := ρ 8) (n9 := ρ 10) (n10 := ρ 11) (n11 := ρ 12) (n12 := ρ 13) (H0 := η 0) f27 f26 f25 f24 f23 f22 f21 f20 f19 f18 f17 f16 f15 f14 f13 f12 f11 f10 f9 f8 f7 f6 f5 f4 f3 f2 f1 f0
theorem q_165_25 {n0 n1 n2 n3 n4 n5 n6 n7 n8 n9 n10 : Int} {H0 : gH} (f0 : n0 ≤ 2147483647) (f1 : (-2147483648) ≤ n0) (f2 : n1 ≤ 2147483647) (f3 : (-2147483648) ≤ n1) (f4 : n2 ≤ 2147483647) (f5 : (-2147483648) ≤ n2) (f6 : n3 ≤ 2147483647) (f7 : (-2147483648) ≤ n3) (f8 : n4 = 7) (f9 : hWt T0 H0 ∧ True) (f10 : 0 ≤ n3) (f11 : n5 = 3) (f12 : n3 ≤ n5) (f13 : n2 ≠ 0) (f14 : n6 = (-1)) (f15 : n6 ≤ n2) (f16 : n7 = 240) (f17 : n2 ≤ n7) (f18 : n8 = (-1)) (f19 : n2 = n8) (f20 : n9 = 1) (f21 : n3 = n9) (f22 : n1 < 0) (f23 : n10 = (-1)) : postb_165 n10 n4 n3 n2 n1 n0 H0 H0 := by
  unfold postb_165
  omega
theorem c_165_s_25 : vOkm T0 (eP e_165 L_165 A_165 mu_165 none) 5 ([(0, [11], [], -1), (32, [3], [], 0), (40, [1, 10], [], 0), (0, [10], [], 1), (40, [2, 8], [], 0), (0, [8], [], -1), (45, [2, 7], [], 0), (0, [7], [], 240), (43, [2, 6], [], 0), (0, [6], [], -1), (31, [2], [], 0), (45, [1, 5], [], 0), (0, [5], [], 3), (33, [1], [], 0), (6000, [0, 1, 2, 3, 4], [0], 0), (0, [0], [], 7), (90, [1], [], -2147483648), (91, [1], [], 2147483647), (90, [2], [], -2147483648), (91, [2], [], 2147483647), (90, [3], [], -2147483648), (91, [3], [], 2147483647), (90, [4], [], -2147483648), (91, [4], [], 2147483647)], (3000, [11], [0], 64)) := vOk_in fun ρ η h => by
  obtain ⟨f0, f1, f2, f3, f4, f5, f6, f7, f8, f9, f10, f11, f12, f13, f14, f15, f16, f17, f18, f19, f20, f21, f22, f23, _⟩ := h
  exact q_165_25 (n0 := ρ 4) (n1 := ρ 3) (n2 := ρ 2) (n3 := ρ 1) (n4 := ρ 0) (n5 := ρ 5) (n6 := ρ 6) (n7 := ρ 7) (n8 := ρ 8) (n9 := ρ 10) (n10 := ρ 11) (H0 := η 0) f23 f22 f21 f20 f19 f18 f17 f16 f15 f14 f13 f12 f11 f10 f9 f8 f7 f6 f5 f4 f3 f2 f1 f0
theorem q_165_26 {n0 n1 n2 n3 n4 n5 n6 n7 n8 n9 n10 : Int} {H0 : gH} (f0 : n0 ≤ 2147483647) (f1 : (-2147483648) ≤ n0) (f2 : n1 ≤ 2147483647) (f3 : (-2147483648) ≤ n1) (f4 : n2 ≤ 2147483647) (f5 : (-2147483648) ≤ n2) (f6 : n3 ≤ 2147483647) (f7 : (-2147483648) ≤ n3) (f8 : n4 = 7) (f9 : hWt T0 H0 ∧ True) (f10 : 0 ≤ n3) (f11 : n5 = 3) (f12 : n3 ≤ n5) (f13 : n2 ≠ 0) (f14 : n6 = (-1)) (f15 : n6 ≤ n2) (f16 : n7 = 240) (f17 : n2 ≤ n7) (f18 : n8 = (-1)) (f19 : n2 = n8) (f20 : n9 = 1) (f21 : n3 = n9) (f22 : 0 ≤ n1) (f23 : n0 ≤ n1) (f24 : n10 = (-1)) : postb_165 n10 n4 n3 n2 n1 n0 H0 H0 := by
  unfold postb_165
  omega
theorem c_165_s_26 : vOkm T0 (eP e_165 L_165 A_165 mu_165 none) 5 ([(0, [11], [], -1), (45, [4, 3], [], 0), (33, [3], [], 0), (40, [1, 10], [], 0), (0, [10], [], 1), (40, [2, 8], [], 0), (0, [8], [], -1), (45, [2, 7], [], 0), (0, [7], [], 240), (43, [2, 6], [], 0), (0, [6], [], -1), (31, [2], [], 0), (45, [1, 5], [], 0), (0, [5], [], 3), (33, [1], [], 0), (6000, [0, 1, 2, 3, 4], [0], 0), (0, [0], [], 7), (90, [1], [], -2147483648), (91, [1], [], 2147483647), (90, [2], [], -2147483648), (91, [2], [], 2147483647), (90, [3], [], -2147483648), (91, [3], [], 2147483647), (90, [4], [], -2147483648), (91, [4], [], 2147483647)], (3000, [11], [0], 64)) := vOk_in fun ρ η h => by
  obtain ⟨f0, f1, f2, f3, f4, f5, f6, f7, f8, f9, f10, f11, f12, f13, f14, f15, f16, f17, f18, f19, f20, f21, f22, f23, f24, _⟩ := h
  exact q_165_26 (n0 := ρ 4) (n1 := ρ 3) (n2 := ρ 2) (n3 := ρ 1) (n4 := ρ 0) (n5 := ρ 5) (n6 := ρ 6) (n7 := ρ 7) (n8 := ρ 8) (n9 := ρ 10) (n10 := ρ 11) (H0 := η 0) f24 f23 f22 f21 f20 f19 f18 f17 f16 f15 f14 f13 f12 f11 f10 f9 f8 f7 f6 f5 f4 f3 f2 f1 f0
theorem q_165_27 {n0 n1 n2 n3 n4 n5 n6 n7 n8 n9 n10 n11 n12 n13 n14 n15 : Int} {H0 H1 : gH} (f0 : n0 ≤ 2147483647) (f1 : (-2147483648) ≤ n0) (f2 : n1 ≤ 2147483647) (f3 : (-2147483648) ≤ n1) (f4 : n2 ≤ 2147483647) (f5 : (-2147483648) ≤ n2) (f6 : n3 ≤ 2147483647) (f7 : (-2147483648) ≤ n3) (f8 : n4 = 7) (f9 : hWt T0 H0 ∧ True) (f10 : 0 ≤ n3) (f11 : n5 = 3) (f12 : n3 ≤ n5) (f13 : n2 ≠ 0) (f14 : n6 = (-1)) (f15 : n6 ≤ n2) (f16 : n7 = 240) (f17 : n2 ≤ n7) (f18 : n8 = (-1)) (f19 : n2 = n8) (f20 : n9 = 240) (f21 : n10 = 1) (f22 : n3 = n10) (f23 : 0 ≤ n1) (f24 : n1 < n0) (f25 : n0 ≤ n9) (f26 : n11 = 3) (f27 : n3 ≠ n11) (f28 : n12 = 23) (f29 : n12 = hV H0 (n4).toNat 7) (f30 : n13 = (-1)) (f31 : n14 = (-1)) (f32 : n2 ≠ n14) (f33 : n15 ≤ 2147483647) (f34 : (-2147483648) ≤ n15) (f35 : (hLe T0 H0 H1 ∧ hFr s_4.2.2.2.2 H0 H1 ∧ ((1 : Int) = 0 → H1.length = H0.length) ∧ hWt T0 H1) ∧ postb_4 n15 n12 n3 n1 n0 n13 n2 H0 H1) : postb_165 n15 n4 n3 n2 n1 n0 H0 H1 := by
  unfold postb_4 at f35
  unfold postb_165
  omega
theorem c_165_s_27 : vOkm T0 (eP e_165 L_165 A_165 mu_165 none) 5 ([(1004, [15, 12, 1, 3, 4, 13, 2], [0, 1], 1), (90, [15], [], -2147483648), (91, [15], [], 2147483647), (41, [2, 14], [], 0), (0, [14], [], -1), (0, [13], [], -1), (20, [12, 0], [0], 7), (0, [12], [], 23), (41, [1, 11], [], 0), (0, [11], [], 3), (45, [4, 9], [], 0), (44, [4, 3], [], 0), (33, [3], [], 0), (40, [1, 10], [], 0), (0, [10], [], 1), (0, [9], [], 240), (40, [2, 8], [], 0), (0, [8], [], -1), (45, [2, 7], [], 0), (0, [7], [], 240), (43, [2, 6], [], 0), (0, [6], [], -1), (31, [2], [], 0), (45, [1, 5], [], 0), (0, [5], [], 3), (33, [1], [], 0), (6000, [0, 1, 2, 3, 4], [0], 0), (0, [0], [], 7), (90, [1], [], -2147483648), (91, [1], [], 2147483647), (90, [2], [], -2147483648), (91, [2], [], 2147483647), (90, [3], [], -2147483648), (91, [3], [], 2147483647), (90, [4], [], -2147483648), (91, [4], [], 2147483647)], (3000, [15], [1], 104)) := vOk_in fun ρ η h => by
  obtain ⟨f0, f1, f2, f3, f4, f5, f6, f7, f8, f9, f10, f11, f12, f13, f14, f15, f16, f17, f18, f19, f20, f21, f22, f23, f24, f25, f26, f27, f28, f29, f30, f31, f32, f33, f34, f35, _⟩ := h
  exact q_165_27 (n0 := ρ 4) (n1 := ρ 3) (n2 := ρ 2) (n3 := ρ 1) (n4 := ρ 0) (n5 := ρ 5) (n6 := ρ 6) (n7 := ρ 7) (n8 := ρ 8) (n9 := ρ 9) (n10 := ρ 10) (n11 := ρ 11) (n12 := ρ 12) (n13 := ρ 13) (n14 := ρ 14) (n15 := ρ 15) (H0 := η 0) (H1 := η 1) f35 f34 f33 f32 f31 f30 f29 f28 f27 f26 f25 f24 f23 f22 f21 f20 f19 f18 f17 f16 f15 f14 f13 f12 f11 f10 f9 f8 f7 f6 f5 f4 f3 f2 f1 f0
theorem q_165_28 {n0 n1 n2 n3 n4 n5 n6 n7 n8 n9 n10 n11 n12 n13 n14 n15 n16 : Int} {H0 H1 : gH} (f0 : n0 ≤ 2147483647) (f1 : (-2147483648) ≤ n0) (f2 : n1 ≤ 2147483647) (f3 : (-2147483648) ≤ n1) (f4 : n2 ≤ 2147483647) (f5 : (-2147483648) ≤ n2) (f6 : n3 ≤ 2147483647) (f7 : (-2147483648) ≤ n3) (f8 : n4 = 7) (f9 : hWt T0 H0 ∧ True) (f10 : 0 ≤ n3) (f11 : n5 = 3) (f12 : n3 ≤ n5) (f13 : n2 ≠ 0) (f14 : n6 = (-1)) (f15 : n6 ≤ n2) (f16 : n7 = 240) (f17 : n2 ≤ n7) (f18 : n8 = (-1)) (f19 : n2 = n8) (f20 : n9 = 240) (f21 : n10 = 1) (f22 : n3 = n10) (f23 : 0 ≤ n1) (f24 : n1 < n0) (f25 : n0 ≤ n9) (f26 : n11 = 3) (f27 : n3 ≠ n11) (f28 : n12 = 23) (f29 : n12 = hV H0 (n4).toNat 7) (f30 : n13 = (-1)) (f31 : n14 = (-1)) (f32 : n2 = n14) (f33 : n15 = 0) (f34 : n16 ≤ 2147483647) (f35 : (-2147483648) ≤ n16) (f36 : (hLe T0 H0 H1 ∧ hFr s_4.2.2.2.2 H0 H1 ∧ ((1 : Int) = 0 → H1.length = H0.length) ∧ hWt T0 H1) ∧ postb_4 n16 n12 n3 n1 n0 n13 n15 H0 H1) : postb_165 n16 n4 n3 n2 n1 n0 H0 H1 := by
  unfold postb_4 at f36
  unfold postb_165
  omega
theorem c_165_s_28 : vOkm T0 (eP e_165 L_165 A_165 mu_165 none) 5 ([(1004, [16, 12, 1, 3, 4, 13, 15], [0, 1], 1), (90, [16], [], -2147483648), (91, [16], [], 2147483647), (0, [15], [], 0), (40, [2, 14], [], 0), (0, [14], [], -1), (0, [13], [], -1), (20, [12, 0], [0], 7), (0, [12], [], 23), (41, [1, 11], [], 0), (0, [11], [], 3), (45, [4, 9], [], 0), (44, [4, 3], [], 0), (33, [3], [], 0), (40, [1, 10], [], 0), (0, [10], [], 1), (0, [9], [], 240), (40, [2, 8], [], 0), (0, [8], [], -1), (45, [2, 7], [], 0), (0, [7], [], 240), (43, [2, 6], [], 0), (0, [6], [], -1), (31, [2], [], 0), (45, [1, 5], [], 0), (0, [5], [], 3), (33, [1], [], 0), (6000, [0, 1, 2, 3, 4], [0], 0), (0, [0], [], 7), (90, [1], [], -2147483648), (91, [1], [], 2147483647), (90, [2], [], -2147483648), (91, [2], [], 2147483647), (90, [3], [], -2147483648), (91, [3], [], 2147483647), (90, [4], [], -2147483648), (91, [4], [], 2147483647)], (3000, [16], [1], 104)) := vOk_in fun ρ η h => by
  obtain ⟨f0, f1, f2, f3, f4, f5, f6, f7, f8, f9, f10, f11, f12, f13, f14, f15, f16, f17, f18, f19, f20, f21, f22, f23, f24, f25, f26, f27, f28, f29, f30, f31, f32, f33, f34, f35, f36, _⟩ := h
  exact q_165_28 (n0 := ρ 4) (n1 := ρ 3) (n2 := ρ 2) (n3 := ρ 1) (n4 := ρ 0) (n5 := ρ 5) (n6 := ρ 6) (n7 := ρ 7) (n8 := ρ 8) (n9 := ρ 9) (n10 := ρ 10) (n11 := ρ 11) (n12 := ρ 12) (n13 := ρ 13) (n14 := ρ 14) (n15 := ρ 15) (n16 := ρ 16) (H0 := η 0) (H1 := η 1) f36 f35 f34 f33 f32 f31 f30 f29 f28 f27 f26 f25 f24 f23 f22 f21 f20 f19 f18 f17 f16 f15 f14 f13 f12 f11 f10 f9 f8 f7 f6 f5 f4 f3 f2 f1 f0
theorem q_165_29 {n0 n1 n2 n3 n4 n5 n6 n7 n8 n9 n10 n11 n12 : Int} {H0 : gH} (f0 : n0 ≤ 2147483647) (f1 : (-2147483648) ≤ n0) (f2 : n1 ≤ 2147483647) (f3 : (-2147483648) ≤ n1) (f4 : n2 ≤ 2147483647) (f5 : (-2147483648) ≤ n2) (f6 : n3 ≤ 2147483647) (f7 : (-2147483648) ≤ n3) (f8 : n4 = 7) (f9 : hWt T0 H0 ∧ True) (f10 : 0 ≤ n3) (f11 : n5 = 3) (f12 : n3 ≤ n5) (f13 : n2 ≠ 0) (f14 : n6 = (-1)) (f15 : n6 ≤ n2) (f16 : n7 = 240) (f17 : n2 ≤ n7) (f18 : n8 = (-1)) (f19 : n2 = n8) (f20 : n9 = 240) (f21 : n10 = 1) (f22 : n3 = n10) (f23 : 0 ≤ n1) (f24 : n1 < n0) (f25 : n0 ≤ n9) (f26 : n11 = 3) (f27 : n3 = n11) (f28 : n1 < 0) (f29 : n12 = (-1)) : postb_165 n12 n4 n3 n2 n1 n0 H0 H0 := by
  unfold postb_165
  omega
theorem c_165_s_29 : vOkm T0 (eP e_165 L_165 A_165 mu_165 none) 5 ([(0, [12], [], -1), (32, [3], [], 0), (40, [1, 11], [], 0), (0, [11], [], 3), (45, [4, 9], [], 0), (44, [4, 3], [], 0), (33, [3], [], 0), (40, [1, 10], [], 0), (0, [10], [], 1), (0, [9], [], 240), (40, [2, 8], [], 0), (0, [8], [], -1), (45, [2, 7], [], 0), (0, [7], [], 240), (43, [2, 6], [], 0), (0, [6], [], -1), (31, [2], [], 0), (45, [1, 5], [], 0), (0, [5], [], 3), (33, [1], [], 0), (6000, [0, 1, 2, 3, 4], [0], 0), (0, [0], [], 7), (90, [1], [], -2147483648), (91, [1], [], 2147483647), (90, [2], [], -2147483648), (91, [2], [], 2147483647), (90, [3], [], -2147483648), (91, [3], [], 2147483647), (90, [4], [], -2147483648), (91, [4], [], 2147483647)], (3000, [12], [0], 81)) := vOk_in fun ρ η h => by
  obtain ⟨f0, f1, f2, f3, f4, f5, f6, f7, f8, f9, f10, f11, f12, f13, f14, f15, f16, f17, f18, f19, f20, f21, f22, f23, f24, f25, f26, f27, f28, f29, _⟩ := h
  exact q_165_29 (n0 := ρ 4) (n1 := ρ 3) (n2 := ρ 2) (n3 := ρ 1) (n4 := ρ 0) (n5 := ρ 5) (n6 := ρ 6) (n7 := ρ 7) (n8 := ρ 8) (n9 := ρ 9) (n10 := ρ 10) (n11 := ρ 11) (n12 := ρ 12) (H0 := η 0) f29 f28 f27 f26 f25 f24 f23 f22 f21 f20 f19 f18 f17 f16 f15 f14 f13 f12 f11 f10 f9 f8 f7 f6 f5 f4 f3 f2 f1 f0
theorem q_165_30 {n0 n1 n2 n3 n4 n5 n6 n7 n8 n9 n10 n11 n12 n13 n14 n15 n16 : Int} {H0 H1 : gH} (f0 : n0 ≤ 2147483647) (f1 : (-2147483648) ≤ n0) (f2 : n1 ≤ 2147483647) (f3 : (-2147483648) ≤ n1) (f4 : n2 ≤ 2147483647) (f5 : (-2147483648) ≤ n2) (f6 : n3 ≤ 2147483647) (f7 : (-2147483648) ≤ n3) (f8 : n4 = 7) (f9 : hWt T0 H0 ∧ True) (f10 : 0 ≤ n3) (f11 : n5 = 3) (f12 : n3 ≤ n5) (f13 : n2 ≠ 0) (f14 : n6 = (-1)) (f15 : n6 ≤ n2) (f16 : n7 = 240) (f17 : n2 ≤ n7) (f18 : n8 = (-1)) (f19 : n2 = n8) (f20 : n9 = 240) (f21 : n10 = 1) (f22 : n3 = n10) (f23 : 0 ≤ n1) (f24 : n1 < n0) (f25 : n0 ≤ n9) (f26 : n11 = 3) (f27 : n3 = n11) (f28 : 0 ≤ n1) (f29 : n12 = 7) (f30 : n1 ≤ n12) (f31 : n13 = 23) (f32 : n13 = hV H0 (n4).toNat 7) (f33 : n14 = (-1)) (f34 : n15 = (-1)) (f35 : n2 ≠ n15) (f36 : n16 ≤ 2147483647) (f37 : (-2147483648) ≤ n16) (f38 : (hLe T0 H0 H1 ∧ hFr s_4.2.2.2.2 H0 H1 ∧ ((1 : Int) = 0 → H1.length = H0.length) ∧ hWt T0 H1) ∧ postb_4 n16 n13 n3 n1 n0 n14 n2 H0 H1) : postb_165 n16 n4 n3 n2 n1 n0 H0 H1 := by
  unfold postb_4 at f38
  unfold postb_165
  omega
theorem c_165_s_30 : vOkm T0 (eP e_165 L_165 A_165 mu_165 none) 5 ([(1004, [16, 13, 1, 3, 4, 14, 2], [0, 1], 1), (90, [16], [], -2147483648), (91, [16], [], 2147483647), (41, [2, 15], [], 0), (0, [15], [], -1), (0, [14], [], -1), (20, [13, 0], [0], 7), (0, [13], [], 23), (45, [3, 12], [], 0), (0, [12], [], 7), (33, [3], [], 0), (40, [1, 11], [], 0), (0, [11], [], 3), (45, [4, 9], [], 0), (44, [4, 3], [], 0), (33, [3], [], 0), (40, [1, 10], [], 0), (0, [10], [], 1), (0, [9], [], 240), (40, [2, 8], [], 0), (0, [8], [], -1), (45, [2, 7], [], 0), (0, [7], [], 240), (43, [2, 6], [], 0), (0, [6], [], -1), (31, [2], [], 0), (45, [1, 5], [], 0), (0, [5], [], 3), (33, [1], [], 0), (6000, [0, 1, 2, 3, 4], [0], 0), (0, [0], [], 7), (90, [1], [], -2147483648), (91, [1], [], 2147483647), (90, [2], [], -2147483648), (91, [2], [], 2147483647), (90, [3], [], -2147483648), (91, [3], [], 2147483647), (90, [4], [], -2147483648), (91, [4], [], 2147483647)], (3000, [16], [1], 104)) := vOk_in fun ρ η h => by
  obtain ⟨f0, f1, f2, f3, f4, f5, f6, f7, f8, f9, f10, f11, f12, f13, f14, f15, f16, f17, f18, f19, f20, f21, f22, f23, f24, f25, f26, f27, f28, f29, f30, f31, f32, f33, f34, f35, f36, f37, f38, _⟩ := h
  exact q_165_30 (n0 := ρ 4) (n1 := ρ 3) (n2 := ρ 2) (n3 := ρ 1) (n4 := ρ 0) (n5 := ρ 5) (n6 := ρ 6) (n7 := ρ 7) (n8 := ρ 8) (n9 := ρ 9) (n10 := ρ 10) (n11 := ρ 11) (n12 := ρ 12) (n13 := ρ 13) (n14 := ρ 14) (n15 := ρ 15) (n16 := ρ 16) (H0 := η 0) (H1 := η 1) f38 f37 f36 f35 f34 f33 f32 f31 f30 f29 f28 f27 f26 f25 f24 f23 f22 f21 f20 f19 f18 f17 f16 f15 f14 f13 f12 f11 f10 f9 f8 f7 f6 f5 f4 f3 f2 f1 f0
theorem q_165_31 {n0 n1 n2 n3 n4 n5 n6 n7 n8 n9 n10 n11 n12 n13 n14 n15 n16 n17 : Int} {H0 H1 : gH} (f0 : n0 ≤ 2147483647) (f1 : (-2147483648) ≤ n0) (f2 : n1 ≤ 2147483647) (f3 : (-2147483648) ≤ n1) (f4 : n2 ≤ 2147483647) (f5 : (-2147483648) ≤ n2) (f6 : n3 ≤ 2147483647) (f7 : (-2147483648) ≤ n3) (f8 : n4 = 7) (f9 : hWt T0 H0 ∧ True) (f10 : 0 ≤ n3) (f11 : n5 = 3) (f12 : n3 ≤ n5) (f13 : n2 ≠ 0) (f14 : n6 = (-1)) (f15 : n6 ≤ n2) (f16 : n7 = 240) (f17 : n2 ≤ n7) (f18 : n8 = (-1)) (f19 : n2 = n8) (f20 : n9 = 240) (f21 : n10 = 1) (f22 : n3 = n10) (f23 : 0 ≤ n1) (f24 : n1 < n0) (f25 : n0 ≤ n9) (f26 : n11 = 3) (f27 : n3 = n11) (f28 : 0 ≤ n1) (f29 : n12 = 7) (f30 : n1 ≤ n12) (f31 : n13 = 23) (f32 : n13 = hV H0 (n4).toNat 7) (f33 : n14 = (-1)) (f34 : n15 = (-1)) (f35 : n2 = n15) (f36 : n16 = 0) (f37 : n17 ≤ 2147483647) (f38 : (-2147483648) ≤ n17) (f39 : (hLe T0 H0 H1 ∧ hFr s_4.2.2.2.2 H0 H1 ∧ ((1 : Int) = 0 → H1.length = H0.length) ∧ hWt T0 H1) ∧ postb_4 n17 n13 n3 n1 n0 n14 n16 H0 H1) : postb_165 n17 n4 n3 n2 n1 n0 H0 H1 := by
  unfold postb_4 at f39
  unfold postb_165
  omega
theorem c_165_s_31 : vOkm T0 (eP e_165 L_165 A_165 mu_165 none) 5 ([(1004, [17, 13, 1, 3, 4, 14, 16], [0, 1], 1), (90, [17], [], -2147483648), (91, [17], [], 2147483647), (0, [16], [], 0), (40, [2, 15], [], 0), (0, [15], [], -1), (0, [14], [], -1), (20, [13, 0], [0], 7), (0, [13], [], 23), (45, [3, 12], [], 0), (0, [12], [], 7), (33, [3], [], 0), (40, [1, 11], [], 0), (0, [11], [], 3), (45, [4, 9], [], 0), (44, [4, 3], [], 0), (33, [3], [], 0), (40, [1, 10], [], 0), (0, [10], [], 1), (0, [9], [], 240), (40, [2, 8], [], 0), (0, [8], [], -1), (45, [2, 7], [], 0), (0, [7], [], 240), (43, [2, 6], [], 0), (0, [6], [], -1), (31, [2], [], 0), (45, [1, 5], [], 0), (0, [5], [], 3), (33, [1], [], 0), (6000, [0, 1, 2, 3, 4], [0], 0), (0, [0], [], 7), (90, [1], [], -2147483648), (91, [1], [], 2147483647), (90, [2], [], -2147483648), (91, [2], [], 2147483647), (90, [3], [], -2147483648), (91, [3], [], 2147483647), (90, [4], [], -2147483648), (91, [4], [], 2147483647)], (3000, [17], [1], 104)) := vOk_in fun ρ η h => by
  obtain ⟨f0, f1, f2, f3, f4, f5, f6, f7, f8, f9, f10, f11, f12, f13, f14, f15, f16, f17, f18, f19, f20, f21, f22, f23, f24, f25, f26, f27, f28, f29, f30, f31, f32, f33, f34, f35, f36, f37, f38, f39, _⟩ := h
  exact q_165_31 (n0 := ρ 4) (n1 := ρ 3) (n2 := ρ 2) (n3 := ρ 1) (n4 := ρ 0) (n5 := ρ 5) (n6 := ρ 6) (n7 := ρ 7) (n8 := ρ 8) (n9 := ρ 9) (n10 := ρ 10) (n11 := ρ 11) (n12 := ρ 12) (n13 := ρ 13) (n14 := ρ 14) (n15 := ρ 15) (n16 := ρ 16) (n17 := ρ 17) (H0 := η 0) (H1 := η 1) f39 f38 f37 f36 f35 f34 f33 f32 f31 f30 f29 f28 f27 f26 f25 f24 f23 f22 f21 f20 f19 f18 f17 f16 f15 f14 f13 f12 f11 f10 f9 f8 f7 f6 f5 f4 f3 f2 f1 f0
theorem q_165_32 {n0 n1 n2 n3 n4 n5 n6 n7 n8 n9 n10 n11 n12 n13 : Int} {H0 : gH} (f0 : n0 ≤ 2147483647) (f1 : (-2147483648) ≤ n0) (f2 : n1 ≤ 2147483647) (f3 : (-2147483648) ≤ n1) (f4 : n2 ≤ 2147483647) (f5 : (-2147483648) ≤ n2) (f6 : n3 ≤ 2147483647) (f7 : (-2147483648) ≤ n3) (f8 : n4 = 7) (f9 : hWt T0 H0 ∧ True) (f10 : 0 ≤ n3) (f11 : n5 = 3) (f12 : n3 ≤ n5) (f13 : n2 ≠ 0) (f14 : n6 = (-1)) (f15 : n6 ≤ n2) (f16 : n7 = 240) (f17 : n2 ≤ n7) (f18 : n8 = (-1)) (f19 : n2 = n8) (f20 : n9 = 240) (f21 : n10 = 1) (f22 : n3 = n10) (f23 : 0 ≤ n1) (f24 : n1 < n0) (f25 : n0 ≤ n9) (f26 : n11 = 3) (f27 : n3 = n11) (f28 : 0 ≤ n1) (f29 : n12 = 7) (f30 : n12 < n1) (f31 : n13 = (-1)) : postb_165 n13 n4 n3 n2 n1 n0 H0 H0 := by
  unfold postb_165
  omega
theorem c_165_s_32 : vOkm T0 (eP e_165 L_165 A_165 mu_165 none) 5 ([(0, [13], [], -1), (44, [3, 12], [], 0), (0, [12], [], 7), (33, [3], [], 0), (40, [1, 11], [], 0), (0, [11], [], 3), (45, [4, 9], [], 0), (44, [4, 3], [], 0), (33, [3], [], 0), (40, [1, 10], [], 0), (0, [10], [], 1), (0, [9], [], 240), (40, [2, 8], [], 0), (0, [8], [], -1), (45, [2, 7], [], 0), (0, [7], [], 240), (43, [2, 6], [], 0), (0, [6], [], -1), (31, [2], [], 0), (45, [1, 5], [], 0), (0, [5], [], 3), (33, [1], [], 0), (6000, [0, 1, 2, 3, 4], [0], 0), (0, [0], [], 7), (90, [1], [], -2147483648), (91, [1], [], 2147483647), (90, [2], [], -2147483648), (91, [2], [], 2147483647), (90, [3], [], -2147483648), (91, [3], [], 2147483647), (90, [4], [], -2147483648), (91, [4], [], 2147483647)], (3000, [13], [0], 81)) := vOk_in fun ρ η h => by
  obtain ⟨f0, f1, f2, f3, f4, f5, f6, f7, f8, f9, f10, f11, f12, f13, f14, f15, f16, f17, f18, f19, f20, f21, f22, f23, f24, f25, f26, f27, f28, f29, f30, f31, _⟩ := h
  exact q_165_32 (n0 := ρ 4) (n1 := ρ 3) (n2 := ρ 2) (n3 := ρ 1) (n4 := ρ 0) (n5 := ρ 5) (n6 := ρ 6) (n7 := ρ 7) (n8 := ρ 8) (n9 := ρ 9) (n10 := ρ 10) (n11 := ρ 11) (n12 := ρ 12) (n13 := ρ 13) (H0 := η 0) f31 f30 f29 f28 f27 f26 f25 f24 f23 f22 f21 f20 f19 f18 f17 f16 f15 f14 f13 f12 f11 f10 f9 f8 f7 f6 f5 f4 f3 f2 f1 f0
theorem q_165_33 {n0 n1 n2 n3 n4 n5 n6 n7 n8 n9 n10 n11 : Int} {H0 : gH} (f0 : n0 ≤ 2147483647) (f1 : (-2147483648) ≤ n0) (f2 : n1 ≤ 2147483647) (f3 : (-2147483648) ≤ n1) (f4 : n2 ≤ 2147483647) (f5 : (-2147483648) ≤ n2) (f6 : n3 ≤ 2147483647) (f7 : (-2147483648) ≤ n3) (f8 : n4 = 7) (f9 : hWt T0 H0 ∧ True) (f10 : 0 ≤ n3) (f11 : n5 = 3) (f12 : n3 ≤ n5) (f13 : n2 ≠ 0) (f14 : n6 = (-1)) (f15 : n6 ≤ n2) (f16 : n7 = 240) (f17 : n2 ≤ n7) (f18 : n8 = (-1)) (f19 : n2 = n8) (f20 : n9 = 240) (f21 : n10 = 1) (f22 : n3 = n10) (f23 : 0 ≤ n1) (f24 : n1 < n0) (f25 : n9 < n0) (f26 : n11 = (-1)) : postb_165 n11 n4 n3 n2 n1 n0 H0 H0 := by
  unfold postb_165
  omega
theorem c_165_s_33 : vOkm T0 (eP e_165 L_165 A_165 mu_165 none) 5 ([(0, [11], [], -1), (44, [4, 9], [], 0), (44, [4, 3], [], 0), (33, [3], [], 0), (40, [1, 10], [], 0), (0, [10], [], 1), (0, [9], [], 240), (40, [2, 8], [], 0), (0, [8], [], -1), (45, [2, 7], [], 0), (0, [7], [], 240), (43, [2, 6], [], 0), (0, [6], [], -1), (31, [2], [], 0), (45, [1, 5], [], 0), (0, [5], [], 3), (33, [1], [], 0), (6000, [0, 1, 2, 3, 4], [0], 0), (0, [0], [], 7), (90, [1], [], -2147483648), (91, [1], [], 2147483647), (90, [2], [], -2147483648), (91, [2], [], 2147483647), (90, [3], [], -2147483648), (91, [3], [], 2147483647), (90, [4], [], -2147483648), (91, [4], [], 2147483647)], (3000, [11], [0], 64)) := vOk_in fun ρ η h => by
  obtain ⟨f0, f1, f2, f3, f4, f5, f6, f7, f8, f9, f10, f11, f12, f13, f14, f15, f16, f17, f18, f19, f20, f21, f22, f23, f24, f25, f26, _⟩ := h
  exact q_165_33 (n0 := ρ 4) (n1 := ρ 3) (n2 := ρ 2) (n3 := ρ 1) (n4 := ρ 0) (n5 := ρ 5) (n6 := ρ 6) (n7 := ρ 7) (n8 := ρ 8) (n9 := ρ 9) (n10 := ρ 10) (n11 := ρ 11) (H0 := η 0) f26 f25 f24 f23 f22 f21 f20 f19 f18 f17 f16 f15 f14 f13 f12 f11 f10 f9 f8 f7 f6 f5 f4 f3 f2 f1 f0
theorem q_165_34 {n0 n1 n2 n3 n4 n5 n6 n7 n8 : Int} {H0 : gH} (f0 : n0 ≤ 2147483647) (f1 : (-2147483648) ≤ n0) (f2 : n1 ≤ 2147483647) (f3 : (-2147483648) ≤ n1) (f4 : n2 ≤ 2147483647) (f5 : (-2147483648) ≤ n2) (f6 : n3 ≤ 2147483647) (f7 : (-2147483648) ≤ n3) (f8 : n4 = 7) (f9 : hWt T0 H0 ∧ True) (f10 : 0 ≤ n3) (f11 : n5 = 3) (f12 : n3 ≤ n5) (f13 : n2 ≠ 0) (f14 : n6 = (-1)) (f15 : n6 ≤ n2) (f16 : n7 = 240) (f17 : n7 < n2) (f18 : n8 = (-1)) : postb_165 n8 n4 n3 n2 n1 n0 H0 H0 := by
  unfold postb_165
  omega
theorem c_165_s_34 : vOkm T0 (eP e_165 L_165 A_165 mu_165 none) 5 ([(0, [8], [], -1), (44, [2, 7], [], 0), (0, [7], [], 240), (43, [2, 6], [], 0), (0, [6], [], -1), (31, [2], [], 0), (45, [1, 5], [], 0), (0, [5], [], 3), (33, [1], [], 0), (6000, [0, 1, 2, 3, 4], [0], 0), (0, [0], [], 7), (90, [1], [], -2147483648), (91, [1], [], 2147483647), (90, [2], [], -2147483648), (91, [2], [], 2147483647), (90, [3], [], -2147483648), (91, [3], [], 2147483647), (90, [4], [], -2147483648), (91, [4], [], 2147483647)], (3000, [8], [0], 26)) := vOk_in fun ρ η h => by
  obtain ⟨f0, f1, f2, f3, f4, f5, f6, f7, f8, f9, f10, f11, f12, f13, f14, f15, f16, f17, f18, _⟩ := h
  exact q_165_34 (n0 := ρ 4) (n1 := ρ 3) (n2 := ρ 2) (n3 := ρ 1) (n4 := ρ 0) (n5 := ρ 5) (n6 := ρ 6) (n7 := ρ 7) (n8 := ρ 8) (H0 := η 0) f18 f17 f16 f15 f14 f13 f12 f11 f10 f9 f8 f7 f6 f5 f4 f3 f2 f1 f0
def p_165_s : List vG := [([(0, [5], [], -1), (32, [1], [], 0), (6000, [0, 1, 2, 3, 4], [0], 0), (0, [0], [], 7), (90, [1], [], -2147483648), (91, [1], [], 2147483647), (90, [2], [], -2147483648), (91, [2], [], 2147483647), (90, [3], [], -2147483648), (91, [3], [], 2147483647), (90, [4], [], -2147483648), (91, [4], [], 2147483647)], (3000, [5], [0], 26)),
  ([(0, [6], [], -1), (44, [1, 5], [], 0), (0, [5], [], 3), (33, [1], [], 0), (6000, [0, 1, 2, 3, 4], [0], 0), (0, [0], [], 7), (90, [1], [], -2147483648), (91, [1], [], 2147483647), (90, [2], [], -2147483648), (91, [2], [], 2147483647), (90, [3], [], -2147483648), (91, [3], [], 2147483647), (90, [4], [], -2147483648), (91, [4], [], 2147483647)], (3000, [6], [0], 26)),
  ([(0, [6], [], -1), (30, [2], [], 0), (45, [1, 5], [], 0), (0, [5], [], 3), (33, [1], [], 0), (6000, [0, 1, 2, 3, 4], [0], 0), (0, [0], [], 7), (90, [1], [], -2147483648), (91, [1], [], 2147483647), (90, [2], [], -2147483648), (91, [2], [], 2147483647), (90, [3], [], -2147483648), (91, [3], [], 2147483647), (90, [4], [], -2147483648), (91, [4], [], 2147483647)], (3000, [6], [0], 26)),
  ([(0, [7], [], -1), (42, [2, 6], [], 0), (0, [6], [], -1), (31, [2], [], 0), (45, [1, 5], [], 0), (0, [5], [], 3), (33, [1], [], 0), (6000, [0, 1, 2, 3, 4], [0], 0), (0, [0], [], 7), (90, [1], [], -2147483648), (91, [1], [], 2147483647), (90, [2], [], -2147483648), (91, [2], [], 2147483647), (90, [3], [], -2147483648), (91, [3], [], 2147483647), (90, [4], [], -2147483648), (91, [4], [], 2147483647)], (3000, [7], [0], 26)),
  ([(1004, [14, 11, 1, 3, 4, 12, 2], [0, 1], 1), (90, [14], [], -2147483648), (91, [14], [], 2147483647), (41, [2, 13], [], 0), (0, [13], [], -1), (0, [12], [], -1), (20, [11, 0], [0], 7), (0, [11], [], 23), (41, [1, 10], [], 0), (0, [10], [], 3), (41, [1, 9], [], 0), (0, [9], [], 1), (41, [2, 8], [], 0), (0, [8], [], -1), (45, [2, 7], [], 0), (0, [7], [], 240), (43, [2, 6], [], 0), (0, [6], [], -1), (31, [2], [], 0), (45, [1, 5], [], 0), (0, [5], [], 3), (33, [1], [], 0), (6000, [0, 1, 2, 3, 4], [0], 0), (0, [0], [], 7), (90, [1], [], -2147483648), (91, [1], [], 2147483647), (90, [2], [], -2147483648), (91, [2], [], 2147483647), (90, [3], [], -2147483648), (91, [3], [], 2147483647), (90, [4], [], -2147483648), (91, [4], [], 2147483647)], (3000, [14], [1], 104)),
  ([(1004, [15, 11, 1, 3, 4, 12, 14], [0, 1], 1), (90, [15], [], -2147483648), (91, [15], [], 2147483647), (0, [14], [], 0), (40, [2, 13], [], 0), (0, [13], [], -1), (0, [12], [], -1), (20, [11, 0], [0], 7), (0, [11], [], 23), (41, [1, 10], [], 0), (0, [10], [], 3), (41, [1, 9], [], 0), (0, [9], [], 1), (41, [2, 8], [], 0), (0, [8], [], -1), (45, [2, 7], [], 0), (0, [7], [], 240), (43, [2, 6], [], 0), (0, [6], [], -1), (31, [2], [], 0), (45, [1, 5], [], 0), (0, [5], [], 3), (33, [1], [], 0), (6000, [0, 1, 2, 3, 4], [0], 0), (0, [0], [], 7), (90, [1], [], -2147483648), (91, [1], [], 2147483647), (90, [2], [], -2147483648), (91, [2], [], 2147483647), (90, [3], [], -2147483648), (91, [3], [], 2147483647), (90, [4], [], -2147483648), (91, [4], [], 2147483647)], (3000, [15], [1], 104)),
  ([(0, [11], [], -1), (32, [3], [], 0), (40, [1, 10], [], 0), (0, [10], [], 3), (41, [1, 9], [], 0), (0, [9], [], 1), (41, [2, 8], [], 0), (0, [8], [], -1), (45, [2, 7], [], 0), (0, [7], [], 240), (43, [2, 6], [], 0), (0, [6], [], -1), (31, [2], [], 0), (45, [1, 5], [], 0), (0, [5], [], 3), (33, [1], [], 0), (6000, [0, 1, 2, 3, 4], [0], 0), (0, [0], [], 7), (90, [1], [], -2147483648), (91, [1], [], 2147483647), (90, [2], [], -2147483648), (91, [2], [], 2147483647), (90, [3], [], -2147483648), (91, [3], [], 2147483647), (90, [4], [], -2147483648), (91, [4], [], 2147483647)], (3000, [11], [0], 81)),
  ([(1004, [15, 12, 1, 3, 4, 13, 2], [0, 1], 1), (90, [15], [], -2147483648), (91, [15], [], 2147483647), (41, [2, 14], [], 0), (0, [14], [], -1), (0, [13], [], -1), (20, [12, 0], [0], 7), (0, [12], [], 23), (45, [3, 11], [], 0), (0, [11], [], 7), (33, [3], [], 0), (40, [1, 10], [], 0), (0, [10], [], 3), (41, [1, 9], [], 0), (0, [9], [], 1), (41, [2, 8], [], 0), (0, [8], [], -1), (45, [2, 7], [], 0), (0, [7], [], 240), (43, [2, 6], [], 0), (0, [6], [], -1), (31, [2], [], 0), (45, [1, 5], [], 0), (0, [5], [], 3), (33, [1], [], 0), (6000, [0, 1, 2, 3, 4], [0], 0), (0, [0], [], 7), (90, [1], [], -2147483648), (91, [1], [], 2147483647), (90, [2], [], -2147483648), (91, [2], [], 2147483647), (90, [3], [], -2147483648), (91, [3], [], 2147483647), (90, [4], [], -2147483648), (91, [4], [], 2147483647)], (3000, [15], [1], 104)),
  ([(1004, [16, 12, 1, 3, 4, 13, 15], [0, 1], 1), (90, [16], [], -2147483648), (91, [16], [], 2147483647), (0, [15], [], 0), (40, [2, 14], [], 0), (0, [14], [], -1), (0, [13], [], -1), (20, [12, 0], [0], 7), (0, [12], [], 23), (45, [3, 11], [], 0), (0, [11], [], 7), (33, [3], [], 0), (40, [1, 10], [], 0), (0, [10], [], 3), (41, [1, 9], [], 0), (0, [9], [], 1), (41, [2, 8], [], 0), (0, [8], [], -1), (45, [2, 7], [], 0), (0, [7], [], 240), (43, [2, 6], [], 0), (0, [6], [], -1), (31, [2], [], 0), (45, [1, 5], [], 0), (0, [5], [], 3), (33, [1], [], 0), (6000, [0, 1, 2, 3, 4], [0], 0), (0, [0], [], 7), (90, [1], [], -2147483648), (91, [1], [], 2147483647), (90, [2], [], -2147483648), (91, [2], [], 2147483647), (90, [3], [], -2147483648), (91, [3], [], 2147483647), (90, [4], [], -2147483648), (91, [4], [], 2147483647)], (3000, [16], [1], 104)),
  ([(0, [12], [], -1), (44, [3, 11], [], 0), (0, [11], [], 7), (33, [3], [], 0), (40, [1, 10], [], 0), (0, [10], [], 3), (41, [1, 9], [], 0), (0, [9], [], 1), (41, [2, 8], [], 0), (0, [8], [], -1), (45, [2, 7], [], 0), (0, [7], [], 240), (43, [2, 6], [], 0), (0, [6], [], -1), (31, [2], [], 0), (45, [1, 5], [], 0), (0, [5], [], 3), (33, [1], [], 0), (6000, [0, 1, 2, 3, 4], [0], 0), (0, [0], [], 7), (90, [1], [], -2147483648), (91, [1], [], 2147483647), (90, [2], [], -2147483648), (91, [2], [], 2147483647), (90, [3], [], -2147483648), (91, [3], [], 2147483647), (90, [4], [], -2147483648), (91, [4], [], 2147483647)], (3000, [12], [0], 81)),
  ([(0, [10], [], -1), (32, [3], [], 0), (40, [1, 9], [], 0), (0, [9], [], 1), (41, [2, 8], [], 0), (0, [8], [], -1), (45, [2, 7], [], 0), (0, [7], [], 240), (43, [2, 6], [], 0), (0, [6], [], -1), (31, [2], [], 0), (45, [1, 5], [], 0), (0, [5], [], 3), (33, [1], [], 0), (6000, [0, 1, 2, 3, 4], [0], 0), (0, [0], [], 7), (90, [1], [], -2147483648), (91, [1], [], 2147483647), (90, [2], [], -2147483648), (91, [2], [], 2147483647), (90, [3], [], -2147483648), (91, [3], [], 2147483647), (90, [4], [], -2147483648), (91, [4], [], 2147483647)], (3000, [10], [0], 64)),
  ([(0, [10], [], -1), (45, [4, 3], [], 0), (33, [3], [], 0), (40, [1, 9], [], 0), (0, [9], [], 1), (41, [2, 8], [], 0), (0, [8], [], -1), (45, [2, 7], [], 0), (0, [7], [], 240), (43, [2, 6], [], 0), (0, [6], [], -1), (31, [2], [], 0), (45, [1, 5], [], 0), (0, [5], [], 3), (33, [1], [], 0), (6000, [0, 1, 2, 3, 4], [0], 0), (0, [0], [], 7), (90, [1], [], -2147483648), (91, [1], [], 2147483647), (90, [2], [], -2147483648), (91, [2], [], 2147483647), (90, [3], [], -2147483648), (91, [3], [], 2147483647), (90, [4], [], -2147483648), (91, [4], [], 2147483647)], (3000, [10], [0], 64)),
  ([(1004, [14, 11, 1, 3, 4, 12, 2], [0, 1], 1), (90, [14], [], -2147483648), (91, [14], [], 2147483647), (41, [2, 13], [], 0), (0, [13], [], -1), (0, [12], [], -1), (20, [11, 0], [0], 7), (0, [11], [], 23), (41, [1, 10], [], 0), (0, [10], [], 3), (45, [4, 2], [], 0), (44, [4, 3], [], 0), (33, [3], [], 0), (40, [1, 9], [], 0), (0, [9], [], 1), (41, [2, 8], [], 0), (0, [8], [], -1), (45, [2, 7], [], 0), (0, [7], [], 240), (43, [2, 6], [], 0), (0, [6], [], -1), (31, [2], [], 0), (45, [1, 5], [], 0), (0, [5], [], 3), (33, [1], [], 0), (6000, [0, 1, 2, 3, 4], [0], 0), (0, [0], [], 7), (90, [1], [], -2147483648), (91, [1], [], 2147483647), (90, [2], [], -2147483648), (91, [2], [], 2147483647), (90, [3], [], -2147483648), (91, [3], [], 2147483647), (90, [4], [], -2147483648), (91, [4], [], 2147483647)], (3000, [14], [1], 104)),
  ([(1004, [15, 11, 1, 3, 4, 12, 14], [0, 1], 1), (90, [15], [], -2147483648), (91, [15], [], 2147483647), (0, [14], [], 0), (40, [2, 13], [], 0), (0, [13], [], -1), (0, [12], [], -1), (20, [11, 0], [0], 7), (0, [11], [], 23), (41, [1, 10], [], 0), (0, [10], [], 3), (45, [4, 2], [], 0), (44, [4, 3], [], 0), (33, [3], [], 0), (40, [1, 9], [], 0), (0, [9], [], 1), (41, [2, 8], [], 0), (0, [8], [], -1), (45, [2, 7], [], 0), (0, [7], [], 240), (43, [2, 6], [], 0), (0, [6], [], -1), (31, [2], [], 0), (45, [1, 5], [], 0), (0, [5], [], 3), (33, [1], [], 0), (6000, [0, 1, 2, 3, 4], [0], 0), (0, [0], [], 7), (90, [1], [], -2147483648), (91, [1], [], 2147483647), (90, [2], [], -2147483648), (91, [2], [], 2147483647), (90, [3], [], -2147483648), (91, [3], [], 2147483647), (90, [4], [], -2147483648), (91, [4], [], 2147483647)], (3000, [15], [1], 104)),
  ([(0, [11], [], -1), (32, [3], [], 0), (40, [1, 10], [], 0), (0, [10], [], 3), (45, [4, 2], [], 0), (44, [4, 3], [], 0), (33, [3], [], 0), (40, [1, 9], [], 0), (0, [9], [], 1), (41, [2, 8], [], 0), (0, [8], [], -1), (45, [2, 7], [], 0), (0, [7], [], 240), (43, [2, 6], [], 0), (0, [6], [], -1), (31, [2], [], 0), (45, [1, 5], [], 0), (0, [5], [], 3), (33, [1], [], 0), (6000, [0, 1, 2, 3, 4], [0], 0), (0, [0], [], 7), (90, [1], [], -2147483648), (91, [1], [], 2147483647), (90, [2], [], -2147483648), (91, [2], [], 2147483647), (90, [3], [], -2147483648), (91, [3], [], 2147483647), (90, [4], [], -2147483648), (91, [4], [], 2147483647)], (3000, [11], [0], 81)),
  ([(1004, [15, 12, 1, 3, 4, 13, 2], [0, 1], 1), (90, [15], [], -2147483648), (91, [15], [], 2147483647), (41, [2, 14], [], 0), (0, [14], [], -1), (0, [13], [], -1), (20, [12, 0], [0], 7), (0, [12], [], 23), (45, [3, 11], [], 0), (0, [11], [], 7), (33, [3], [], 0), (40, [1, 10], [], 0), (0, [10], [], 3), (45, [4, 2], [], 0), (44, [4, 3], [], 0), (33, [3], [], 0), (40, [1, 9], [], 0), (0, [9], [], 1), (41, [2, 8], [], 0), (0, [8], [], -1), (45, [2, 7], [], 0), (0, [7], [], 240), (43, [2, 6], [], 0), (0, [6], [], -1), (31, [2], [], 0), (45, [1, 5], [], 0), (0, [5], [], 3), (33, [1], [], 0), (6000, [0, 1, 2, 3, 4], [0], 0), (0, [0], [], 7), (90, [1], [], -2147483648), (91, [1], [], 2147483647), (90, [2], [], -2147483648), (91, [2], [], 2147483647), (90, [3], [], -2147483648), (91, [3], [], 2147483647), (90, [4], [], -2147483648), (91, [4], [], 2147483647)], (3000, [15], [1], 104)),
  ([(1004, [16, 12, 1, 3, 4, 13, 15], [0, 1], 1), (90, [16], [], -2147483648), (91, [16], [], 2147483647), (0, [15], [], 0), (40, [2, 14], [], 0), (0, [14], [], -1), (0, [13], [], -1), (20, [12, 0], [0], 7), (0, [12], [], 23), (45, [3, 11], [], 0), (0, [11], [], 7), (33, [3], [], 0), (40, [1, 10], [], 0), (0, [10], [], 3), (45, [4, 2], [], 0), (44, [4, 3], [], 0), (33, [3], [], 0), (40, [1, 9], [], 0), (0, [9], [], 1), (41, [2, 8], [], 0), (0, [8], [], -1), (45, [2, 7], [], 0), (0, [7], [], 240), (43, [2, 6], [], 0), (0, [6], [], -1), (31, [2], [], 0), (45, [1, 5], [], 0), (0, [5], [], 3), (33, [1], [], 0), (6000, [0, 1, 2, 3, 4], [0], 0), (0, [0], [], 7), (90, [1], [], -2147483648), (91, [1], [], 2147483647), (90, [2], [], -2147483648), (91, [2], [], 2147483647), (90, [3], [], -2147483648), (91, [3], [], 2147483647), (90, [4], [], -2147483648), (91, [4], [], 2147483647)], (3000, [16], [1], 104)),
  ([(0, [12], [], -1), (44, [3, 11], [], 0), (0, [11], [], 7), (33, [3], [], 0), (40, [1, 10], [], 0), (0, [10], [], 3), (45, [4, 2], [], 0), (44, [4, 3], [], 0), (33, [3], [], 0), (40, [1, 9], [], 0), (0, [9], [], 1), (41, [2, 8], [], 0), (0, [8], [], -1), (45, [2, 7], [], 0), (0, [7], [], 240), (43, [2, 6], [], 0), (0, [6], [], -1), (31, [2], [], 0), (45, [1, 5], [], 0), (0, [5], [], 3), (33, [1], [], 0), (6000, [0, 1, 2, 3, 4], [0], 0), (0, [0], [], 7), (90, [1], [], -2147483648), (91, [1], [], 2147483647), (90, [2], [], -2147483648), (91, [2], [], 2147483647), (90, [3], [], -2147483648), (91, [3], [], 2147483647), (90, [4], [], -2147483648), (91, [4], [], 2147483647)], (3000, [12], [0], 81)),
  ([(0, [10], [], -1), (44, [4, 2], [], 0), (44, [4, 3], [], 0), (33, [3], [], 0), (40, [1, 9], [], 0), (0, [9], [], 1), (41, [2, 8], [], 0), (0, [8], [], -1), (45, [2, 7], [], 0), (0, [7], [], 240), (43, [2, 6], [], 0), (0, [6], [], -1), (31, [2], [], 0), (45, [1, 5], [], 0), (0, [5], [], 3), (33, [1], [], 0), (6000, [0, 1, 2, 3, 4], [0], 0), (0, [0], [], 7), (90, [1], [], -2147483648), (91, [1], [], 2147483647), (90, [2], [], -2147483648), (91, [2], [], 2147483647), (90, [3], [], -2147483648), (91, [3], [], 2147483647), (90, [4], [], -2147483648), (91, [4], [], 2147483647)], (3000, [10], [0], 64)),
  ([(1004, [15, 12, 1, 3, 4, 13, 2], [0, 1], 1), (90, [15], [], -2147483648), (91, [15], [], 2147483647), (41, [2, 14], [], 0), (0, [14], [], -1), (0, [13], [], -1), (20, [12, 0], [0], 7), (0, [12], [], 23), (41, [1, 11], [], 0), (0, [11], [], 3), (41, [1, 10], [], 0), (0, [10], [], 1), (40, [2, 8], [], 0), (0, [8], [], -1), (45, [2, 7], [], 0), (0, [7], [], 240), (43, [2, 6], [], 0), (0, [6], [], -1), (31, [2], [], 0), (45, [1, 5], [], 0), (0, [5], [], 3), (33, [1], [], 0), (6000, [0, 1, 2, 3, 4], [0], 0), (0, [0], [], 7), (90, [1], [], -2147483648), (91, [1], [], 2147483647), (90, [2], [], -2147483648), (91, [2], [], 2147483647), (90, [3], [], -2147483648), (91, [3], [], 2147483647), (90, [4], [], -2147483648), (91, [4], [], 2147483647)], (3000, [15], [1], 104)),
  ([(1004, [16, 12, 1, 3, 4, 13, 15], [0, 1], 1), (90, [16], [], -2147483648), (91, [16], [], 2147483647), (0, [15], [], 0), (40, [2, 14], [], 0), (0, [14], [], -1), (0, [13], [], -1), (20, [12, 0], [0], 7), (0, [12], [], 23), (41, [1, 11], [], 0), (0, [11], [], 3), (41, [1, 10], [], 0), (0, [10], [], 1), (40, [2, 8], [], 0), (0, [8], [], -1), (45, [2, 7], [], 0), (0, [7], [], 240), (43, [2, 6], [], 0), (0, [6], [], -1), (31, [2], [], 0), (45, [1, 5], [], 0), (0, [5], [], 3), (33, [1], [], 0), (6000, [0, 1, 2, 3, 4], [0], 0), (0, [0], [], 7), (90, [1], [], -2147483648), (91, [1], [], 2147483647), (90, [2], [], -2147483648), (91, [2], [], 2147483647), (90, [3], [], -2147483648), (91, [3], [], 2147483647), (90, [4], [], -2147483648), (91, [4], [], 2147483647)], (3000, [16], [1], 104)),
  ([(0, [12], [], -1), (32, [3], [], 0), (40, [1, 11], [], 0), (0, [11], [], 3), (41, [1, 10], [], 0), (0, [10], [], 1), (40, [2, 8], [], 0), (0, [8], [], -1), (45, [2, 7], [], 0), (0, [7], [], 240), (43, [2, 6], [], 0), (0, [6], [], -1), (31, [2], [], 0), (45, [1, 5], [], 0), (0, [5], [], 3), (33, [1], [], 0), (6000, [0, 1, 2, 3, 4], [0], 0), (0, [0], [], 7), (90, [1], [], -2147483648), (91, [1], [], 2147483647), (90, [2], [], -2147483648), (91, [2], [], 2147483647), (90, [3], [], -2147483648), (91, [3], [], 2147483647), (90, [4], [], -2147483648), (91, [4], [], 2147483647)], (3000, [12], [0], 81)),
  ([(1004, [16, 13, 1, 3, 4, 14, 2], [0, 1], 1), (90, [16], [], -2147483648), (91, [16], [], 2147483647), (41, [2, 15], [], 0), (0, [15], [], -1), (0, [14], [], -1), (20, [13, 0], [0], 7), (0, [13], [], 23), (45, [3, 12], [], 0), (0, [12], [], 7), (33, [3], [], 0), (40, [1, 11], [], 0), (0, [11], [], 3), (41, [1, 10], [], 0), (0, [10], [], 1), (40, [2, 8], [], 0), (0, [8], [], -1), (45, [2, 7], [], 0), (0, [7], [], 240), (43, [2, 6], [], 0), (0, [6], [], -1), (31, [2], [], 0), (45, [1, 5], [], 0), (0, [5], [], 3), (33, [1], [], 0), (6000, [0, 1, 2, 3, 4], [0], 0), (0, [0], [], 7), (90, [1], [], -2147483648), (91, [1], [], 2147483647), (90, [2], [], -2147483648), (91, [2], [], 2147483647), (90, [3], [], -2147483648), (91, [3], [], 2147483647), (90, [4], [], -2147483648), (91, [4], [], 2147483647)], (3000, [16], [1], 104)),
  ([(1004, [17, 13, 1, 3, 4, 14, 16], [0, 1], 1), (90, [17], [], -2147483648), (91, [17], [], 2147483647), (0, [16], [], 0), (40, [2, 15], [], 0), (0, [15], [], -1), (0, [14], [], -1), (20, [13, 0], [0], 7), (0, [13], [], 23), (45, [3, 12], [], 0), (0, [12], [], 7), (33, [3], [], 0), (40, [1, 11], [], 0), (0, [11], [], 3), (41, [1, 10], [], 0), (0, [10], [], 1), (40, [2, 8], [], 0), (0, [8], [], -1), (45, [2, 7], [], 0), (0, [7], [], 240), (43, [2, 6], [], 0), (0, [6], [], -1), (31, [2], [], 0), (45, [1, 5], [], 0), (0, [5], [], 3), (33, [1], [], 0), (6000, [0, 1, 2, 3, 4], [0], 0), (0, [0], [], 7), (90, [1], [], -2147483648), (91, [1], [], 2147483647), (90, [2], [], -2147483648), (91, [2], [], 2147483647), (90, [3], [], -2147483648), (91, [3], [], 2147483647), (90, [4], [], -2147483648), (91, [4], [], 2147483647)], (3000, [17], [1], 104)),
  ([(0, [13], [], -1), (44, [3, 12], [], 0), (0, [12], [], 7), (33, [3], [], 0), (40, [1, 11], [], 0), (0, [11], [], 3), (41, [1, 10], [], 0), (0, [10], [], 1), (40, [2, 8], [], 0), (0, [8], [], -1), (45, [2, 7], [], 0), (0, [7], [], 240), (43, [2, 6], [], 0), (0, [6], [], -1), (31, [2], [], 0), (45, [1, 5], [], 0), (0, [5], [], 3), (33, [1], [], 0), (6000, [0, 1, 2, 3, 4], [0], 0), (0, [0], [], 7), (90, [1], [], -2147483648), (91, [1], [], 2147483647), (90, [2], [], -2147483648), (91, [2], [], 2147483647), (90, [3], [], -2147483648), (91, [3], [], 2147483647), (90, [4], [], -2147483648), (91, [4], [], 2147483647)], (3000, [13], [0], 81)),
  ([(0, [11], [], -1), (32, [3], [], 0), (40, [1, 10], [], 0), (0, [10], [], 1), (40, [2, 8], [], 0), (0, [8], [], -1), (45, [2, 7], [], 0), (0, [7], [], 240), (43, [2, 6], [], 0), (0, [6], [], -1), (31, [2], [], 0), (45, [1, 5], [], 0), (0, [5], [], 3), (33, [1], [], 0), (6000, [0, 1, 2, 3, 4], [0], 0), (0, [0], [], 7), (90, [1], [], -2147483648), (91, [1], [], 2147483647), (90, [2], [], -2147483648), (91, [2], [], 2147483647), (90, [3], [], -2147483648), (91, [3], [], 2147483647), (90, [4], [], -2147483648), (91, [4], [], 2147483647)], (3000, [11], [0], 64)),
  ([(0, [11], [], -1), (45, [4, 3], [], 0), (33, [3], [], 0), (40, [1, 10], [], 0), (0, [10], [], 1), (40, [2, 8], [], 0), (0, [8], [], -1), (45, [2, 7], [], 0), (0, [7], [], 240), (43, [2, 6], [], 0), (0, [6], [], -1), (31, [2], [], 0), (45, [1, 5], [], 0), (0, [5], [], 3), (33, [1], [], 0), (6000, [0, 1, 2, 3, 4], [0], 0), (0, [0], [], 7), (90, [1], [], -2147483648), (91, [1], [], 2147483647), (90, [2], [], -2147483648), (91, [2], [], 2147483647), (90, [3], [], -2147483648), (91, [3], [], 2147483647), (90, [4], [], -2147483648), (91, [4], [], 2147483647)], (3000, [11], [0], 64)),
  ([(1004, [15, 12, 1, 3, 4, 13, 2], [0, 1], 1), (90, [15], [], -2147483648), (91, [15], [], 2147483647), (41, [2, 14], [], 0), (0, [14], [], -1), (0, [13], [], -1), (20, [12, 0], [0], 7), (0, [12], [], 23), (41, [1, 11], [], 0), (0, [11], [], 3), (45, [4, 9], [], 0), (44, [4, 3], [], 0), (33, [3], [], 0), (40, [1, 10], [], 0), (0, [10], [], 1), (0, [9], [], 240), (40, [2, 8], [], 0), (0, [8], [], -1), (45, [2, 7], [], 0), (0, [7], [], 240), (43, [2, 6], [], 0), (0, [6], [], -1), (31, [2], [], 0), (45, [1, 5], [], 0), (0, [5], [], 3), (33, [1], [], 0), (6000, [0, 1, 2, 3, 4], [0], 0), (0, [0], [], 7), (90, [1], [], -2147483648), (91, [1], [], 2147483647), (90, [2], [], -2147483648), (91, [2], [], 2147483647), (90, [3], [], -2147483648), (91, [3], [], 2147483647), (90, [4], [], -2147483648), (91, [4], [], 2147483647)], (3000, [15], [1], 104)),
  ([(1004, [16, 12, 1, 3, 4, 13, 15], [0, 1], 1), (90, [16], [], -2147483648), (91, [16], [], 2147483647), (0, [15], [], 0), (40, [2, 14], [], 0), (0, [14], [], -1), (0, [13], [], -1), (20, [12, 0], [0], 7), (0, [12], [], 23), (41, [1, 11], [], 0), (0, [11], [], 3), (45, [4, 9], [], 0), (44, [4, 3], [], 0), (33, [3], [], 0), (40, [1, 10], [], 0), (0, [10], [], 1), (0, [9], [], 240), (40, [2, 8], [], 0), (0, [8], [], -1), (45, [2, 7], [], 0), (0, [7], [], 240), (43, [2, 6], [], 0), (0, [6], [], -1), (31, [2], [], 0), (45, [1, 5], [], 0), (0, [5], [], 3), (33, [1], [], 0), (6000, [0, 1, 2, 3, 4], [0], 0), (0, [0], [], 7), (90, [1], [], -2147483648), (91, [1], [], 2147483647), (90, [2], [], -2147483648), (91, [2], [], 2147483647), (90, [3], [], -2147483648), (91, [3], [], 2147483647), (90, [4], [], -2147483648), (91, [4], [], 2147483647)], (3000, [16], [1], 104)),
  ([(0, [12], [], -1), (32, [3], [], 0), (40, [1, 11], [], 0), (0, [11], [], 3), (45, [4, 9], [], 0), (44, [4, 3], [], 0), (33, [3], [], 0), (40, [1, 10], [], 0), (0, [10], [], 1), (0, [9], [], 240), (40, [2, 8], [], 0), (0, [8], [], -1), (45, [2, 7], [], 0), (0, [7], [], 240), (43, [2, 6], [], 0), (0, [6], [], -1), (31, [2], [], 0), (45, [1, 5], [], 0), (0, [5], [], 3), (33, [1], [], 0), (6000, [0, 1, 2, 3, 4], [0], 0), (0, [0], [], 7), (90, [1], [], -2147483648), (91, [1], [], 2147483647), (90, [2], [], -2147483648), (91, [2], [], 2147483647), (90, [3], [], -2147483648), (91, [3], [], 2147483647), (90, [4], [], -2147483648), (91, [4], [], 2147483647)], (3000, [12], [0], 81)),
  ([(1004, [16, 13, 1, 3, 4, 14, 2], [0, 1], 1), (90, [16], [], -2147483648), (91, [16], [], 2147483647), (41, [2, 15], [], 0), (0, [15], [], -1), (0, [14], [], -1), (20, [13, 0], [0], 7), (0, [13], [], 23), (45, [3, 12], [], 0), (0, [12], [], 7), (33, [3], [], 0), (40, [1, 11], [], 0), (0, [11], [], 3), (45, [4, 9], [], 0), (44, [4, 3], [], 0), (33, [3], [], 0), (40, [1, 10], [], 0), (0, [10], [], 1), (0, [9], [], 240), (40, [2, 8], [], 0), (0, [8], [], -1), (45, [2, 7], [], 0), (0, [7], [], 240), (43, [2, 6], [], 0), (0, [6], [], -1), (31, [2], [], 0), (45, [1, 5], [], 0), (0, [5], [], 3), (33, [1], [], 0), (6000, [0, 1, 2, 3, 4], [0], 0), (0, [0], [], 7), (90, [1], [], -2147483648), (91, [1], [], 2147483647), (90, [2], [], -2147483648), (91, [2], [], 2147483647), (90, [3], [], -2147483648), (91, [3], [], 2147483647), (90, [4], [], -2147483648), (91, [4], [], 2147483647)], (3000, [16], [1], 104)),
  ([(1004, [17, 13, 1, 3, 4, 14, 16], [0, 1], 1), (90, [17], [], -2147483648), (91, [17], [], 2147483647), (0, [16], [], 0), (40, [2, 15], [], 0), (0, [15], [], -1), (0, [14], [], -1), (20, [13, 0], [0], 7), (0, [13], [], 23), (45, [3, 12], [], 0), (0, [12], [], 7), (33, [3], [], 0), (40, [1, 11], [], 0), (0, [11], [], 3), (45, [4, 9], [], 0), (44, [4, 3], [], 0), (33, [3], [], 0), (40, [1, 10], [], 0), (0, [10], [], 1), (0, [9], [], 240), (40, [2, 8], [], 0), (0, [8], [], -1), (45, [2, 7], [], 0), (0, [7], [], 240), (43, [2, 6], [], 0), (0, [6], [], -1), (31, [2], [], 0), (45, [1, 5], [], 0), (0, [5], [], 3), (33, [1], [], 0), (6000, [0, 1, 2, 3, 4], [0], 0), (0, [0], [], 7), (90, [1], [], -2147483648), (91, [1], [], 2147483647), (90, [2], [], -2147483648), (91, [2], [], 2147483647), (90, [3], [], -2147483648), (91, [3], [], 2147483647), (90, [4], [], -2147483648), (91, [4], [], 2147483647)], (3000, [17], [1], 104)),
  ([(0, [13], [], -1), (44, [3, 12], [], 0), (0, [12], [], 7), (33, [3], [], 0), (40, [1, 11], [], 0), (0, [11], [], 3), (45, [4, 9], [], 0), (44, [4, 3], [], 0), (33, [3], [], 0), (40, [1, 10], [], 0), (0, [10], [], 1), (0, [9], [], 240), (40, [2, 8], [], 0), (0, [8], [], -1), (45, [2, 7], [], 0), (0, [7], [], 240), (43, [2, 6], [], 0), (0, [6], [], -1), (31, [2], [], 0), (45, [1, 5], [], 0), (0, [5], [], 3), (33, [1], [], 0), (6000, [0, 1, 2, 3, 4], [0], 0), (0, [0], [], 7), (90, [1], [], -2147483648), (91, [1], [], 2147483647), (90, [2], [], -2147483648), (91, [2], [], 2147483647), (90, [3], [], -2147483648), (91, [3], [], 2147483647), (90, [4], [], -2147483648), (91, [4], [], 2147483647)], (3000, [13], [0], 81)),
  ([(0, [11], [], -1), (44, [4, 9], [], 0), (44, [4, 3], [], 0), (33, [3], [], 0), (40, [1, 10], [], 0), (0, [10], [], 1), (0, [9], [], 240), (40, [2, 8], [], 0), (0, [8], [], -1), (45, [2, 7], [], 0), (0, [7], [], 240), (43, [2, 6], [], 0), (0, [6], [], -1), (31, [2], [], 0), (45, [1, 5], [], 0), (0, [5], [], 3), (33, [1], [], 0), (6000, [0, 1, 2, 3, 4], [0], 0), (0, [0], [], 7), (90, [1], [], -2147483648), (91, [1], [], 2147483647), (90, [2], [], -2147483648), (91, [2], [], 2147483647), (90, [3], [], -2147483648), (91, [3], [], 2147483647), (90, [4], [], -2147483648), (91, [4], [], 2147483647)], (3000, [11], [0], 64)),
  ([(0, [8], [], -1), (44, [2, 7], [], 0), (0, [7], [], 240), (43, [2, 6], [], 0), (0, [6], [], -1), (31, [2], [], 0), (45, [1, 5], [], 0), (0, [5], [], 3), (33, [1], [], 0), (6000, [0, 1, 2, 3, 4], [0], 0), (0, [0], [], 7), (90, [1], [], -2147483648), (91, [1], [], 2147483647), (90, [2], [], -2147483648), (91, [2], [], 2147483647), (90, [3], [], -2147483648), (91, [3], [], 2147483647), (90, [4], [], -2147483648), (91, [4], [], 2147483647)], (3000, [8], [0], 26))]
theorem r_165_s : vCovO false (eR0 e_165 L_165 cs_165 2000) p_165_s = true := by decide +kernel
theorem m_165 (d : Nat) : eC e_165 (d + 3) := eC_ok (e := e_165) (L := L_165) (cs := cs_165) (n := 2000) (d := d + 2) (A := A_165) (μ := mu_165) (tp := false) (p0 := p_165_s) rfl ⟨m_4 d, trivial⟩ rfl (.inr pre0_ok) (by decide +kernel) (fun z => nomatch z) r_165_s (allC c_165_s_0 (allC c_165_s_1 (allC c_165_s_2 (allC c_165_s_3 (allC c_165_s_4 (allC c_165_s_5 (allC c_165_s_6 (allC c_165_s_7 (allC c_165_s_8 (allC c_165_s_9 (allC c_165_s_10 (allC c_165_s_11 (allC c_165_s_12 (allC c_165_s_13 (allC c_165_s_14 (allC c_165_s_15 (allC c_165_s_16 (allC c_165_s_17 (allC c_165_s_18 (allC c_165_s_19 (allC c_165_s_20 (allC c_165_s_21 (allC c_165_s_22 (allC c_165_s_23 (allC c_165_s_24 (allC c_165_s_25 (allC c_165_s_26 (allC c_165_s_27 (allC c_165_s_28 (allC c_165_s_29 (allC c_165_s_30 (allC c_165_s_31 (allC c_165_s_32 (allC c_165_s_33 (allC c_165_s_34 allN))))))))))))))))))))))))))))))))))) allN
