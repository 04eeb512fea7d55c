/-! CONTRACTS of methods (printed by wip/gen/emit.py). -/
/- Reader.putIn (LMixStage$Reader;LMixStage$Sheet;IIII)V -/
noncomputable def s_83 : vM := ([(3, 4, 30, 0), (3, 6, -1, 0), (0, -2147483648, 2147483647, 0), (0, -2147483648, 2147483647, 0), (0, -2147483648, 2147483647, 0), (0, -2147483648, 2147483647, 0)], (9, 0, 0, 0), 0, 1, [(6, 2), (6, 3), (6, 4), (106, 0), (1, 0), (1, 1), (1, 2), (1, 3), (1, 4), (1, 5), (1, 6), (1, 7), (1, 8), (1, 9), (1, 10), (1, 11), (1, 12), (1, 13), (1, 14), (1, 15), (1, 16), (1, 18), (100, 0)])
noncomputable def e_83 : vE := (83, s_83, pre0, post0)
theorem m_83 (d : Nat) : eC e_83 (d + 20) := sorry
/- Reader.fill (LMixStage$Sheet;)V -/
noncomputable def s_82 : vM := ([(3, 4, 30, 0), (3, 6, -1, 0)], (9, 0, 0, 0), 0, 1, [(1, 0), (1, 1), (1, 2), (1, 3), (1, 4), (1, 5), (1, 6), (1, 7), (1, 8), (1, 9), (1, 10), (1, 11), (1, 12), (1, 13), (1, 14), (1, 15), (1, 16), (1, 18), (6, 2), (6, 3), (6, 4), (100, 0), (106, 0)])
noncomputable def e_82 : vE := (82, s_82, pre0, post0)
noncomputable def L_82 : List vE := [e_83]
def cs_82 : List vC := []
def A_82 : Int → List Int → gH → gH → Prop := fun c xs h0 h => True
def mu_82 : Int → List Int → gH → gH → Nat := fun c xs h0 h => 0
def p_82_s : List vG := []
theorem r_82_s : vCovO true (eR0 e_82 L_82 cs_82 2000) p_82_s = true := by decide +kernel
theorem m_82 (d : Nat) : eC e_82 (d + 21) := eC_ok (e := e_82) (L := L_82) (cs := cs_82) (n := 2000) (d := d + 20) (A := A_82) (μ := mu_82) (tp := true) (p0 := p_82_s) rfl ⟨m_83 d, trivial⟩ rfl (.inr pre0_ok) (by decide +kernel) (fun _ => post0_ok) r_82_s allN allN
/- Rules.firstLoud ()I -/
noncomputable def s_103 : vM := ([(3, 5, -1, 0)], (0, -2147483648, 2147483647, 0), 0, 0, [])
noncomputable def e_103 : vE := (103, s_103, pre0, post0)
noncomputable def L_103 : List vE := [e_199]
def cs_103 : List vC := [(2, [(0, (3, 5, -1, 0)), (1, (0, -2147483648, 2147483647, 0))])]
def mub_103_2 (a0 x0 x1 : Int) (h0 h : gH) : Nat := (2147483648 - x1).toNat
def A_103 : Int → List Int → gH → gH → Prop := fun c xs h0 h => True
def mu_103 : Int → List Int → gH → gH → Nat := fun c xs h0 h => match c.toNat with
  | 2 => (match xs with
    | [a0, x0, x1] => mub_103_2 a0 x0 x1 h0 h
    | _ => 0)
  | _ => 0
theorem q_103_0 {n0 n1 : Int} {H0 : gH}  : True ∧ ∀ q, none = some q → mub_103_2 n0 n0 n1 H0 H0 < q := by
  exact ⟨trivial, fun q hq => nomatch hq⟩
theorem c_103_s_0 : vOkm T0 (eP e_103 L_103 A_103 mu_103 none) 1 ([], (4000, [0, 1], [0], 2)) := vOk_in fun ρ η h => by
  obtain ⟨_⟩ := h
  exact q_103_0 (n0 := ρ 0) (n1 := ρ 1) (H0 := η 0) 
def p_103_s : List vG := [([], (4000, [0, 1], [0], 2))]
theorem r_103_s : vCovO true (eR0 e_103 L_103 cs_103 2000) p_103_s = true := by decide +kernel
theorem q_103_1 {q0 : Nat} {n0 n1 n2 n3 n4 : Int} {H0 H1 H2 : gH} (f0 : n0 ≤ 2147483647) (f1 : (-2147483648) ≤ n0) (f2 : (hLe T0 H0 H1 ∧ hFr s_103.2.2.2.2 H0 H1 ∧ hWt T0 H1) ∧ (True ∧ True) ∧ some q0 = some (mub_103_2 n1 n2 n0 H0 H1)) (f3 : n3 ≤ 2147483647) (f4 : (-2147483648) ≤ n3) (f5 : n0 < n3) (f6 : n4 = w32 (n0 + 1)) : True ∧ ∀ q, some q0 = some q → mub_103_2 n1 n2 n4 H0 H2 < q := by
  have g5 := Option.some.inj f2.2.2
  unfold mub_103_2 at g5
  unfold mub_103_2
  unfold w32 at *
  refine ⟨?_, fun q hq => ?_⟩
  · trivial
  · have g6 := Option.some.inj hq
    subst g6
    omega
theorem c_103_2_0 {q0 : Nat} : vOkm T0 (eP e_103 L_103 A_103 mu_103 (some q0)) 1 ([(10, [6, 2], [], 1), (42, [2, 3], [], 0), (90, [3], [], -2147483648), (91, [3], [], 2147483647), (5000, [0, 1, 2], [0, 1], 2), (90, [2], [], -2147483648), (91, [2], [], 2147483647)], (4000, [1, 6], [2], 2)) := vOk_in fun ρ η h => by
  obtain ⟨f0, f1, f2, f3, f4, f5, f6, _⟩ := h
  exact q_103_1 (q0 := q0) (n0 := ρ 2) (n1 := ρ 0) (n2 := ρ 1) (n3 := ρ 3) (n4 := ρ 6) (H0 := η 0) (H1 := η 1) (H2 := η 2) f6 f5 f4 f3 f2 f1 f0
def p_103_2 : List vG := [([(10, [6, 2], [], 1), (42, [2, 3], [], 0), (90, [3], [], -2147483648), (91, [3], [], 2147483647), (5000, [0, 1, 2], [0, 1], 2), (90, [2], [], -2147483648), (91, [2], [], 2147483647)], (4000, [1, 6], [2], 2))]
theorem r_103_2 : vCovO true (eRc e_103 L_103 cs_103 2000 (2, [(0, (3, 5, -1, 0)), (1, (0, -2147483648, 2147483647, 0))])) p_103_2 = true := by decide +kernel
theorem m_103 (d : Nat) : eC e_103 (d + 2) := eC_ok (e := e_103) (L := L_103) (cs := cs_103) (n := 2000) (d := d + 1) (A := A_103) (μ := mu_103) (tp := true) (p0 := p_103_s) rfl ⟨m_199 d, trivial⟩ rfl (.inr pre0_ok) (by decide +kernel) (fun _ => post0_ok) r_103_s (allC c_103_s_0 allN) (allC (.inl ⟨p_103_2, r_103_2, fun q0 => (allC c_103_2_0 allN)⟩) allN)
/- Rules.hundredsOf (I)I -/
noncomputable def s_104 : vM := ([(3, 5, -1, 0), (0, -2147483648, 2147483647, 0)], (0, -2147483648, 2147483647, 0), 0, 0, [])
noncomputable def e_104 : vE := (104, s_104, pre0, post0)
noncomputable def L_104 : List vE := [e_199]
def cs_104 : List vC := []
def A_104 : Int → List Int → gH → gH → Prop := fun c xs h0 h => True
def mu_104 : Int → List Int → gH → gH → Nat := fun c xs h0 h => 0
def p_104_s : List vG := []
theorem r_104_s : vCovO true (eR0 e_104 L_104 cs_104 2000) p_104_s = true := by decide +kernel
theorem m_104 (d : Nat) : eC e_104 (d + 2) := eC_ok (e := e_104) (L := L_104) (cs := cs_104) (n := 2000) (d := d + 1) (A := A_104) (μ := mu_104) (tp := true) (p0 := p_104_s) rfl ⟨m_199 d, trivial⟩ rfl (.inr pre0_ok) (by decide +kernel) (fun _ => post0_ok) r_104_s allN allN
/- Rules.widthOf (I)I -/
noncomputable def s_105 : vM := ([(3, 5, -1, 0), (0, -2147483648, 2147483647, 0)], (0, -2147483648, 2147483647, 0), 0, 0, [])
noncomputable def e_105 : vE := (105, s_105, pre0, post0)
noncomputable def L_105 : List vE := [e_199]
def cs_105 : List vC := []
def A_105 : Int → List Int → gH → gH → Prop := fun c xs h0 h => True
def mu_105 : Int → List Int → gH → gH → Nat := fun c xs h0 h => 0
def p_105_s : List vG := []
theorem r_105_s : vCovO true (eR0 e_105 L_105 cs_105 2000) p_105_s = true := by decide +kernel
theorem m_105 (d : Nat) : eC e_105 (d + 2) := eC_ok (e := e_105) (L := L_105) (cs := cs_105) (n := 2000) (d := d + 1) (A := A_105) (μ := mu_105) (tp := true) (p0 := p_105_s) rfl ⟨m_199 d, trivial⟩ rfl (.inr pre0_ok) (by decide +kernel) (fun _ => post0_ok) r_105_s allN allN
/- Rules.set (II)V -/
noncomputable def s_106 : vM := ([(3, 5, -1, 0), (0, -2147483648, 2147483647, 0), (0, -2147483648, 2147483647, 0)], (9, 0, 0, 0), 0, 0, [(100, 0)])
noncomputable def e_106 : vE := (106, s_106, pre0, post0)
noncomputable def L_106 : List vE := [e_201]
def cs_106 : List vC := []
def A_106 : Int → List Int → gH → gH → Prop := fun c xs h0 h => True
def mu_106 : Int → List Int → gH → gH → Nat := fun c xs h0 h => 0
def p_106_s : List vG := []
theorem r_106_s : vCovO true (eR0 e_106 L_106 cs_106 2000) p_106_s = true := by decide +kernel
theorem m_106 (d : Nat) : eC e_106 (d + 2) := eC_ok (e := e_106) (L := L_106) (cs := cs_106) (n := 2000) (d := d + 1) (A := A_106) (μ := mu_106) (tp := true) (p0 := p_106_s) rfl ⟨m_201 d, trivial⟩ rfl (.inr pre0_ok) (by decide +kernel) (fun _ => post0_ok) r_106_s allN allN
/- Rules.push (I)V -/
noncomputable def s_110 : vM := ([(3, 5, -1, 0), (0, -2147483648, 2147483647, 0)], (9, 0, 0, 0), 0, 0, [(5, 10), (100, 0)])
noncomputable def e_110 : vE := (110, s_110, pre0, post0)
noncomputable def L_110 : List vE := [e_201]
def cs_110 : List vC := []
def A_110 : Int → List Int → gH → gH → Prop := fun c xs h0 h => True
def mu_110 : Int → List Int → gH → gH → Nat := fun c xs h0 h => 0
def p_110_s : List vG := []
theorem r_110_s : vCovO true (eR0 e_110 L_110 cs_110 2000) p_110_s = true := by decide +kernel
theorem m_110 (d : Nat) : eC e_110 (d + 2) := eC_ok (e := e_110) (L := L_110) (cs := cs_110) (n := 2000) (d := d + 1) (A := A_110) (μ := mu_110) (tp := true) (p0 := p_110_s) rfl ⟨m_201 d, trivial⟩ rfl (.inr pre0_ok) (by decide +kernel) (fun _ => post0_ok) r_110_s allN allN
/- Rules.pop ()I -/
noncomputable def s_111 : vM := ([(3, 5, -1, 0)], (0, -2147483648, 2147483647, 0), 0, 0, [(5, 10)])
noncomputable def e_111 : vE := (111, s_111, pre0, post0)
noncomputable def L_111 : List vE := [e_199, e_317]
def cs_111 : List vC := []
def A_111 : Int → List Int → gH → gH → Prop := fun c xs h0 h => True
def mu_111 : Int → List Int → gH → gH → Nat := fun c xs h0 h => 0
def p_111_s : List vG := []
theorem r_111_s : vCovO true (eR0 e_111 L_111 cs_111 2000) p_111_s = true := by decide +kernel
theorem m_111 (d : Nat) : eC e_111 (d + 2) := eC_ok (e := e_111) (L := L_111) (cs := cs_111) (n := 2000) (d := d + 1) (A := A_111) (μ := mu_111) (tp := true) (p0 := p_111_s) rfl ⟨m_199 d, ⟨m_317 d, trivial⟩⟩ rfl (.inr pre0_ok) (by decide +kernel) (fun _ => post0_ok) r_111_s allN allN
/- Rules.divide (II)I -/
noncomputable def s_113 : vM := ([(3, 5, -1, 0), (0, -2147483648, 2147483647, 0), (0, -2147483648, 2147483647, 0)], (0, -2147483648, 2147483647, 0), 0, 0, [(5, 11)])
noncomputable def e_113 : vE := (113, s_113, pre0, post0)
noncomputable def L_113 : List vE := []
def cs_113 : List vC := []
def A_113 : Int → List Int → gH → gH → Prop := fun c xs h0 h => True
def mu_113 : Int → List Int → gH → gH → Nat := fun c xs h0 h => 0
def p_113_s : List vG := []
theorem r_113_s : vCovO true (eR0 e_113 L_113 cs_113 2000) p_113_s = true := by decide +kernel
theorem m_113 (d : Nat) : eC e_113 (d + 1) := eC_ok (e := e_113) (L := L_113) (cs := cs_113) (n := 2000) (d := d + 0) (A := A_113) (μ := mu_113) (tp := true) (p0 := p_113_s) rfl trivial rfl (.inr pre0_ok) (by decide +kernel) (fun _ => post0_ok) r_113_s allN allN
/- Rules.join (III)I -/
noncomputable def s_112 : vM := ([(3, 5, -1, 0), (0, -2147483648, 2147483647, 0), (0, -2147483648, 2147483647, 0), (0, -2147483648, 2147483647, 0)], (0, -2147483648, 2147483647, 0), 0, 0, [(5, 11)])
noncomputable def e_112 : vE := (112, s_112, pre0, post0)
noncomputable def L_112 : List vE := [e_113]
def cs_112 : List vC := []
def A_112 : Int → List Int → gH → gH → Prop := fun c xs h0 h => True
def mu_112 : Int → List Int → gH → gH → Nat := fun c xs h0 h => 0
def p_112_s : List vG := []
theorem r_112_s : vCovO true (eR0 e_112 L_112 cs_112 2000) p_112_s = true := by decide +kernel
theorem m_112 (d : Nat) : eC e_112 (d + 2) := eC_ok (e := e_112) (L := L_112) (cs := cs_112) (n := 2000) (d := d + 1) (A := A_112) (μ := mu_112) (tp := true) (p0 := p_112_s) rfl ⟨m_113 d, trivial⟩ rfl (.inr pre0_ok) (by decide +kernel) (fun _ => post0_ok) r_112_s allN allN
/- Rules.step (I)V -/
noncomputable def s_109 : vM := ([(3, 5, -1, 0), (0, -2147483648, 2147483647, 0)], (9, 0, 0, 0), 0, 0, [(5, 10), (5, 11), (100, 0)])
noncomputable def e_109 : vE := (109, s_109, pre0, post0)
noncomputable def L_109 : List vE := [e_110, e_111, e_112, e_199]
def cs_109 : List vC := []
def A_109 : Int → List Int → gH → gH → Prop := fun c xs h0 h => True
def mu_109 : Int → List Int → gH → gH → Nat := fun c xs h0 h => 0
def p_109_s : List vG := []
theorem r_109_s : vCovO true (eR0 e_109 L_109 cs_109 2000) p_109_s = true := by decide +kernel
theorem m_109 (d : Nat) : eC e_109 (d + 3) := eC_ok (e := e_109) (L := L_109) (cs := cs_109) (n := 2000) (d := d + 2) (A := A_109) (μ := mu_109) (tp := true) (p0 := p_109_s) rfl ⟨m_110 d, ⟨m_111 d, ⟨m_112 d, ⟨m_199 (d + 1), trivial⟩⟩⟩⟩ rfl (.inr pre0_ok) (by decide +kernel) (fun _ => post0_ok) r_109_s allN allN
/- Rules.work (II)I -/
noncomputable def s_108 : vM := ([(3, 5, -1, 0), (0, -2147483648, 2147483647, 0), (0, -2147483648, 2147483647, 0)], (0, -2147483648, 2147483647, 0), 0, 0, [(5, 10), (5, 11), (100, 0)])
noncomputable def e_108 : vE := (108, s_108, pre0, post0)
noncomputable def L_108 : List vE := [e_109, e_111, e_199]
def cs_108 : List vC := [(7, [(0, (3, 5, -1, 0)), (1, (0, -2147483648, 2147483647, 0)), (2, (0, -2147483648, 2147483647, 0)), (3, (0, -2147483648, 2147483647, 0))])]
def mub_108_7 (a0 a1 a2 x0 x1 x2 x3 : Int) (h0 h : gH) : Nat := (2147483648 - x3).toNat
def A_108 : Int → List Int → gH → gH → Prop := fun c xs h0 h => True
def mu_108 : Int → List Int → gH → gH → Nat := fun c xs h0 h => match c.toNat with
  | 7 => (match xs with
    | [a0, a1, a2, x0, x1, x2, x3] => mub_108_7 a0 a1 a2 x0 x1 x2 x3 h0 h
    | _ => 0)
  | _ => 0
theorem q_108_0 {n0 n1 n2 : Int} {H0 H1 : gH}  : True ∧ ∀ q, none = some q → mub_108_7 n0 n1 n2 n0 n1 n2 n1 H0 H1 < q := by
  exact ⟨trivial, fun q hq => nomatch hq⟩
theorem c_108_s_0 : vOkm T0 (eP e_108 L_108 A_108 mu_108 none) 3 ([], (4000, [0, 1, 2, 1], [1], 7)) := vOk_in fun ρ η h => by
  obtain ⟨_⟩ := h
  exact q_108_0 (n0 := ρ 0) (n1 := ρ 1) (n2 := ρ 2) (H0 := η 0) (H1 := η 1) 
def p_108_s : List vG := [([], (4000, [0, 1, 2, 1], [1], 7))]
theorem r_108_s : vCovO true (eR0 e_108 L_108 cs_108 2000) p_108_s = true := by decide +kernel
theorem q_108_1 {q0 : Nat} {n0 n1 n2 n3 n4 n5 n6 n7 : Int} {H0 H1 H2 : gH} (f0 : n0 ≤ 2147483647) (f1 : (-2147483648) ≤ n0) (f2 : n1 ≤ 2147483647) (f3 : (-2147483648) ≤ n1) (f4 : (hLe T0 H0 H1 ∧ hFr s_108.2.2.2.2 H0 H1 ∧ hWt T0 H1) ∧ (True ∧ True) ∧ some q0 = some (mub_108_7 n2 n3 n4 n5 n6 n1 n0 H0 H1)) (f5 : n0 < n1) (f6 : n7 = w32 (n0 + 1)) : True ∧ ∀ q, some q0 = some q → mub_108_7 n2 n3 n4 n5 n6 n1 n7 H0 H2 < q := by
  have g5 := Option.some.inj f4.2.2
  unfold mub_108_7 at g5
  unfold mub_108_7
  unfold w32 at *
  refine ⟨?_, fun q hq => ?_⟩
  · trivial
  · have g6 := Option.some.inj hq
    subst g6
    omega
theorem c_108_7_0 {q0 : Nat} : vOkm T0 (eP e_108 L_108 A_108 mu_108 (some q0)) 3 ([(10, [9, 6], [], 1), (42, [6, 5], [], 0), (5000, [0, 1, 2, 3, 4, 5, 6], [0, 1], 7), (90, [5], [], -2147483648), (91, [5], [], 2147483647), (90, [6], [], -2147483648), (91, [6], [], 2147483647)], (4000, [3, 4, 5, 9], [3], 7)) := vOk_in fun ρ η h => by
  obtain ⟨f0, f1, f2, f3, f4, f5, f6, _⟩ := h
  exact q_108_1 (q0 := q0) (n0 := ρ 6) (n1 := ρ 5) (n2 := ρ 0) (n3 := ρ 1) (n4 := ρ 2) (n5 := ρ 3) (n6 := ρ 4) (n7 := ρ 9) (H0 := η 0) (H1 := η 1) (H2 := η 3) f6 f5 f4 f3 f2 f1 f0
def p_108_7 : List vG := [([(10, [9, 6], [], 1), (42, [6, 5], [], 0), (5000, [0, 1, 2, 3, 4, 5, 6], [0, 1], 7), (90, [5], [], -2147483648), (91, [5], [], 2147483647), (90, [6], [], -2147483648), (91, [6], [], 2147483647)], (4000, [3, 4, 5, 9], [3], 7))]
theorem r_108_7 : vCovO true (eRc e_108 L_108 cs_108 2000 (7, [(0, (3, 5, -1, 0)), (1, (0, -2147483648, 2147483647, 0)), (2, (0, -2147483648, 2147483647, 0)), (3, (0, -2147483648, 2147483647, 0))])) p_108_7 = true := by decide +kernel
theorem m_108 (d : Nat) : eC e_108 (d + 4) := eC_ok (e := e_108) (L := L_108) (cs := cs_108) (n := 2000) (d := d + 3) (A := A_108) (μ := mu_108) (tp := true) (p0 := p_108_s) rfl ⟨m_109 d, ⟨m_111 (d + 1), ⟨m_199 (d + 2), trivial⟩⟩⟩ rfl (.inr pre0_ok) (by decide +kernel) (fun _ => post0_ok) r_108_s (allC c_108_s_0 allN) (allC (.inl ⟨p_108_7, r_108_7, fun q0 => (allC c_108_7_0 allN)⟩) allN)
/- Rules.firstRight ()I -/
noncomputable def s_107 : vM := ([(3, 5, -1, 0)], (0, -2147483648, 2147483647, 0), 0, 0, [(5, 10), (5, 11), (100, 0)])
noncomputable def e_107 : vE := (107, s_107, pre0, post0)
noncomputable def L_107 : List vE := [e_108, e_199]
def cs_107 : List vC := [(2, [(0, (3, 5, -1, 0)), (1, (0, -2147483648, 2147483647, 0))])]
def mub_107_2 (a0 x0 x1 : Int) (h0 h : gH) : Nat := (2147483648 - x1).toNat
def A_107 : Int → List Int → gH → gH → Prop := fun c xs h0 h => True
def mu_107 : Int → List Int → gH → gH → Nat := fun c xs h0 h => match c.toNat with
  | 2 => (match xs with
    | [a0, x0, x1] => mub_107_2 a0 x0 x1 h0 h
    | _ => 0)
  | _ => 0
theorem q_107_0 {n0 n1 : Int} {H0 : gH}  : True ∧ ∀ q, none = some q → mub_107_2 n0 n0 n1 H0 H0 < q := by
  exact ⟨trivial, fun q hq => nomatch hq⟩
theorem c_107_s_0 : vOkm T0 (eP e_107 L_107 A_107 mu_107 none) 1 ([], (4000, [0, 1], [0], 2)) := vOk_in fun ρ η h => by
  obtain ⟨_⟩ := h
  exact q_107_0 (n0 := ρ 0) (n1 := ρ 1) (H0 := η 0) 
def p_107_s : List vG := [([], (4000, [0, 1], [0], 2))]
theorem r_107_s : vCovO true (eR0 e_107 L_107 cs_107 2000) p_107_s = true := by decide +kernel
theorem q_107_1 {q0 : Nat} {n0 n1 n2 n3 n4 : Int} {H0 H1 H2 : gH} (f0 : n0 ≤ 2147483647) (f1 : (-2147483648) ≤ n0) (f2 : (hLe T0 H0 H1 ∧ hFr s_107.2.2.2.2 H0 H1 ∧ hWt T0 H1) ∧ (True ∧ True) ∧ some q0 = some (mub_107_2 n1 n2 n0 H0 H1)) (f3 : n3 ≤ 2147483647) (f4 : (-2147483648) ≤ n3) (f5 : n0 < n3) (f6 : n4 = w32 (n0 + 1)) : True ∧ ∀ q, some q0 = some q → mub_107_2 n1 n2 n4 H0 H2 < q := by
  have g5 := Option.some.inj f2.2.2
  unfold mub_107_2 at g5
  unfold mub_107_2
  unfold w32 at *
  refine ⟨?_, fun q hq => ?_⟩
  · trivial
  · have g6 := Option.some.inj hq
    subst g6
    omega
theorem c_107_2_0 {q0 : Nat} : vOkm T0 (eP e_107 L_107 A_107 mu_107 (some q0)) 1 ([(10, [6, 2], [], 1), (42, [2, 3], [], 0), (90, [3], [], -2147483648), (91, [3], [], 2147483647), (5000, [0, 1, 2], [0, 1], 2), (90, [2], [], -2147483648), (91, [2], [], 2147483647)], (4000, [1, 6], [2], 2)) := vOk_in fun ρ η h => by
  obtain ⟨f0, f1, f2, f3, f4, f5, f6, _⟩ := h
  exact q_107_1 (q0 := q0) (n0 := ρ 2) (n1 := ρ 0) (n2 := ρ 1) (n3 := ρ 3) (n4 := ρ 6) (H0 := η 0) (H1 := η 1) (H2 := η 2) f6 f5 f4 f3 f2 f1 f0
theorem c_107_2_1 {q0 : Nat} : vOkm T0 (eP e_107 L_107 A_107 mu_107 (some q0)) 1 ([(10, [19, 2], [], 1), (42, [2, 3], [], 0), (90, [3], [], -2147483648), (91, [3], [], 2147483647), (5000, [0, 1, 2], [0, 1], 2), (90, [2], [], -2147483648), (91, [2], [], 2147483647)], (4000, [1, 19], [8], 2)) := vOk_in fun ρ η h => by
  obtain ⟨f0, f1, f2, f3, f4, f5, f6, _⟩ := h
  exact q_107_1 (q0 := q0) (n0 := ρ 2) (n1 := ρ 0) (n2 := ρ 1) (n3 := ρ 3) (n4 := ρ 19) (H0 := η 0) (H1 := η 1) (H2 := η 8) f6 f5 f4 f3 f2 f1 f0
theorem c_107_2_2 {q0 : Nat} : vOkm T0 (eP e_107 L_107 A_107 mu_107 (some q0)) 1 ([(10, [20, 2], [], 1), (42, [2, 3], [], 0), (90, [3], [], -2147483648), (91, [3], [], 2147483647), (5000, [0, 1, 2], [0, 1], 2), (90, [2], [], -2147483648), (91, [2], [], 2147483647)], (4000, [1, 20], [8], 2)) := vOk_in fun ρ η h => by
  obtain ⟨f0, f1, f2, f3, f4, f5, f6, _⟩ := h
  exact q_107_1 (q0 := q0) (n0 := ρ 2) (n1 := ρ 0) (n2 := ρ 1) (n3 := ρ 3) (n4 := ρ 20) (H0 := η 0) (H1 := η 1) (H2 := η 8) f6 f5 f4 f3 f2 f1 f0
theorem c_107_2_3 {q0 : Nat} : vOkm T0 (eP e_107 L_107 A_107 mu_107 (some q0)) 1 ([(10, [24, 2], [], 1), (42, [2, 3], [], 0), (90, [3], [], -2147483648), (91, [3], [], 2147483647), (5000, [0, 1, 2], [0, 1], 2), (90, [2], [], -2147483648), (91, [2], [], 2147483647)], (4000, [1, 24], [11], 2)) := vOk_in fun ρ η h => by
  obtain ⟨f0, f1, f2, f3, f4, f5, f6, _⟩ := h
  exact q_107_1 (q0 := q0) (n0 := ρ 2) (n1 := ρ 0) (n2 := ρ 1) (n3 := ρ 3) (n4 := ρ 24) (H0 := η 0) (H1 := η 1) (H2 := η 11) f6 f5 f4 f3 f2 f1 f0
theorem c_107_2_4 {q0 : Nat} : vOkm T0 (eP e_107 L_107 A_107 mu_107 (some q0)) 1 ([(10, [25, 2], [], 1), (42, [2, 3], [], 0), (90, [3], [], -2147483648), (91, [3], [], 2147483647), (5000, [0, 1, 2], [0, 1], 2), (90, [2], [], -2147483648), (91, [2], [], 2147483647)], (4000, [1, 25], [11], 2)) := vOk_in fun ρ η h => by
  obtain ⟨f0, f1, f2, f3, f4, f5, f6, _⟩ := h
  exact q_107_1 (q0 := q0) (n0 := ρ 2) (n1 := ρ 0) (n2 := ρ 1) (n3 := ρ 3) (n4 := ρ 25) (H0 := η 0) (H1 := η 1) (H2 := η 11) f6 f5 f4 f3 f2 f1 f0
theorem c_107_2_5 {q0 : Nat} : vOkm T0 (eP e_107 L_107 A_107 mu_107 (some q0)) 1 ([(10, [24, 2], [], 1), (42, [2, 3], [], 0), (90, [3], [], -2147483648), (91, [3], [], 2147483647), (5000, [0, 1, 2], [0, 1], 2), (90, [2], [], -2147483648), (91, [2], [], 2147483647)], (4000, [1, 24], [11], 2)) := vOk_in fun ρ η h => by
  obtain ⟨f0, f1, f2, f3, f4, f5, f6, _⟩ := h
  exact q_107_1 (q0 := q0) (n0 := ρ 2) (n1 := ρ 0) (n2 := ρ 1) (n3 := ρ 3) (n4 := ρ 24) (H0 := η 0) (H1 := η 1) (H2 := η 11) f6 f5 f4 f3 f2 f1 f0
theorem c_107_2_6 {q0 : Nat} : vOkm T0 (eP e_107 L_107 A_107 mu_107 (some q0)) 1 ([(10, [25, 2], [], 1), (42, [2, 3], [], 0), (90, [3], [], -2147483648), (91, [3], [], 2147483647), (5000, [0, 1, 2], [0, 1], 2), (90, [2], [], -2147483648), (91, [2], [], 2147483647)], (4000, [1, 25], [11], 2)) := vOk_in fun ρ η h => by
  obtain ⟨f0, f1, f2, f3, f4, f5, f6, _⟩ := h
  exact q_107_1 (q0 := q0) (n0 := ρ 2) (n1 := ρ 0) (n2 := ρ 1) (n3 := ρ 3) (n4 := ρ 25) (H0 := η 0) (H1 := η 1) (H2 := η 11) f6 f5 f4 f3 f2 f1 f0
theorem c_107_2_7 {q0 : Nat} : vOkm T0 (eP e_107 L_107 A_107 mu_107 (some q0)) 1 ([(10, [19, 2], [], 1), (42, [2, 3], [], 0), (90, [3], [], -2147483648), (91, [3], [], 2147483647), (5000, [0, 1, 2], [0, 1], 2), (90, [2], [], -2147483648), (91, [2], [], 2147483647)], (4000, [1, 19], [8], 2)) := vOk_in fun ρ η h => by
  obtain ⟨f0, f1, f2, f3, f4, f5, f6, _⟩ := h
  exact q_107_1 (q0 := q0) (n0 := ρ 2) (n1 := ρ 0) (n2 := ρ 1) (n3 := ρ 3) (n4 := ρ 19) (H0 := η 0) (H1 := η 1) (H2 := η 8) f6 f5 f4 f3 f2 f1 f0
theorem c_107_2_8 {q0 : Nat} : vOkm T0 (eP e_107 L_107 A_107 mu_107 (some q0)) 1 ([(10, [20, 2], [], 1), (42, [2, 3], [], 0), (90, [3], [], -2147483648), (91, [3], [], 2147483647), (5000, [0, 1, 2], [0, 1], 2), (90, [2], [], -2147483648), (91, [2], [], 2147483647)], (4000, [1, 20], [8], 2)) := vOk_in fun ρ η h => by
  obtain ⟨f0, f1, f2, f3, f4, f5, f6, _⟩ := h
  exact q_107_1 (q0 := q0) (n0 := ρ 2) (n1 := ρ 0) (n2 := ρ 1) (n3 := ρ 3) (n4 := ρ 20) (H0 := η 0) (H1 := η 1) (H2 := η 8) f6 f5 f4 f3 f2 f1 f0
theorem c_107_2_9 {q0 : Nat} : vOkm T0 (eP e_107 L_107 A_107 mu_107 (some q0)) 1 ([(10, [24, 2], [], 1), (42, [2, 3], [], 0), (90, [3], [], -2147483648), (91, [3], [], 2147483647), (5000, [0, 1, 2], [0, 1], 2), (90, [2], [], -2147483648), (91, [2], [], 2147483647)], (4000, [1, 24], [11], 2)) := vOk_in fun ρ η h => by
  obtain ⟨f0, f1, f2, f3, f4, f5, f6, _⟩ := h
  exact q_107_1 (q0 := q0) (n0 := ρ 2) (n1 := ρ 0) (n2 := ρ 1) (n3 := ρ 3) (n4 := ρ 24) (H0 := η 0) (H1 := η 1) (H2 := η 11) f6 f5 f4 f3 f2 f1 f0
theorem c_107_2_10 {q0 : Nat} : vOkm T0 (eP e_107 L_107 A_107 mu_107 (some q0)) 1 ([(10, [25, 2], [], 1), (42, [2, 3], [], 0), (90, [3], [], -2147483648), (91, [3], [], 2147483647), (5000, [0, 1, 2], [0, 1], 2), (90, [2], [], -2147483648), (91, [2], [], 2147483647)], (4000, [1, 25], [11], 2)) := vOk_in fun ρ η h => by
  obtain ⟨f0, f1, f2, f3, f4, f5, f6, _⟩ := h
  exact q_107_1 (q0 := q0) (n0 := ρ 2) (n1 := ρ 0) (n2 := ρ 1) (n3 := ρ 3) (n4 := ρ 25) (H0 := η 0) (H1 := η 1) (H2 := η 11) f6 f5 f4 f3 f2 f1 f0
theorem c_107_2_11 {q0 : Nat} : vOkm T0 (eP e_107 L_107 A_107 mu_107 (some q0)) 1 ([(10, [24, 2], [], 1), (42, [2, 3], [], 0), (90, [3], [], -2147483648), (91, [3], [], 2147483647), (5000, [0, 1, 2], [0, 1], 2), (90, [2], [], -2147483648), (91, [2], [], 2147483647)], (4000, [1, 24], [11], 2)) := vOk_in fun ρ η h => by
  obtain ⟨f0, f1, f2, f3, f4, f5, f6, _⟩ := h
  exact q_107_1 (q0 := q0) (n0 := ρ 2) (n1 := ρ 0) (n2 := ρ 1) (n3 := ρ 3) (n4 := ρ 24) (H0 := η 0) (H1 := η 1) (H2 := η 11) f6 f5 f4 f3 f2 f1 f0
theorem c_107_2_12 {q0 : Nat} : vOkm T0 (eP e_107 L_107 A_107 mu_107 (some q0)) 1 ([(10, [25, 2], [], 1), (42, [2, 3], [], 0), (90, [3], [], -2147483648), (91, [3], [], 2147483647), (5000, [0, 1, 2], [0, 1], 2), (90, [2], [], -2147483648), (91, [2], [], 2147483647)], (4000, [1, 25], [11], 2)) := vOk_in fun ρ η h => by
  obtain ⟨f0, f1, f2, f3, f4, f5, f6, _⟩ := h
  exact q_107_1 (q0 := q0) (n0 := ρ 2) (n1 := ρ 0) (n2 := ρ 1) (n3 := ρ 3) (n4 := ρ 25) (H0 := η 0) (H1 := η 1) (H2 := η 11) f6 f5 f4 f3 f2 f1 f0
def p_107_2 : List vG := [([(10, [6, 2], [], 1), (42, [2, 3], [], 0), (90, [3], [], -2147483648), (91, [3], [], 2147483647), (5000, [0, 1, 2], [0, 1], 2), (90, [2], [], -2147483648), (91, [2], [], 2147483647)], (4000, [1, 6], [2], 2)),
  ([(10, [19, 2], [], 1), (42, [2, 3], [], 0), (90, [3], [], -2147483648), (91, [3], [], 2147483647), (5000, [0, 1, 2], [0, 1], 2), (90, [2], [], -2147483648), (91, [2], [], 2147483647)], (4000, [1, 19], [8], 2)),
  ([(10, [20, 2], [], 1), (42, [2, 3], [], 0), (90, [3], [], -2147483648), (91, [3], [], 2147483647), (5000, [0, 1, 2], [0, 1], 2), (90, [2], [], -2147483648), (91, [2], [], 2147483647)], (4000, [1, 20], [8], 2)),
  ([(10, [24, 2], [], 1), (42, [2, 3], [], 0), (90, [3], [], -2147483648), (91, [3], [], 2147483647), (5000, [0, 1, 2], [0, 1], 2), (90, [2], [], -2147483648), (91, [2], [], 2147483647)], (4000, [1, 24], [11], 2)),
  ([(10, [25, 2], [], 1), (42, [2, 3], [], 0), (90, [3], [], -2147483648), (91, [3], [], 2147483647), (5000, [0, 1, 2], [0, 1], 2), (90, [2], [], -2147483648), (91, [2], [], 2147483647)], (4000, [1, 25], [11], 2)),
  ([(10, [24, 2], [], 1), (42, [2, 3], [], 0), (90, [3], [], -2147483648), (91, [3], [], 2147483647), (5000, [0, 1, 2], [0, 1], 2), (90, [2], [], -2147483648), (91, [2], [], 2147483647)], (4000, [1, 24], [11], 2)),
  ([(10, [25, 2], [], 1), (42, [2, 3], [], 0), (90, [3], [], -2147483648), (91, [3], [], 2147483647), (5000, [0, 1, 2], [0, 1], 2), (90, [2], [], -2147483648), (91, [2], [], 2147483647)], (4000, [1, 25], [11], 2)),
  ([(10, [19, 2], [], 1), (42, [2, 3], [], 0), (90, [3], [], -2147483648), (91, [3], [], 2147483647), (5000, [0, 1, 2], [0, 1], 2), (90, [2], [], -2147483648), (91, [2], [], 2147483647)], (4000, [1, 19], [8], 2)),
  ([(10, [20, 2], [], 1), (42, [2, 3], [], 0), (90, [3], [], -2147483648), (91, [3], [], 2147483647), (5000, [0, 1, 2], [0, 1], 2), (90, [2], [], -2147483648), (91, [2], [], 2147483647)], (4000, [1, 20], [8], 2)),
  ([(10, [24, 2], [], 1), (42, [2, 3], [], 0), (90, [3], [], -2147483648), (91, [3], [], 2147483647), (5000, [0, 1, 2], [0, 1], 2), (90, [2], [], -2147483648), (91, [2], [], 2147483647)], (4000, [1, 24], [11], 2)),
  ([(10, [25, 2], [], 1), (42, [2, 3], [], 0), (90, [3], [], -2147483648), (91, [3], [], 2147483647), (5000, [0, 1, 2], [0, 1], 2), (90, [2], [], -2147483648), (91, [2], [], 2147483647)], (4000, [1, 25], [11], 2)),
  ([(10, [24, 2], [], 1), (42, [2, 3], [], 0), (90, [3], [], -2147483648), (91, [3], [], 2147483647), (5000, [0, 1, 2], [0, 1], 2), (90, [2], [], -2147483648), (91, [2], [], 2147483647)], (4000, [1, 24], [11], 2)),
  ([(10, [25, 2], [], 1), (42, [2, 3], [], 0), (90, [3], [], -2147483648), (91, [3], [], 2147483647), (5000, [0, 1, 2], [0, 1], 2), (90, [2], [], -2147483648), (91, [2], [], 2147483647)], (4000, [1, 25], [11], 2))]
theorem r_107_2 : vCovO true (eRc e_107 L_107 cs_107 2000 (2, [(0, (3, 5, -1, 0)), (1, (0, -2147483648, 2147483647, 0))])) p_107_2 = true := by decide +kernel
theorem m_107 (d : Nat) : eC e_107 (d + 5) := eC_ok (e := e_107) (L := L_107) (cs := cs_107) (n := 2000) (d := d + 4) (A := A_107) (μ := mu_107) (tp := true) (p0 := p_107_s) rfl ⟨m_108 d, ⟨m_199 (d + 3), trivial⟩⟩ rfl (.inr pre0_ok) (by decide +kernel) (fun _ => post0_ok) r_107_s (allC c_107_s_0 allN) (allC (.inl ⟨p_107_2, r_107_2, fun q0 => (allC c_107_2_0 (allC c_107_2_1 (allC c_107_2_2 (allC c_107_2_3 (allC c_107_2_4 (allC c_107_2_5 (allC c_107_2_6 (allC c_107_2_7 (allC c_107_2_8 (allC c_107_2_9 (allC c_107_2_10 (allC c_107_2_11 (allC c_107_2_12 allN)))))))))))))⟩) allN)
/- MixStage.isSample (J)Z -/
noncomputable def s_198 : vM := ([(1, 0, 0, 0)], (0, 0, 1, 0), 0, 0, [])
noncomputable def e_198 : vE := (198, s_198, pre0, post0)
noncomputable def L_198 : List vE := []
def cs_198 : List vC := []
def A_198 : Int → List Int → gH → gH → Prop := fun c xs h0 h => True
def mu_198 : Int → List Int → gH → gH → Nat := fun c xs h0 h => 0
def p_198_s : List vG := []
theorem r_198_s : vCovO true (eR0 e_198 L_198 cs_198 2000) p_198_s = true := by decide +kernel
theorem m_198 (d : Nat) : eC e_198 (d + 1) := eC_ok (e := e_198) (L := L_198) (cs := cs_198) (n := 2000) (d := d + 0) (A := A_198) (μ := mu_198) (tp := true) (p0 := p_198_s) rfl trivial rfl (.inr pre0_ok) (by decide +kernel) (fun _ => post0_ok) r_198_s allN allN
/- Sound.canWave (IIII)Z -/
noncomputable def s_118 : vM := ([(3, 7, -1, 0), (0, -2147483648, 2147483647, 0), (0, -2147483648, 2147483647, 0), (0, -2147483648, 2147483647, 0), (0, -2147483648, 2147483647, 0)], (0, 0, 1, 0), 0, 0, [])
noncomputable def e_118 : vE := (118, s_118, pre0, post0)
noncomputable def L_118 : List vE := [e_198]
def cs_118 : List vC := []
def A_118 : Int → List Int → gH → gH → Prop := fun c xs h0 h => True
def mu_118 : Int → List Int → gH → gH → Nat := fun c xs h0 h => 0
def p_118_s : List vG := []
theorem r_118_s : vCovO true (eR0 e_118 L_118 cs_118 2000) p_118_s = true := by decide +kernel
theorem m_118 (d : Nat) : eC e_118 (d + 2) := eC_ok (e := e_118) (L := L_118) (cs := cs_118) (n := 2000) (d := d + 1) (A := A_118) (μ := mu_118) (tp := true) (p0 := p_118_s) rfl ⟨m_198 d, trivial⟩ rfl (.inr pre0_ok) (by decide +kernel) (fun _ => post0_ok) r_118_s allN allN
/- Tracer.seekHeard (ILMixStage$Cue;)V -/
noncomputable def s_134 : vM := ([(3, 9, 281, 0), (0, -2147483648, 2147483647, 0), (3, 1, -1, 0)], (9, 0, 0, 0), 0, 0, [(10, 0), (10, 1), (10, 2), (100, 0)])
noncomputable def e_134 : vE := (134, s_134, pre0, post0)
noncomputable def L_134 : List vE := [e_37, e_40, e_53, e_201, e_203]
def cs_134 : List vC := [(32, [(0, (3, 9, 281, 0)), (1, (0, -2147483648, 2147483647, 0)), (2, (3, 1, -1, 0)), (3, (0, -2147483648, 2147483647, 0)), (4, (0, -2147483648, 2147483647, 0))])]
def mub_134_32 (a0 a1 a2 x0 x1 x2 x3 x4 : Int) (h0 h : gH) : Nat := (2147483648 - x4).toNat
def A_134 : Int → List Int → gH → gH → Prop := fun c xs h0 h => True
def mu_134 : Int → List Int → gH → gH → Nat := fun c xs h0 h => match c.toNat with
  | 32 => (match xs with
    | [a0, a1, a2, x0, x1, x2, x3, x4] => mub_134_32 a0 a1 a2 x0 x1 x2 x3 x4 h0 h
    | _ => 0)
  | _ => 0
theorem q_134_0 {n0 n1 n2 n3 n4 : Int} {H0 H1 : gH}  : True ∧ ∀ q, none = some q → mub_134_32 n0 n1 n2 n0 n1 n2 n3 n4 H0 H1 < q := by
  exact ⟨trivial, fun q hq => nomatch hq⟩
theorem c_134_s_0 : vOkm T0 (eP e_134 L_134 A_134 mu_134 none) 3 ([], (4000, [0, 1, 2, 6, 11], [3], 32)) := vOk_in fun ρ η h => by
  obtain ⟨_⟩ := h
  exact q_134_0 (n0 := ρ 0) (n1 := ρ 1) (n2 := ρ 2) (n3 := ρ 6) (n4 := ρ 11) (H0 := η 0) (H1 := η 3) 
def p_134_s : List vG := [([], (4000, [0, 1, 2, 6, 11], [3], 32))]
theorem r_134_s : vCovO true (eR0 e_134 L_134 cs_134 2000) p_134_s = true := by decide +kernel
theorem q_134_1 {q0 : Nat} {n0 n1 n2 n3 n4 n5 n6 n7 n8 : Int} {H0 H1 H2 : gH} (f0 : n0 ≤ 2147483647) (f1 : (-2147483648) ≤ n0) (f2 : n1 ≤ 2147483647) (f3 : (-2147483648) ≤ n1) (f4 : (hLe T0 H0 H1 ∧ hFr s_134.2.2.2.2 H0 H1 ∧ hWt T0 H1) ∧ (True ∧ True) ∧ some q0 = some (mub_134_32 n2 n3 n4 n5 n6 n7 n1 n0 H0 H1)) (f5 : n0 < n1) (f6 : n8 = w32 (n0 + 1)) : True ∧ ∀ q, some q0 = some q → mub_134_32 n2 n3 n4 n5 n6 n7 n1 n8 H0 H2 < q := by
  have g5 := Option.some.inj f4.2.2
  unfold mub_134_32 at g5
  unfold mub_134_32
  unfold w32 at *
  refine ⟨?_, fun q hq => ?_⟩
  · trivial
  · have g6 := Option.some.inj hq
    subst g6
    omega
theorem c_134_32_0 {q0 : Nat} : vOkm T0 (eP e_134 L_134 A_134 mu_134 (some q0)) 3 ([(10, [11, 7], [], 1), (42, [7, 6], [], 0), (5000, [0, 1, 2, 3, 4, 5, 6, 7], [0, 1], 32), (90, [6], [], -2147483648), (91, [6], [], 2147483647), (90, [7], [], -2147483648), (91, [7], [], 2147483647)], (4000, [3, 4, 5, 6, 11], [2], 32)) := vOk_in fun ρ η h => by
  obtain ⟨f0, f1, f2, f3, f4, f5, f6, _⟩ := h
  exact q_134_1 (q0 := q0) (n0 := ρ 7) (n1 := ρ 6) (n2 := ρ 0) (n3 := ρ 1) (n4 := ρ 2) (n5 := ρ 3) (n6 := ρ 4) (n7 := ρ 5) (n8 := ρ 11) (H0 := η 0) (H1 := η 1) (H2 := η 2) f6 f5 f4 f3 f2 f1 f0
theorem c_134_32_1 {q0 : Nat} : vOkm T0 (eP e_134 L_134 A_134 mu_134 (some q0)) 3 ([(10, [15, 7], [], 1), (42, [7, 6], [], 0), (5000, [0, 1, 2, 3, 4, 5, 6, 7], [0, 1], 32), (90, [6], [], -2147483648), (91, [6], [], 2147483647), (90, [7], [], -2147483648), (91, [7], [], 2147483647)], (4000, [3, 4, 5, 6, 15], [3], 32)) := vOk_in fun ρ η h => by
  obtain ⟨f0, f1, f2, f3, f4, f5, f6, _⟩ := h
  exact q_134_1 (q0 := q0) (n0 := ρ 7) (n1 := ρ 6) (n2 := ρ 0) (n3 := ρ 1) (n4 := ρ 2) (n5 := ρ 3) (n6 := ρ 4) (n7 := ρ 5) (n8 := ρ 15) (H0 := η 0) (H1 := η 1) (H2 := η 3) f6 f5 f4 f3 f2 f1 f0
def p_134_32 : List vG := [([(10, [11, 7], [], 1), (42, [7, 6], [], 0), (5000, [0, 1, 2, 3, 4, 5, 6, 7], [0, 1], 32), (90, [6], [], -2147483648), (91, [6], [], 2147483647), (90, [7], [], -2147483648), (91, [7], [], 2147483647)], (4000, [3, 4, 5, 6, 11], [2], 32)),
  ([(10, [15, 7], [], 1), (42, [7, 6], [], 0), (5000, [0, 1, 2, 3, 4, 5, 6, 7], [0, 1], 32), (90, [6], [], -2147483648), (91, [6], [], 2147483647), (90, [7], [], -2147483648), (91, [7], [], 2147483647)], (4000, [3, 4, 5, 6, 15], [3], 32))]
theorem r_134_32 : vCovO true (eRc e_134 L_134 cs_134 2000 (32, [(0, (3, 9, 281, 0)), (1, (0, -2147483648, 2147483647, 0)), (2, (3, 1, -1, 0)), (3, (0, -2147483648, 2147483647, 0)), (4, (0, -2147483648, 2147483647, 0))])) p_134_32 = true := by decide +kernel
theorem m_134 (d : Nat) : eC e_134 (d + 5) := eC_ok (e := e_134) (L := L_134) (cs := cs_134) (n := 2000) (d := d + 4) (A := A_134) (μ := mu_134) (tp := true) (p0 := p_134_s) rfl ⟨m_37 d, ⟨m_40 (d + 1), ⟨m_53 (d + 2), ⟨m_201 (d + 3), ⟨m_203 (d + 2), trivial⟩⟩⟩⟩⟩ rfl (.inr pre0_ok) (by decide +kernel) (fun _ => post0_ok) r_134_s (allC c_134_s_0 allN) (allC (.inl ⟨p_134_32, r_134_32, fun q0 => (allC c_134_32_0 (allC c_134_32_1 allN))⟩) allN)
/- Tracer.isSought (III)Z -/
noncomputable def s_135 : vM := ([(3, 9, 281, 0), (0, -2147483648, 2147483647, 0), (0, -2147483648, 2147483647, 0), (0, -2147483648, 2147483647, 0)], (0, 0, 1, 0), 0, 0, [])
noncomputable def e_135 : vE := (135, s_135, pre0, post0)
noncomputable def L_135 : List vE := [e_58, e_199]
def cs_135 : List vC := []
def A_135 : Int → List Int → gH → gH → Prop := fun c xs h0 h => True
def mu_135 : Int → List Int → gH → gH → Nat := fun c xs h0 h => 0
def p_135_s : List vG := []
theorem r_135_s : vCovO true (eR0 e_135 L_135 cs_135 2000) p_135_s = true := by decide +kernel
theorem m_135 (d : Nat) : eC e_135 (d + 3) := eC_ok (e := e_135) (L := L_135) (cs := cs_135) (n := 2000) (d := d + 2) (A := A_135) (μ := mu_135) (tp := true) (p0 := p_135_s) rfl ⟨m_58 d, ⟨m_199 (d + 1), trivial⟩⟩ rfl (.inr pre0_ok) (by decide +kernel) (fun _ => post0_ok) r_135_s allN allN
/- Tracer.firstFrameOf (ILMixStage$Cue;I)I -/
noncomputable def s_136 : vM := ([(3, 9, 281, 0), (0, -2147483648, 2147483647, 0), (3, 1, -1, 0), (0, -2147483648, 2147483647, 0)], (0, -2147483648, 2147483647, 0), 0, 0, [(10, 0), (10, 1), (10, 2), (100, 0)])
noncomputable def e_136 : vE := (136, s_136, pre0, post0)
noncomputable def L_136 : List vE := [e_53, e_134, e_135]
def cs_136 : List vC := [(19, [(0, (3, 9, 281, 0)), (1, (0, -2147483648, 2147483647, 0)), (2, (3, 1, -1, 0)), (3, (0, -2147483648, 2147483647, 0)), (4, (0, -2147483648, 2147483647, 0)), (5, (0, -2147483648, 2147483647, 0))])]
def mub_136_19 (a0 a1 a2 a3 x0 x1 x2 x3 x4 x5 : Int) (h0 h : gH) : Nat := (2147483648 - x5).toNat
def A_136 : Int → List Int → gH → gH → Prop := fun c xs h0 h => True
def mu_136 : Int → List Int → gH → gH → Nat := fun c xs h0 h => match c.toNat with
  | 19 => (match xs with
    | [a0, a1, a2, a3, x0, x1, x2, x3, x4, x5] => mub_136_19 a0 a1 a2 a3 x0 x1 x2 x3 x4 x5 h0 h
    | _ => 0)
  | _ => 0
theorem q_136_0 {n0 n1 n2 n3 n4 n5 : Int} {H0 H1 : gH}  : True ∧ ∀ q, none = some q → mub_136_19 n0 n1 n2 n3 n0 n1 n2 n3 n4 n5 H0 H1 < q := by
  exact ⟨trivial, fun q hq => nomatch hq⟩
theorem c_136_s_0 : vOkm T0 (eP e_136 L_136 A_136 mu_136 none) 4 ([], (4000, [0, 1, 2, 3, 5, 6], [2], 19)) := vOk_in fun ρ η h => by
  obtain ⟨_⟩ := h
  exact q_136_0 (n0 := ρ 0) (n1 := ρ 1) (n2 := ρ 2) (n3 := ρ 3) (n4 := ρ 5) (n5 := ρ 6) (H0 := η 0) (H1 := η 2) 
def p_136_s : List vG := [([], (4000, [0, 1, 2, 3, 5, 6], [2], 19))]
theorem r_136_s : vCovO true (eR0 e_136 L_136 cs_136 2000) p_136_s = true := by decide +kernel
theorem q_136_1 {q0 : Nat} {n0 n1 n2 n3 n4 n5 n6 n7 n8 n9 n10 : Int} {H0 H1 H2 : gH} (f0 : n0 ≤ 2147483647) (f1 : (-2147483648) ≤ n0) (f2 : n1 ≤ 2147483647) (f3 : (-2147483648) ≤ n1) (f4 : (hLe T0 H0 H1 ∧ hFr s_136.2.2.2.2 H0 H1 ∧ hWt T0 H1) ∧ (True ∧ True) ∧ some q0 = some (mub_136_19 n2 n3 n4 n5 n6 n7 n8 n9 n1 n0 H0 H1)) (f5 : n0 < n1) (f6 : n10 = w32 (n0 + 1)) : True ∧ ∀ q, some q0 = some q → mub_136_19 n2 n3 n4 n5 n6 n7 n8 n9 n1 n10 H0 H2 < q := by
  have g5 := Option.some.inj f4.2.2
  unfold mub_136_19 at g5
  unfold mub_136_19
  unfold w32 at *
  refine ⟨?_, fun q hq => ?_⟩
  · trivial
  · have g6 := Option.some.inj hq
    subst g6
    omega
theorem c_136_19_0 {q0 : Nat} : vOkm T0 (eP e_136 L_136 A_136 mu_136 (some q0)) 4 ([(10, [11, 9], [], 1), (42, [9, 8], [], 0), (5000, [0, 1, 2, 3, 4, 5, 6, 7, 8, 9], [0, 1], 19), (90, [8], [], -2147483648), (91, [8], [], 2147483647), (90, [9], [], -2147483648), (91, [9], [], 2147483647)], (4000, [4, 5, 6, 7, 8, 11], [2], 19)) := vOk_in fun ρ η h => by
  obtain ⟨f0, f1, f2, f3, f4, f5, f6, _⟩ := h
  exact q_136_1 (q0 := q0) (n0 := ρ 9) (n1 := ρ 8) (n2 := ρ 0) (n3 := ρ 1) (n4 := ρ 2) (n5 := ρ 3) (n6 := ρ 4) (n7 := ρ 5) (n8 := ρ 6) (n9 := ρ 7) (n10 := ρ 11) (H0 := η 0) (H1 := η 1) (H2 := η 2) f6 f5 f4 f3 f2 f1 f0
def p_136_19 : List vG := [([(10, [11, 9], [], 1), (42, [9, 8], [], 0), (5000, [0, 1, 2, 3, 4, 5, 6, 7, 8, 9], [0, 1], 19), (90, [8], [], -2147483648), (91, [8], [], 2147483647), (90, [9], [], -2147483648), (91, [9], [], 2147483647)], (4000, [4, 5, 6, 7, 8, 11], [2], 19))]
theorem r_136_19 : vCovO true (eRc e_136 L_136 cs_136 2000 (19, [(0, (3, 9, 281, 0)), (1, (0, -2147483648, 2147483647, 0)), (2, (3, 1, -1, 0)), (3, (0, -2147483648, 2147483647, 0)), (4, (0, -2147483648, 2147483647, 0)), (5, (0, -2147483648, 2147483647, 0))])) p_136_19 = true := by decide +kernel
theorem m_136 (d : Nat) : eC e_136 (d + 6) := eC_ok (e := e_136) (L := L_136) (cs := cs_136) (n := 2000) (d := d + 5) (A := A_136) (μ := mu_136) (tp := true) (p0 := p_136_s) rfl ⟨m_53 (d + 3), ⟨m_134 d, ⟨m_135 (d + 2), trivial⟩⟩⟩ rfl (.inr pre0_ok) (by decide +kernel) (fun _ => post0_ok) r_136_s (allC c_136_s_0 allN) (allC (.inl ⟨p_136_19, r_136_19, fun q0 => (allC c_136_19_0 allN)⟩) allN)
/- Tracer.nextSought (I)I -/
noncomputable def s_138 : vM := ([(3, 9, 281, 0), (0, -2147483648, 2147483647, 0)], (0, -2147483648, 2147483647, 0), 0, 0, [])
noncomputable def e_138 : vE := (138, s_138, pre0, post0)
noncomputable def L_138 : List vE := [e_199]
def cs_138 : List vC := [(4, [(0, (3, 9, 281, 0)), (1, (0, -2147483648, 2147483647, 0)), (2, (0, -2147483648, 2147483647, 0))])]
def mub_138_4 (a0 a1 x0 x1 x2 : Int) (h0 h : gH) : Nat := (2147483648 - x2).toNat
def A_138 : Int → List Int → gH → gH → Prop := fun c xs h0 h => True
def mu_138 : Int → List Int → gH → gH → Nat := fun c xs h0 h => match c.toNat with
  | 4 => (match xs with
    | [a0, a1, x0, x1, x2] => mub_138_4 a0 a1 x0 x1 x2 h0 h
    | _ => 0)
  | _ => 0
theorem q_138_0 {n0 n1 n2 : Int} {H0 : gH}  : True ∧ ∀ q, none = some q → mub_138_4 n0 n1 n0 n1 n2 H0 H0 < q := by
  exact ⟨trivial, fun q hq => nomatch hq⟩
theorem c_138_s_0 : vOkm T0 (eP e_138 L_138 A_138 mu_138 none) 2 ([], (4000, [0, 1, 3], [0], 4)) := vOk_in fun ρ η h => by
  obtain ⟨_⟩ := h
  exact q_138_0 (n0 := ρ 0) (n1 := ρ 1) (n2 := ρ 3) (H0 := η 0) 
def p_138_s : List vG := [([], (4000, [0, 1, 3], [0], 4))]
theorem r_138_s : vCovO true (eR0 e_138 L_138 cs_138 2000) p_138_s = true := by decide +kernel
theorem q_138_1 {q0 : Nat} {n0 n1 n2 n3 n4 n5 n6 : Int} {H0 H1 H2 : gH} (f0 : n0 ≤ 2147483647) (f1 : (-2147483648) ≤ n0) (f2 : (hLe T0 H0 H1 ∧ hFr s_138.2.2.2.2 H0 H1 ∧ hWt T0 H1) ∧ (True ∧ True) ∧ some q0 = some (mub_138_4 n1 n2 n3 n4 n0 H0 H1)) (f3 : n5 = 60) (f4 : n0 < n5) (f5 : n6 = w32 (n0 + 1)) : True ∧ ∀ q, some q0 = some q → mub_138_4 n1 n2 n3 n4 n6 H0 H2 < q := by
  have g5 := Option.some.inj f2.2.2
  unfold mub_138_4 at g5
  unfold mub_138_4
  unfold w32 at *
  refine ⟨?_, fun q hq => ?_⟩
  · trivial
  · have g6 := Option.some.inj hq
    subst g6
    omega
theorem c_138_4_0 {q0 : Nat} : vOkm T0 (eP e_138 L_138 A_138 mu_138 (some q0)) 2 ([(10, [8, 4], [], 1), (42, [4, 5], [], 0), (0, [5], [], 60), (5000, [0, 1, 2, 3, 4], [0, 1], 4), (90, [4], [], -2147483648), (91, [4], [], 2147483647)], (4000, [2, 3, 8], [2], 4)) := vOk_in fun ρ η h => by
  obtain ⟨f0, f1, f2, f3, f4, f5, _⟩ := h
  exact q_138_1 (q0 := q0) (n0 := ρ 4) (n1 := ρ 0) (n2 := ρ 1) (n3 := ρ 2) (n4 := ρ 3) (n5 := ρ 5) (n6 := ρ 8) (H0 := η 0) (H1 := η 1) (H2 := η 2) f5 f4 f3 f2 f1 f0
def p_138_4 : List vG := [([(10, [8, 4], [], 1), (42, [4, 5], [], 0), (0, [5], [], 60), (5000, [0, 1, 2, 3, 4], [0, 1], 4), (90, [4], [], -2147483648), (91, [4], [], 2147483647)], (4000, [2, 3, 8], [2], 4))]
theorem r_138_4 : vCovO true (eRc e_138 L_138 cs_138 2000 (4, [(0, (3, 9, 281, 0)), (1, (0, -2147483648, 2147483647, 0)), (2, (0, -2147483648, 2147483647, 0))])) p_138_4 = true := by decide +kernel
theorem m_138 (d : Nat) : eC e_138 (d + 2) := eC_ok (e := e_138) (L := L_138) (cs := cs_138) (n := 2000) (d := d + 1) (A := A_138) (μ := mu_138) (tp := true) (p0 := p_138_s) rfl ⟨m_199 d, trivial⟩ rfl (.inr pre0_ok) (by decide +kernel) (fun _ => post0_ok) r_138_s (allC c_138_s_0 allN) (allC (.inl ⟨p_138_4, r_138_4, fun q0 => (allC c_138_4_0 allN)⟩) allN)
/- Tracer.countSought ()I -/
noncomputable def s_139 : vM := ([(3, 9, 281, 0)], (0, -2147483648, 2147483647, 0), 0, 0, [])
noncomputable def e_139 : vE := (139, s_139, pre0, post0)
noncomputable def L_139 : List vE := [e_199]
def cs_139 : List vC := [(4, [(0, (3, 9, 281, 0)), (1, (0, -2147483648, 2147483647, 0)), (2, (0, -2147483648, 2147483647, 0))])]
def mub_139_4 (a0 x0 x1 x2 : Int) (h0 h : gH) : Nat := (2147483648 - x2).toNat
def A_139 : Int → List Int → gH → gH → Prop := fun c xs h0 h => True
def mu_139 : Int → List Int → gH → gH → Nat := fun c xs h0 h => match c.toNat with
  | 4 => (match xs with
    | [a0, x0, x1, x2] => mub_139_4 a0 x0 x1 x2 h0 h
    | _ => 0)
  | _ => 0
theorem q_139_0 {n0 n1 n2 : Int} {H0 : gH}  : True ∧ ∀ q, none = some q → mub_139_4 n0 n0 n1 n2 H0 H0 < q := by
  exact ⟨trivial, fun q hq => nomatch hq⟩
theorem c_139_s_0 : vOkm T0 (eP e_139 L_139 A_139 mu_139 none) 1 ([], (4000, [0, 1, 2], [0], 4)) := vOk_in fun ρ η h => by
  obtain ⟨_⟩ := h
  exact q_139_0 (n0 := ρ 0) (n1 := ρ 1) (n2 := ρ 2) (H0 := η 0) 
def p_139_s : List vG := [([], (4000, [0, 1, 2], [0], 4))]
theorem r_139_s : vCovO true (eR0 e_139 L_139 cs_139 2000) p_139_s = true := by decide +kernel
theorem q_139_1 {q0 : Nat} {n0 n1 n2 n3 n4 n5 n6 : Int} {H0 H1 H2 : gH} (f0 : n0 ≤ 2147483647) (f1 : (-2147483648) ≤ n0) (f2 : (hLe T0 H0 H1 ∧ hFr s_139.2.2.2.2 H0 H1 ∧ hWt T0 H1) ∧ (True ∧ True) ∧ some q0 = some (mub_139_4 n1 n2 n3 n0 H0 H1)) (f3 : n4 = 60) (f4 : n0 < n4) (f5 : n5 = w32 (n0 + 1)) : True ∧ ∀ q, some q0 = some q → mub_139_4 n1 n2 n6 n5 H0 H2 < q := by
  have g5 := Option.some.inj f2.2.2
  unfold mub_139_4 at g5
  unfold mub_139_4
  unfold w32 at *
  refine ⟨?_, fun q hq => ?_⟩
  · trivial
  · have g6 := Option.some.inj hq
    subst g6
    omega
theorem c_139_4_0 {q0 : Nat} : vOkm T0 (eP e_139 L_139 A_139 mu_139 (some q0)) 1 ([(10, [8, 3], [], 1), (42, [3, 4], [], 0), (0, [4], [], 60), (5000, [0, 1, 2, 3], [0, 1], 4), (90, [3], [], -2147483648), (91, [3], [], 2147483647)], (4000, [1, 7, 8], [2], 4)) := vOk_in fun ρ η h => by
  obtain ⟨f0, f1, f2, f3, f4, f5, _⟩ := h
  exact q_139_1 (q0 := q0) (n0 := ρ 3) (n1 := ρ 0) (n2 := ρ 1) (n3 := ρ 2) (n4 := ρ 4) (n5 := ρ 8) (n6 := ρ 7) (H0 := η 0) (H1 := η 1) (H2 := η 2) f5 f4 f3 f2 f1 f0
def p_139_4 : List vG := [([(10, [8, 3], [], 1), (42, [3, 4], [], 0), (0, [4], [], 60), (5000, [0, 1, 2, 3], [0, 1], 4), (90, [3], [], -2147483648), (91, [3], [], 2147483647)], (4000, [1, 7, 8], [2], 4))]
theorem r_139_4 : vCovO true (eRc e_139 L_139 cs_139 2000 (4, [(0, (3, 9, 281, 0)), (1, (0, -2147483648, 2147483647, 0)), (2, (0, -2147483648, 2147483647, 0))])) p_139_4 = true := by decide +kernel
theorem m_139 (d : Nat) : eC e_139 (d + 2) := eC_ok (e := e_139) (L := L_139) (cs := cs_139) (n := 2000) (d := d + 1) (A := A_139) (μ := mu_139) (tp := true) (p0 := p_139_s) rfl ⟨m_199 d, trivial⟩ rfl (.inr pre0_ok) (by decide +kernel) (fun _ => post0_ok) r_139_s (allC c_139_s_0 allN) (allC (.inl ⟨p_139_4, r_139_4, fun q0 => (allC c_139_4_0 allN)⟩) allN)
/- Tracer.fateOf (ILMixStage$Cue;I)I -/
noncomputable def s_137 : vM := ([(3, 9, 281, 0), (0, -2147483648, 2147483647, 0), (3, 1, -1, 0), (0, -2147483648, 2147483647, 0)], (0, -2147483648, 2147483647, 0), 0, 0, [(10, 0), (10, 1), (10, 2), (100, 0)])
noncomputable def e_137 : vE := (137, s_137, pre0, post0)
noncomputable def L_137 : List vE := [e_53, e_58, e_134, e_135, e_138, e_139, e_199, e_201, e_203]
def cs_137 : List vC := [(42, [(0, (3, 9, 281, 0)), (1, (0, -2147483648, 2147483647, 0)), (2, (3, 1, -1, 0)), (3, (0, -2147483648, 2147483647, 0)), (4, (0, -2147483648, 2147483647, 0)), (5, (0, -2147483648, 2147483647, 0)), (6, (0, -2147483648, 2147483647, 0)), (7, (0, -2147483648, 2147483647, 0)), (8, (0, -2147483648, 2147483647, 0)), (9, (0, -2147483648, 2147483647, 0)), (10, (0, -2147483648, 2147483647, 0))])]
def mub_137_42 (a0 a1 a2 a3 x0 x1 x2 x3 x4 x5 x6 x7 x8 x9 x10 : Int) (h0 h : gH) : Nat := (2147483648 - x10).toNat
def A_137 : Int → List Int → gH → gH → Prop := fun c xs h0 h => True
def mu_137 : Int → List Int → gH → gH → Nat := fun c xs h0 h => match c.toNat with
  | 42 => (match xs with
    | [a0, a1, a2, a3, x0, x1, x2, x3, x4, x5, x6, x7, x8, x9, x10] => mub_137_42 a0 a1 a2 a3 x0 x1 x2 x3 x4 x5 x6 x7 x8 x9 x10 h0 h
    | _ => 0)
  | _ => 0
theorem q_137_0 {n0 n1 n2 n3 n4 n5 n6 n7 n8 n9 n10 : Int} {H0 H1 : gH}  : True ∧ ∀ q, none = some q → mub_137_42 n0 n1 n2 n3 n0 n1 n2 n3 n4 n5 n6 n7 n8 n9 n10 H0 H1 < q := by
  exact ⟨trivial, fun q hq => nomatch hq⟩
theorem c_137_s_0 : vOkm T0 (eP e_137 L_137 A_137 mu_137 none) 4 ([], (4000, [0, 1, 2, 3, 6, 7, 8, 9, 10, 12, 13], [3], 42)) := vOk_in fun ρ η h => by
  obtain ⟨_⟩ := h
  exact q_137_0 (n0 := ρ 0) (n1 := ρ 1) (n2 := ρ 2) (n3 := ρ 3) (n4 := ρ 6) (n5 := ρ 7) (n6 := ρ 8) (n7 := ρ 9) (n8 := ρ 10) (n9 := ρ 12) (n10 := ρ 13) (H0 := η 0) (H1 := η 3) 
def p_137_s : List vG := [([], (4000, [0, 1, 2, 3, 6, 7, 8, 9, 10, 12, 13], [3], 42))]
theorem r_137_s : vCovO true (eR0 e_137 L_137 cs_137 2000) p_137_s = true := by decide +kernel
theorem q_137_1 {q0 : Nat} {n0 n1 n2 n3 n4 n5 n6 n7 n8 n9 n10 n11 n12 n13 n14 n15 : Int} {H0 H1 H2 : gH} (f0 : n0 ≤ 2147483647) (f1 : (-2147483648) ≤ n0) (f2 : n1 ≤ 2147483647) (f3 : (-2147483648) ≤ n1) (f4 : (hLe T0 H0 H1 ∧ hFr s_137.2.2.2.2 H0 H1 ∧ hWt T0 H1) ∧ (True ∧ True) ∧ some q0 = some (mub_137_42 n2 n3 n4 n5 n6 n7 n8 n9 n10 n11 n12 n13 n14 n1 n0 H0 H1)) (f5 : n0 < n1) (f6 : n15 = w32 (n0 + 1)) : True ∧ ∀ q, some q0 = some q → mub_137_42 n2 n3 n4 n5 n6 n7 n8 n9 n10 n11 n12 n13 n14 n1 n15 H0 H2 < q := by
  have g5 := Option.some.inj f4.2.2
  unfold mub_137_42 at g5
  unfold mub_137_42
  unfold w32 at *
  refine ⟨?_, fun q hq => ?_⟩
  · trivial
  · have g6 := Option.some.inj hq
    subst g6
    omega
theorem c_137_42_0 {q0 : Nat} : vOkm T0 (eP e_137 L_137 A_137 mu_137 (some q0)) 4 ([(10, [16, 14], [], 1), (42, [14, 13], [], 0), (5000, [0, 1, 2, 3, 4, 5, 6, 7, 8, 9, 10, 11, 12, 13, 14], [0, 1], 42), (90, [13], [], -2147483648), (91, [13], [], 2147483647), (90, [14], [], -2147483648), (91, [14], [], 2147483647)], (4000, [4, 5, 6, 7, 8, 9, 10, 11, 12, 13, 16], [2], 42)) := vOk_in fun ρ η h => by
  obtain ⟨f0, f1, f2, f3, f4, f5, f6, _⟩ := h
  exact q_137_1 (q0 := q0) (n0 := ρ 14) (n1 := ρ 13) (n2 := ρ 0) (n3 := ρ 1) (n4 := ρ 2) (n5 := ρ 3) (n6 := ρ 4) (n7 := ρ 5) (n8 := ρ 6) (n9 := ρ 7) (n10 := ρ 8) (n11 := ρ 9) (n12 := ρ 10) (n13 := ρ 11) (n14 := ρ 12) (n15 := ρ 16) (H0 := η 0) (H1 := η 1) (H2 := η 2) f6 f5 f4 f3 f2 f1 f0
theorem q_137_2 {q0 : Nat} {n0 n1 n2 n3 n4 n5 n6 n7 n8 n9 n10 n11 n12 n13 n14 n15 n16 n17 n18 n19 : Int} {H0 H1 H2 : gH} (f0 : n0 ≤ 2147483647) (f1 : (-2147483648) ≤ n0) (f2 : n1 ≤ 2147483647) (f3 : (-2147483648) ≤ n1) (f4 : (hLe T0 H0 H1 ∧ hFr s_137.2.2.2.2 H0 H1 ∧ hWt T0 H1) ∧ (True ∧ True) ∧ some q0 = some (mub_137_42 n2 n3 n4 n5 n6 n7 n8 n9 n10 n11 n12 n13 n14 n1 n0 H0 H1)) (f5 : n0 < n1) (f6 : n15 = w32 (n0 + 1)) : True ∧ ∀ q, some q0 = some q → mub_137_42 n2 n3 n4 n5 n6 n7 n8 n9 n16 n0 n17 n18 n19 n1 n15 H0 H2 < q := by
  have g5 := Option.some.inj f4.2.2
  unfold mub_137_42 at g5
  unfold mub_137_42
  unfold w32 at *
  refine ⟨?_, fun q hq => ?_⟩
  · trivial
  · have g6 := Option.some.inj hq
    subst g6
    omega
theorem c_137_42_1 {q0 : Nat} : vOkm T0 (eP e_137 L_137 A_137 mu_137 (some q0)) 4 ([(10, [27, 14], [], 1), (42, [14, 13], [], 0), (5000, [0, 1, 2, 3, 4, 5, 6, 7, 8, 9, 10, 11, 12, 13, 14], [0, 1], 42), (90, [13], [], -2147483648), (91, [13], [], 2147483647), (90, [14], [], -2147483648), (91, [14], [], 2147483647)], (4000, [4, 5, 6, 7, 26, 14, 17, 25, 21, 13, 27], [5], 42)) := vOk_in fun ρ η h => by
  obtain ⟨f0, f1, f2, f3, f4, f5, f6, _⟩ := h
  exact q_137_2 (q0 := q0) (n0 := ρ 14) (n1 := ρ 13) (n2 := ρ 0) (n3 := ρ 1) (n4 := ρ 2) (n5 := ρ 3) (n6 := ρ 4) (n7 := ρ 5) (n8 := ρ 6) (n9 := ρ 7) (n10 := ρ 8) (n11 := ρ 9) (n12 := ρ 10) (n13 := ρ 11) (n14 := ρ 12) (n15 := ρ 27) (n16 := ρ 26) (n17 := ρ 17) (n18 := ρ 25) (n19 := ρ 21) (H0 := η 0) (H1 := η 1) (H2 := η 5) f6 f5 f4 f3 f2 f1 f0
theorem q_137_3 {q0 : Nat} {n0 n1 n2 n3 n4 n5 n6 n7 n8 n9 n10 n11 n12 n13 n14 n15 n16 n17 n18 n19 n20 n21 : Int} {H0 H1 H2 : gH} (f0 : n0 ≤ 2147483647) (f1 : (-2147483648) ≤ n0) (f2 : n1 ≤ 2147483647) (f3 : (-2147483648) ≤ n1) (f4 : n2 ≤ 2147483647) (f5 : (-2147483648) ≤ n2) (f6 : (hLe T0 H0 H1 ∧ hFr s_137.2.2.2.2 H0 H1 ∧ hWt T0 H1) ∧ (True ∧ True) ∧ some q0 = some (mub_137_42 n3 n4 n5 n6 n7 n8 n9 n10 n11 n2 n12 n13 n14 n1 n0 H0 H1)) (f7 : n0 < n1) (f8 : n15 = 1) (f9 : n16 = w32 (n2 + n15)) (f10 : n0 ≠ n16) (f11 : n17 = w32 (n0 + 1)) : True ∧ ∀ q, some q0 = some q → mub_137_42 n3 n4 n5 n6 n7 n8 n9 n10 n18 n0 n19 n20 n21 n1 n17 H0 H2 < q := by
  have g5 := Option.some.inj f6.2.2
  unfold mub_137_42 at g5
  unfold mub_137_42
  unfold w32 at *
  refine ⟨?_, fun q hq => ?_⟩
  · trivial
  · have g6 := Option.some.inj hq
    subst g6
    omega
theorem c_137_42_2 {q0 : Nat} : vOkm T0 (eP e_137 L_137 A_137 mu_137 (some q0)) 4 ([(10, [29, 14], [], 1), (41, [14, 25], [], 0), (1, [25, 9, 24], [], 0), (0, [24], [], 1), (42, [14, 13], [], 0), (5000, [0, 1, 2, 3, 4, 5, 6, 7, 8, 9, 10, 11, 12, 13, 14], [0, 1], 42), (90, [9], [], -2147483648), (91, [9], [], 2147483647), (90, [13], [], -2147483648), (91, [13], [], 2147483647), (90, [14], [], -2147483648), (91, [14], [], 2147483647)], (4000, [4, 5, 6, 7, 28, 14, 17, 27, 21, 13, 29], [5], 42)) := vOk_in fun ρ η h => by
  obtain ⟨f0, f1, f2, f3, f4, f5, f6, f7, f8, f9, f10, f11, _⟩ := h
  exact q_137_3 (q0 := q0) (n0 := ρ 14) (n1 := ρ 13) (n2 := ρ 9) (n3 := ρ 0) (n4 := ρ 1) (n5 := ρ 2) (n6 := ρ 3) (n7 := ρ 4) (n8 := ρ 5) (n9 := ρ 6) (n10 := ρ 7) (n11 := ρ 8) (n12 := ρ 10) (n13 := ρ 11) (n14 := ρ 12) (n15 := ρ 24) (n16 := ρ 25) (n17 := ρ 29) (n18 := ρ 28) (n19 := ρ 17) (n20 := ρ 27) (n21 := ρ 21) (H0 := η 0) (H1 := η 1) (H2 := η 5) f11 f10 f9 f8 f7 f6 f5 f4 f3 f2 f1 f0
theorem q_137_4 {q0 : Nat} {n0 n1 n2 n3 n4 n5 n6 n7 n8 n9 n10 n11 n12 n13 n14 n15 n16 n17 n18 n19 n20 n21 : Int} {H0 H1 H2 : gH} (f0 : n0 ≤ 2147483647) (f1 : (-2147483648) ≤ n0) (f2 : n1 ≤ 2147483647) (f3 : (-2147483648) ≤ n1) (f4 : n2 ≤ 2147483647) (f5 : (-2147483648) ≤ n2) (f6 : (hLe T0 H0 H1 ∧ hFr s_137.2.2.2.2 H0 H1 ∧ hWt T0 H1) ∧ (True ∧ True) ∧ some q0 = some (mub_137_42 n3 n4 n5 n6 n7 n8 n9 n10 n11 n2 n12 n13 n14 n1 n0 H0 H1)) (f7 : n0 < n1) (f8 : n15 = 1) (f9 : n16 = w32 (n2 + n15)) (f10 : n0 = n16) (f11 : n17 = w32 (n0 + 1)) : True ∧ ∀ q, some q0 = some q → mub_137_42 n3 n4 n5 n6 n7 n8 n9 n10 n18 n0 n19 n20 n21 n1 n17 H0 H2 < q := by
  have g5 := Option.some.inj f6.2.2
  unfold mub_137_42 at g5
  unfold mub_137_42
  unfold w32 at *
  refine ⟨?_, fun q hq => ?_⟩
  · trivial
  · have g6 := Option.some.inj hq
    subst g6
    omega
theorem c_137_42_3 {q0 : Nat} : vOkm T0 (eP e_137 L_137 A_137 mu_137 (some q0)) 4 ([(10, [30, 14], [], 1), (40, [14, 25], [], 0), (1, [25, 9, 24], [], 0), (0, [24], [], 1), (42, [14, 13], [], 0), (5000, [0, 1, 2, 3, 4, 5, 6, 7, 8, 9, 10, 11, 12, 13, 14], [0, 1], 42), (90, [9], [], -2147483648), (91, [9], [], 2147483647), (90, [13], [], -2147483648), (91, [13], [], 2147483647), (90, [14], [], -2147483648), (91, [14], [], 2147483647)], (4000, [4, 5, 6, 7, 29, 14, 17, 28, 21, 13, 30], [6], 42)) := vOk_in fun ρ η h => by
  obtain ⟨f0, f1, f2, f3, f4, f5, f6, f7, f8, f9, f10, f11, _⟩ := h
  exact q_137_4 (q0 := q0) (n0 := ρ 14) (n1 := ρ 13) (n2 := ρ 9) (n3 := ρ 0) (n4 := ρ 1) (n5 := ρ 2) (n6 := ρ 3) (n7 := ρ 4) (n8 := ρ 5) (n9 := ρ 6) (n10 := ρ 7) (n11 := ρ 8) (n12 := ρ 10) (n13 := ρ 11) (n14 := ρ 12) (n15 := ρ 24) (n16 := ρ 25) (n17 := ρ 30) (n18 := ρ 29) (n19 := ρ 17) (n20 := ρ 28) (n21 := ρ 21) (H0 := η 0) (H1 := η 1) (H2 := η 6) f11 f10 f9 f8 f7 f6 f5 f4 f3 f2 f1 f0
theorem c_137_42_4 {q0 : Nat} : vOkm T0 (eP e_137 L_137 A_137 mu_137 (some q0)) 4 ([(10, [30, 14], [], 1), (40, [14, 25], [], 0), (1, [25, 9, 24], [], 0), (0, [24], [], 1), (42, [14, 13], [], 0), (5000, [0, 1, 2, 3, 4, 5, 6, 7, 8, 9, 10, 11, 12, 13, 14], [0, 1], 42), (90, [9], [], -2147483648), (91, [9], [], 2147483647), (90, [13], [], -2147483648), (91, [13], [], 2147483647), (90, [14], [], -2147483648), (91, [14], [], 2147483647)], (4000, [4, 5, 6, 7, 29, 14, 17, 28, 21, 13, 30], [6], 42)) := vOk_in fun ρ η h => by
  obtain ⟨f0, f1, f2, f3, f4, f5, f6, f7, f8, f9, f10, f11, _⟩ := h
  exact q_137_4 (q0 := q0) (n0 := ρ 14) (n1 := ρ 13) (n2 := ρ 9) (n3 := ρ 0) (n4 := ρ 1) (n5 := ρ 2) (n6 := ρ 3) (n7 := ρ 4) (n8 := ρ 5) (n9 := ρ 6) (n10 := ρ 7) (n11 := ρ 8) (n12 := ρ 10) (n13 := ρ 11) (n14 := ρ 12) (n15 := ρ 24) (n16 := ρ 25) (n17 := ρ 30) (n18 := ρ 29) (n19 := ρ 17) (n20 := ρ 28) (n21 := ρ 21) (H0 := η 0) (H1 := η 1) (H2 := η 6) f11 f10 f9 f8 f7 f6 f5 f4 f3 f2 f1 f0
theorem c_137_42_5 {q0 : Nat} : vOkm T0 (eP e_137 L_137 A_137 mu_137 (some q0)) 4 ([(10, [27, 14], [], 1), (42, [14, 13], [], 0), (5000, [0, 1, 2, 3, 4, 5, 6, 7, 8, 9, 10, 11, 12, 13, 14], [0, 1], 42), (90, [13], [], -2147483648), (91, [13], [], 2147483647), (90, [14], [], -2147483648), (91, [14], [], 2147483647)], (4000, [4, 5, 6, 7, 26, 14, 17, 25, 21, 13, 27], [5], 42)) := vOk_in fun ρ η h => by
  obtain ⟨f0, f1, f2, f3, f4, f5, f6, _⟩ := h
  exact q_137_2 (q0 := q0) (n0 := ρ 14) (n1 := ρ 13) (n2 := ρ 0) (n3 := ρ 1) (n4 := ρ 2) (n5 := ρ 3) (n6 := ρ 4) (n7 := ρ 5) (n8 := ρ 6) (n9 := ρ 7) (n10 := ρ 8) (n11 := ρ 9) (n12 := ρ 10) (n13 := ρ 11) (n14 := ρ 12) (n15 := ρ 27) (n16 := ρ 26) (n17 := ρ 17) (n18 := ρ 25) (n19 := ρ 21) (H0 := η 0) (H1 := η 1) (H2 := η 5) f6 f5 f4 f3 f2 f1 f0
theorem c_137_42_6 {q0 : Nat} : vOkm T0 (eP e_137 L_137 A_137 mu_137 (some q0)) 4 ([(10, [29, 14], [], 1), (41, [14, 25], [], 0), (1, [25, 9, 24], [], 0), (0, [24], [], 1), (42, [14, 13], [], 0), (5000, [0, 1, 2, 3, 4, 5, 6, 7, 8, 9, 10, 11, 12, 13, 14], [0, 1], 42), (90, [9], [], -2147483648), (91, [9], [], 2147483647), (90, [13], [], -2147483648), (91, [13], [], 2147483647), (90, [14], [], -2147483648), (91, [14], [], 2147483647)], (4000, [4, 5, 6, 7, 28, 14, 17, 27, 21, 13, 29], [5], 42)) := vOk_in fun ρ η h => by
  obtain ⟨f0, f1, f2, f3, f4, f5, f6, f7, f8, f9, f10, f11, _⟩ := h
  exact q_137_3 (q0 := q0) (n0 := ρ 14) (n1 := ρ 13) (n2 := ρ 9) (n3 := ρ 0) (n4 := ρ 1) (n5 := ρ 2) (n6 := ρ 3) (n7 := ρ 4) (n8 := ρ 5) (n9 := ρ 6) (n10 := ρ 7) (n11 := ρ 8) (n12 := ρ 10) (n13 := ρ 11) (n14 := ρ 12) (n15 := ρ 24) (n16 := ρ 25) (n17 := ρ 29) (n18 := ρ 28) (n19 := ρ 17) (n20 := ρ 27) (n21 := ρ 21) (H0 := η 0) (H1 := η 1) (H2 := η 5) f11 f10 f9 f8 f7 f6 f5 f4 f3 f2 f1 f0
theorem c_137_42_7 {q0 : Nat} : vOkm T0 (eP e_137 L_137 A_137 mu_137 (some q0)) 4 ([(10, [30, 14], [], 1), (40, [14, 25], [], 0), (1, [25, 9, 24], [], 0), (0, [24], [], 1), (42, [14, 13], [], 0), (5000, [0, 1, 2, 3, 4, 5, 6, 7, 8, 9, 10, 11, 12, 13, 14], [0, 1], 42), (90, [9], [], -2147483648), (91, [9], [], 2147483647), (90, [13], [], -2147483648), (91, [13], [], 2147483647), (90, [14], [], -2147483648), (91, [14], [], 2147483647)], (4000, [4, 5, 6, 7, 29, 14, 17, 28, 21, 13, 30], [6], 42)) := vOk_in fun ρ η h => by
  obtain ⟨f0, f1, f2, f3, f4, f5, f6, f7, f8, f9, f10, f11, _⟩ := h
  exact q_137_4 (q0 := q0) (n0 := ρ 14) (n1 := ρ 13) (n2 := ρ 9) (n3 := ρ 0) (n4 := ρ 1) (n5 := ρ 2) (n6 := ρ 3) (n7 := ρ 4) (n8 := ρ 5) (n9 := ρ 6) (n10 := ρ 7) (n11 := ρ 8) (n12 := ρ 10) (n13 := ρ 11) (n14 := ρ 12) (n15 := ρ 24) (n16 := ρ 25) (n17 := ρ 30) (n18 := ρ 29) (n19 := ρ 17) (n20 := ρ 28) (n21 := ρ 21) (H0 := η 0) (H1 := η 1) (H2 := η 6) f11 f10 f9 f8 f7 f6 f5 f4 f3 f2 f1 f0
theorem c_137_42_8 {q0 : Nat} : vOkm T0 (eP e_137 L_137 A_137 mu_137 (some q0)) 4 ([(10, [30, 14], [], 1), (40, [14, 25], [], 0), (1, [25, 9, 24], [], 0), (0, [24], [], 1), (42, [14, 13], [], 0), (5000, [0, 1, 2, 3, 4, 5, 6, 7, 8, 9, 10, 11, 12, 13, 14], [0, 1], 42), (90, [9], [], -2147483648), (91, [9], [], 2147483647), (90, [13], [], -2147483648), (91, [13], [], 2147483647), (90, [14], [], -2147483648), (91, [14], [], 2147483647)], (4000, [4, 5, 6, 7, 29, 14, 17, 28, 21, 13, 30], [6], 42)) := vOk_in fun ρ η h => by
  obtain ⟨f0, f1, f2, f3, f4, f5, f6, f7, f8, f9, f10, f11, _⟩ := h
  exact q_137_4 (q0 := q0) (n0 := ρ 14) (n1 := ρ 13) (n2 := ρ 9) (n3 := ρ 0) (n4 := ρ 1) (n5 := ρ 2) (n6 := ρ 3) (n7 := ρ 4) (n8 := ρ 5) (n9 := ρ 6) (n10 := ρ 7) (n11 := ρ 8) (n12 := ρ 10) (n13 := ρ 11) (n14 := ρ 12) (n15 := ρ 24) (n16 := ρ 25) (n17 := ρ 30) (n18 := ρ 29) (n19 := ρ 17) (n20 := ρ 28) (n21 := ρ 21) (H0 := η 0) (H1 := η 1) (H2 := η 6) f11 f10 f9 f8 f7 f6 f5 f4 f3 f2 f1 f0
def p_137_42 : List vG := [([(10, [16, 14], [], 1), (42, [14, 13], [], 0), (5000, [0, 1, 2, 3, 4, 5, 6, 7, 8, 9, 10, 11, 12, 13, 14], [0, 1], 42), (90, [13], [], -2147483648), (91, [13], [], 2147483647), (90, [14], [], -2147483648), (91, [14], [], 2147483647)], (4000, [4, 5, 6, 7, 8, 9, 10, 11, 12, 13, 16], [2], 42)),
  ([(10, [27, 14], [], 1), (42, [14, 13], [], 0), (5000, [0, 1, 2, 3, 4, 5, 6, 7, 8, 9, 10, 11, 12, 13, 14], [0, 1], 42), (90, [13], [], -2147483648), (91, [13], [], 2147483647), (90, [14], [], -2147483648), (91, [14], [], 2147483647)], (4000, [4, 5, 6, 7, 26, 14, 17, 25, 21, 13, 27], [5], 42)),
  ([(10, [29, 14], [], 1), (41, [14, 25], [], 0), (1, [25, 9, 24], [], 0), (0, [24], [], 1), (42, [14, 13], [], 0), (5000, [0, 1, 2, 3, 4, 5, 6, 7, 8, 9, 10, 11, 12, 13, 14], [0, 1], 42), (90, [9], [], -2147483648), (91, [9], [], 2147483647), (90, [13], [], -2147483648), (91, [13], [], 2147483647), (90, [14], [], -2147483648), (91, [14], [], 2147483647)], (4000, [4, 5, 6, 7, 28, 14, 17, 27, 21, 13, 29], [5], 42)),
  ([(10, [30, 14], [], 1), (40, [14, 25], [], 0), (1, [25, 9, 24], [], 0), (0, [24], [], 1), (42, [14, 13], [], 0), (5000, [0, 1, 2, 3, 4, 5, 6, 7, 8, 9, 10, 11, 12, 13, 14], [0, 1], 42), (90, [9], [], -2147483648), (91, [9], [], 2147483647), (90, [13], [], -2147483648), (91, [13], [], 2147483647), (90, [14], [], -2147483648), (91, [14], [], 2147483647)], (4000, [4, 5, 6, 7, 29, 14, 17, 28, 21, 13, 30], [6], 42)),
  ([(10, [30, 14], [], 1), (40, [14, 25], [], 0), (1, [25, 9, 24], [], 0), (0, [24], [], 1), (42, [14, 13], [], 0), (5000, [0, 1, 2, 3, 4, 5, 6, 7, 8, 9, 10, 11, 12, 13, 14], [0, 1], 42), (90, [9], [], -2147483648), (91, [9], [], 2147483647), (90, [13], [], -2147483648), (91, [13], [], 2147483647), (90, [14], [], -2147483648), (91, [14], [], 2147483647)], (4000, [4, 5, 6, 7, 29, 14, 17, 28, 21, 13, 30], [6], 42)),
  ([(10, [27, 14], [], 1), (42, [14, 13], [], 0), (5000, [0, 1, 2, 3, 4, 5, 6, 7, 8, 9, 10, 11, 12, 13, 14], [0, 1], 42), (90, [13], [], -2147483648), (91, [13], [], 2147483647), (90, [14], [], -2147483648), (91, [14], [], 2147483647)], (4000, [4, 5, 6, 7, 26, 14, 17, 25, 21, 13, 27], [5], 42)),
  ([(10, [29, 14], [], 1), (41, [14, 25], [], 0), (1, [25, 9, 24], [], 0), (0, [24], [], 1), (42, [14, 13], [], 0), (5000, [0, 1, 2, 3, 4, 5, 6, 7, 8, 9, 10, 11, 12, 13, 14], [0, 1], 42), (90, [9], [], -2147483648), (91, [9], [], 2147483647), (90, [13], [], -2147483648), (91, [13], [], 2147483647), (90, [14], [], -2147483648), (91, [14], [], 2147483647)], (4000, [4, 5, 6, 7, 28, 14, 17, 27, 21, 13, 29], [5], 42)),
  ([(10, [30, 14], [], 1), (40, [14, 25], [], 0), (1, [25, 9, 24], [], 0), (0, [24], [], 1), (42, [14, 13], [], 0), (5000, [0, 1, 2, 3, 4, 5, 6, 7, 8, 9, 10, 11, 12, 13, 14], [0, 1], 42), (90, [9], [], -2147483648), (91, [9], [], 2147483647), (90, [13], [], -2147483648), (91, [13], [], 2147483647), (90, [14], [], -2147483648), (91, [14], [], 2147483647)], (4000, [4, 5, 6, 7, 29, 14, 17, 28, 21, 13, 30], [6], 42)),
  ([(10, [30, 14], [], 1), (40, [14, 25], [], 0), (1, [25, 9, 24], [], 0), (0, [24], [], 1), (42, [14, 13], [], 0), (5000, [0, 1, 2, 3, 4, 5, 6, 7, 8, 9, 10, 11, 12, 13, 14], [0, 1], 42), (90, [9], [], -2147483648), (91, [9], [], 2147483647), (90, [13], [], -2147483648), (91, [13], [], 2147483647), (90, [14], [], -2147483648), (91, [14], [], 2147483647)], (4000, [4, 5, 6, 7, 29, 14, 17, 28, 21, 13, 30], [6], 42))]
theorem r_137_42 : vCovO true (eRc e_137 L_137 cs_137 2000 (42, [(0, (3, 9, 281, 0)), (1, (0, -2147483648, 2147483647, 0)), (2, (3, 1, -1, 0)), (3, (0, -2147483648, 2147483647, 0)), (4, (0, -2147483648, 2147483647, 0)), (5, (0, -2147483648, 2147483647, 0)), (6, (0, -2147483648, 2147483647, 0)), (7, (0, -2147483648, 2147483647, 0)), (8, (0, -2147483648, 2147483647, 0)), (9, (0, -2147483648, 2147483647, 0)), (10, (0, -2147483648, 2147483647, 0))])) p_137_42 = true := by decide +kernel
theorem m_137 (d : Nat) : eC e_137 (d + 6) := eC_ok (e := e_137) (L := L_137) (cs := cs_137) (n := 2000) (d := d + 5) (A := A_137) (μ := mu_137) (tp := true) (p0 := p_137_s) rfl ⟨m_53 (d + 3), ⟨m_58 (d + 3), ⟨m_134 d, ⟨m_135 (d + 2), ⟨m_138 (d + 3), ⟨m_139 (d + 3), ⟨m_199 (d + 4), ⟨m_201 (d + 4), ⟨m_203 (d + 3), trivial⟩⟩⟩⟩⟩⟩⟩⟩⟩ rfl (.inr pre0_ok) (by decide +kernel) (fun _ => post0_ok) r_137_s (allC c_137_s_0 allN) (allC (.inl ⟨p_137_42, r_137_42, fun q0 => (allC c_137_42_0 (allC c_137_42_1 (allC c_137_42_2 (allC c_137_42_3 (allC c_137_42_4 (allC c_137_42_5 (allC c_137_42_6 (allC c_137_42_7 (allC c_137_42_8 allN)))))))))⟩) allN)
/- Tracer.isOfMusic (II)Z -/
noncomputable def s_140 : vM := ([(3, 9, 281, 0), (0, -2147483648, 2147483647, 0), (0, -2147483648, 2147483647, 0)], (0, 0, 1, 0), 0, 0, [])
noncomputable def e_140 : vE := (140, s_140, pre0, post0)
noncomputable def L_140 : List vE := [e_3]
def cs_140 : List vC := [(5, [(0, (3, 9, 281, 0)), (1, (0, -2147483648, 2147483647, 0)), (2, (0, -2147483648, 2147483647, 0)), (3, (0, -2147483648, 2147483647, 0)), (4, (0, -2147483648, 2147483647, 0))])]
def mub_140_5 (a0 a1 a2 x0 x1 x2 x3 x4 : Int) (h0 h : gH) : Nat := (2147483648 - x4).toNat
def A_140 : Int → List Int → gH → gH → Prop := fun c xs h0 h => True
def mu_140 : Int → List Int → gH → gH → Nat := fun c xs h0 h => match c.toNat with
  | 5 => (match xs with
    | [a0, a1, a2, x0, x1, x2, x3, x4] => mub_140_5 a0 a1 a2 x0 x1 x2 x3 x4 h0 h
    | _ => 0)
  | _ => 0
theorem q_140_0 {n0 n1 n2 n3 : Int} {H0 : gH}  : True ∧ ∀ q, none = some q → mub_140_5 n0 n1 n2 n0 n1 n2 n1 n3 H0 H0 < q := by
  exact ⟨trivial, fun q hq => nomatch hq⟩
theorem c_140_s_0 : vOkm T0 (eP e_140 L_140 A_140 mu_140 none) 3 ([], (4000, [0, 1, 2, 1, 3], [0], 5)) := vOk_in fun ρ η h => by
  obtain ⟨_⟩ := h
  exact q_140_0 (n0 := ρ 0) (n1 := ρ 1) (n2 := ρ 2) (n3 := ρ 3) (H0 := η 0) 
def p_140_s : List vG := [([], (4000, [0, 1, 2, 1, 3], [0], 5))]
theorem r_140_s : vCovO true (eR0 e_140 L_140 cs_140 2000) p_140_s = true := by decide +kernel
theorem q_140_1 {q0 : Nat} {n0 n1 n2 n3 n4 n5 n6 n7 n8 n9 n10 : Int} {H0 H1 H2 : gH} (f0 : n0 ≤ 2147483647) (f1 : (-2147483648) ≤ n0) (f2 : (hLe T0 H0 H1 ∧ hFr s_140.2.2.2.2 H0 H1 ∧ hWt T0 H1) ∧ (True ∧ True) ∧ some q0 = some (mub_140_5 n1 n2 n3 n4 n5 n6 n7 n0 H0 H1)) (f3 : n8 = 20) (f4 : n0 < n8) (f5 : n9 = w32 (n0 + 1)) : True ∧ ∀ q, some q0 = some q → mub_140_5 n1 n2 n3 n4 n5 n6 n10 n9 H0 H2 < q := by
  have g5 := Option.some.inj f2.2.2
  unfold mub_140_5 at g5
  unfold mub_140_5
  unfold w32 at *
  refine ⟨?_, fun q hq => ?_⟩
  · trivial
  · have g6 := Option.some.inj hq
    subst g6
    omega
theorem c_140_5_0 {q0 : Nat} : vOkm T0 (eP e_140 L_140 A_140 mu_140 (some q0)) 3 ([(10, [13, 7], [], 1), (42, [7, 8], [], 0), (0, [8], [], 20), (5000, [0, 1, 2, 3, 4, 5, 6, 7], [0, 1], 5), (90, [7], [], -2147483648), (91, [7], [], 2147483647)], (4000, [3, 4, 5, 12, 13], [2], 5)) := vOk_in fun ρ η h => by
  obtain ⟨f0, f1, f2, f3, f4, f5, _⟩ := h
  exact q_140_1 (q0 := q0) (n0 := ρ 7) (n1 := ρ 0) (n2 := ρ 1) (n3 := ρ 2) (n4 := ρ 3) (n5 := ρ 4) (n6 := ρ 5) (n7 := ρ 6) (n8 := ρ 8) (n9 := ρ 13) (n10 := ρ 12) (H0 := η 0) (H1 := η 1) (H2 := η 2) f5 f4 f3 f2 f1 f0
theorem c_140_5_1 {q0 : Nat} : vOkm T0 (eP e_140 L_140 A_140 mu_140 (some q0)) 3 ([(10, [13, 7], [], 1), (42, [7, 8], [], 0), (0, [8], [], 20), (5000, [0, 1, 2, 3, 4, 5, 6, 7], [0, 1], 5), (90, [7], [], -2147483648), (91, [7], [], 2147483647)], (4000, [3, 4, 5, 12, 13], [2], 5)) := vOk_in fun ρ η h => by
  obtain ⟨f0, f1, f2, f3, f4, f5, _⟩ := h
  exact q_140_1 (q0 := q0) (n0 := ρ 7) (n1 := ρ 0) (n2 := ρ 1) (n3 := ρ 2) (n4 := ρ 3) (n5 := ρ 4) (n6 := ρ 5) (n7 := ρ 6) (n8 := ρ 8) (n9 := ρ 13) (n10 := ρ 12) (H0 := η 0) (H1 := η 1) (H2 := η 2) f5 f4 f3 f2 f1 f0
def p_140_5 : List vG := [([(10, [13, 7], [], 1), (42, [7, 8], [], 0), (0, [8], [], 20), (5000, [0, 1, 2, 3, 4, 5, 6, 7], [0, 1], 5), (90, [7], [], -2147483648), (91, [7], [], 2147483647)], (4000, [3, 4, 5, 12, 13], [2], 5)),
  ([(10, [13, 7], [], 1), (42, [7, 8], [], 0), (0, [8], [], 20), (5000, [0, 1, 2, 3, 4, 5, 6, 7], [0, 1], 5), (90, [7], [], -2147483648), (91, [7], [], 2147483647)], (4000, [3, 4, 5, 12, 13], [2], 5))]
theorem r_140_5 : vCovO true (eRc e_140 L_140 cs_140 2000 (5, [(0, (3, 9, 281, 0)), (1, (0, -2147483648, 2147483647, 0)), (2, (0, -2147483648, 2147483647, 0)), (3, (0, -2147483648, 2147483647, 0)), (4, (0, -2147483648, 2147483647, 0))])) p_140_5 = true := by decide +kernel
theorem m_140 (d : Nat) : eC e_140 (d + 3) := eC_ok (e := e_140) (L := L_140) (cs := cs_140) (n := 2000) (d := d + 2) (A := A_140) (μ := mu_140) (tp := true) (p0 := p_140_s) rfl ⟨m_3 d, trivial⟩ rfl (.inr pre0_ok) (by decide +kernel) (fun _ => post0_ok) r_140_s (allC c_140_s_0 allN) (allC (.inl ⟨p_140_5, r_140_5, fun q0 => (allC c_140_5_0 (allC c_140_5_1 allN))⟩) allN)
/- Tracer.isLayOfMusic (LMixStage$Cue;I)Z -/
noncomputable def s_141 : vM := ([(3, 9, 281, 0), (2, 1, -1, 0), (0, -2147483648, 2147483647, 0)], (0, 0, 1, 0), 0, 0, [])
def postb_141 (r a0 a1 a2 : Int) (h0 h : gH) : Prop := r ≠ 0 → 0 ≤ a1
def post_141 : List Int → gH → gH → Prop := fun xs h0 h => match xs with
  | [r, a0, a1, a2] => postb_141 r a0 a1 a2 h0 h
  | _ => True
noncomputable def e_141 : vE := (141, s_141, pre0, post_141)
noncomputable def L_141 : List vE := [e_140]
def cs_141 : List vC := []
def A_141 : Int → List Int → gH → gH → Prop := fun c xs h0 h => True
def mu_141 : Int → List Int → gH → gH → Nat := fun c xs h0 h => 0
theorem q_141_0 {n0 n1 n2 n3 : Int} {H0 : gH} (f0 : n0 ≤ 2147483647) (f1 : (-2147483648) ≤ n0) (f2 : n1 = 281) (f3 : hWt T0 H0 ∧ True) (f4 : n2 = -1) (f5 : n3 = 0) : postb_141 n3 n1 n2 n0 H0 H0 := by
  unfold postb_141
  omega
theorem c_141_s_0 : vOkm T0 (eP e_141 L_141 A_141 mu_141 none) 3 ([(0, [3], [], 0), (50, [1], [], 0), (6000, [0, 1, 2], [0], 0), (0, [0], [], 281), (90, [2], [], -2147483648), (91, [2], [], 2147483647)], (3000, [3], [0], 28)) := vOk_in fun ρ η h => by
  obtain ⟨f0, f1, f2, f3, f4, f5, _⟩ := h
  exact q_141_0 (n0 := ρ 2) (n1 := ρ 0) (n2 := ρ 1) (n3 := ρ 3) (H0 := η 0) f5 f4 f3 f2 f1 f0
theorem q_141_1 {n0 n1 n2 n3 : Int} {H0 : gH} (f0 : n0 ≤ 2147483647) (f1 : (-2147483648) ≤ n0) (f2 : n1 = 281) (f3 : hWt T0 H0 ∧ True) (f4 : 0 ≤ n2) (f5 : hK H0 (n2).toNat = 1) (f6 : n3 = 0) : postb_141 n3 n1 n2 n0 H0 H0 := by
  unfold postb_141
  omega
theorem c_141_s_1 : vOkm T0 (eP e_141 L_141 A_141 mu_141 none) 3 ([(0, [4], [], 0), (23, [1], [0], 1), (51, [1], [], 0), (6000, [0, 1, 2], [0], 0), (0, [0], [], 281), (90, [2], [], -2147483648), (91, [2], [], 2147483647)], (3000, [4], [0], 28)) := vOk_in fun ρ η h => by
  obtain ⟨f0, f1, f2, f3, f4, f5, f6, _⟩ := h
  exact q_141_1 (n0 := ρ 2) (n1 := ρ 0) (n2 := ρ 1) (n3 := ρ 4) (H0 := η 0) f6 f5 f4 f3 f2 f1 f0
theorem q_141_2 {n0 n1 n2 n3 n4 n5 : Int} {H0 H1 : gH} (f0 : n0 ≤ 2147483647) (f1 : (-2147483648) ≤ n0) (f2 : n1 = 281) (f3 : hWt T0 H0 ∧ True) (f4 : 0 ≤ n2) (f5 : hK H0 (n2).toNat = 1) (f6 : n3 ≤ 2147483647) (f7 : (-2147483648) ≤ n3) (f8 : hK H0 (n2).toNat = 1) (f9 : n3 = hV H0 (n2).toNat 2) (f10 : n4 ≤ 1) (f11 : 0 ≤ n4) (f12 : (hLe T0 H0 H1 ∧ hFr s_140.2.2.2.2 H0 H1 ∧ ((0 : Int) = 0 → H1.length = H0.length) ∧ hWt T0 H1) ∧ True) (f13 : n4 = 0) (f14 : n5 = 0) : postb_141 n5 n1 n2 n0 H0 H1 := by
  unfold postb_141
  have e0 : n3 = hV H0 (n2).toNat 2 := f9
  omega
theorem c_141_s_2 : vOkm T0 (eP e_141 L_141 A_141 mu_141 none) 3 ([(0, [6], [], 0), (30, [5], [], 0), (1140, [5, 0, 4, 2], [0, 1], 0), (90, [5], [], 0), (91, [5], [], 1), (20, [4, 1], [0], 2), (23, [1], [0], 1), (90, [4], [], -2147483648), (91, [4], [], 2147483647), (23, [1], [0], 1), (51, [1], [], 0), (6000, [0, 1, 2], [0], 0), (0, [0], [], 281), (90, [2], [], -2147483648), (91, [2], [], 2147483647)], (3000, [6], [1], 28)) := vOk_in fun ρ η h => by
  obtain ⟨f0, f1, f2, f3, f4, f5, f6, f7, f8, f9, f10, f11, f12, f13, f14, _⟩ := h
  exact q_141_2 (n0 := ρ 2) (n1 := ρ 0) (n2 := ρ 1) (n3 := ρ 4) (n4 := ρ 5) (n5 := ρ 6) (H0 := η 0) (H1 := η 1) f14 f13 f12 f11 f10 f9 f8 f7 f6 f5 f4 f3 f2 f1 f0
theorem q_141_3 {n0 n1 n2 n3 n4 n5 : Int} {H0 H1 : gH} (f0 : n0 ≤ 2147483647) (f1 : (-2147483648) ≤ n0) (f2 : n1 = 281) (f3 : hWt T0 H0 ∧ True) (f4 : 0 ≤ n2) (f5 : hK H0 (n2).toNat = 1) (f6 : n3 ≤ 2147483647) (f7 : (-2147483648) ≤ n3) (f8 : hK H0 (n2).toNat = 1) (f9 : n3 = hV H0 (n2).toNat 2) (f10 : n4 ≤ 1) (f11 : 0 ≤ n4) (f12 : (hLe T0 H0 H1 ∧ hFr s_140.2.2.2.2 H0 H1 ∧ ((0 : Int) = 0 → H1.length = H0.length) ∧ hWt T0 H1) ∧ True) (f13 : n4 ≠ 0) (f14 : n5 = 1) : postb_141 n5 n1 n2 n0 H0 H1 := by
  unfold postb_141
  have e0 : n3 = hV H0 (n2).toNat 2 := f9
  omega
theorem c_141_s_3 : vOkm T0 (eP e_141 L_141 A_141 mu_141 none) 3 ([(0, [6], [], 1), (31, [5], [], 0), (1140, [5, 0, 4, 2], [0, 1], 0), (90, [5], [], 0), (91, [5], [], 1), (20, [4, 1], [0], 2), (23, [1], [0], 1), (90, [4], [], -2147483648), (91, [4], [], 2147483647), (23, [1], [0], 1), (51, [1], [], 0), (6000, [0, 1, 2], [0], 0), (0, [0], [], 281), (90, [2], [], -2147483648), (91, [2], [], 2147483647)], (3000, [6], [1], 28)) := vOk_in fun ρ η h => by
  obtain ⟨f0, f1, f2, f3, f4, f5, f6, f7, f8, f9, f10, f11, f12, f13, f14, _⟩ := h
  exact q_141_3 (n0 := ρ 2) (n1 := ρ 0) (n2 := ρ 1) (n3 := ρ 4) (n4 := ρ 5) (n5 := ρ 6) (H0 := η 0) (H1 := η 1) f14 f13 f12 f11 f10 f9 f8 f7 f6 f5 f4 f3 f2 f1 f0
def p_141_s : List vG := [([(0, [3], [], 0), (50, [1], [], 0), (6000, [0, 1, 2], [0], 0), (0, [0], [], 281), (90, [2], [], -2147483648), (91, [2], [], 2147483647)], (3000, [3], [0], 28)),
  ([(0, [4], [], 0), (23, [1], [0], 1), (51, [1], [], 0), (6000, [0, 1, 2], [0], 0), (0, [0], [], 281), (90, [2], [], -2147483648), (91, [2], [], 2147483647)], (3000, [4], [0], 28)),
  ([(0, [6], [], 0), (30, [5], [], 0), (1140, [5, 0, 4, 2], [0, 1], 0), (90, [5], [], 0), (91, [5], [], 1), (20, [4, 1], [0], 2), (23, [1], [0], 1), (90, [4], [], -2147483648), (91, [4], [], 2147483647), (23, [1], [0], 1), (51, [1], [], 0), (6000, [0, 1, 2], [0], 0), (0, [0], [], 281), (90, [2], [], -2147483648), (91, [2], [], 2147483647)], (3000, [6], [1], 28)),
  ([(0, [6], [], 1), (31, [5], [], 0), (1140, [5, 0, 4, 2], [0, 1], 0), (90, [5], [], 0), (91, [5], [], 1), (20, [4, 1], [0], 2), (23, [1], [0], 1), (90, [4], [], -2147483648), (91, [4], [], 2147483647), (23, [1], [0], 1), (51, [1], [], 0), (6000, [0, 1, 2], [0], 0), (0, [0], [], 281), (90, [2], [], -2147483648), (91, [2], [], 2147483647)], (3000, [6], [1], 28))]
theorem r_141_s : vCovO false (eR0 e_141 L_141 cs_141 2000) p_141_s = true := by decide +kernel
theorem m_141 (d : Nat) : eC e_141 (d + 4) := eC_ok (e := e_141) (L := L_141) (cs := cs_141) (n := 2000) (d := d + 3) (A := A_141) (μ := mu_141) (tp := false) (p0 := p_141_s) rfl ⟨m_140 d, trivial⟩ rfl (.inr pre0_ok) (by decide +kernel) (fun z => nomatch z) r_141_s (allC c_141_s_0 (allC c_141_s_1 (allC c_141_s_2 (allC c_141_s_3 allN)))) allN
/- Tracer.laysOfMusic (LMixStage$Sheet;I)I -/
noncomputable def s_142 : vM := ([(3, 9, 281, 0), (3, 6, -1, 0), (0, -2147483648, 2147483647, 0)], (0, -2147483648, 2147483647, 0), 0, 0, [])
noncomputable def e_142 : vE := (142, s_142, pre0, post0)
noncomputable def L_142 : List vE := [e_115, e_141]
def cs_142 : List vC := [(5, [(0, (3, 9, 281, 0)), (1, (3, 6, -1, 0)), (2, (0, -2147483648, 2147483647, 0)), (3, (0, -2147483648, 2147483647, 0)), (4, (0, -2147483648, 2147483647, 0))])]
def mub_142_5 (a0 a1 a2 x0 x1 x2 x3 x4 : Int) (h0 h : gH) : Nat := (2147483648 - x4).toNat
def A_142 : Int → List Int → gH → gH → Prop := fun c xs h0 h => True
def mu_142 : Int → List Int → gH → gH → Nat := fun c xs h0 h => match c.toNat with
  | 5 => (match xs with
    | [a0, a1, a2, x0, x1, x2, x3, x4] => mub_142_5 a0 a1 a2 x0 x1 x2 x3 x4 h0 h
    | _ => 0)
  | _ => 0
theorem q_142_0 {n0 n1 n2 n3 n4 : Int} {H0 : gH}  : True ∧ ∀ q, none = some q → mub_142_5 n0 n1 n2 n0 n1 n2 n3 n4 H0 H0 < q := by
  exact ⟨trivial, fun q hq => nomatch hq⟩
theorem c_142_s_0 : vOkm T0 (eP e_142 L_142 A_142 mu_142 none) 3 ([], (4000, [0, 1, 2, 3, 4], [0], 5)) := vOk_in fun ρ η h => by
  obtain ⟨_⟩ := h
  exact q_142_0 (n0 := ρ 0) (n1 := ρ 1) (n2 := ρ 2) (n3 := ρ 3) (n4 := ρ 4) (H0 := η 0) 
def p_142_s : List vG := [([], (4000, [0, 1, 2, 3, 4], [0], 5))]
theorem r_142_s : vCovO true (eR0 e_142 L_142 cs_142 2000) p_142_s = true := by decide +kernel
theorem q_142_1 {q0 : Nat} {n0 n1 n2 n3 n4 n5 n6 n7 n8 n9 n10 : Int} {H0 H1 H2 : gH} (f0 : n0 ≤ 2147483647) (f1 : (-2147483648) ≤ n0) (f2 : (hLe T0 H0 H1 ∧ hFr s_142.2.2.2.2 H0 H1 ∧ hWt T0 H1) ∧ (True ∧ True) ∧ some q0 = some (mub_142_5 n1 n2 n3 n4 n5 n6 n7 n0 H0 H1)) (f3 : n8 ≤ 40) (f4 : 0 ≤ n8) (f5 : n0 < n8) (f6 : n9 = w32 (n0 + 1)) : True ∧ ∀ q, some q0 = some q → mub_142_5 n1 n2 n3 n4 n5 n6 n10 n9 H0 H2 < q := by
  have g5 := Option.some.inj f2.2.2
  unfold mub_142_5 at g5
  unfold mub_142_5
  unfold w32 at *
  refine ⟨?_, fun q hq => ?_⟩
  · trivial
  · have g6 := Option.some.inj hq
    subst g6
    omega
theorem c_142_5_0 {q0 : Nat} : vOkm T0 (eP e_142 L_142 A_142 mu_142 (some q0)) 3 ([(10, [13, 7], [], 1), (42, [7, 8], [], 0), (90, [8], [], 0), (91, [8], [], 40), (5000, [0, 1, 2, 3, 4, 5, 6, 7], [0, 1], 5), (90, [7], [], -2147483648), (91, [7], [], 2147483647)], (4000, [3, 4, 5, 12, 13], [3], 5)) := vOk_in fun ρ η h => by
  obtain ⟨f0, f1, f2, f3, f4, f5, f6, _⟩ := h
  exact q_142_1 (q0 := q0) (n0 := ρ 7) (n1 := ρ 0) (n2 := ρ 1) (n3 := ρ 2) (n4 := ρ 3) (n5 := ρ 4) (n6 := ρ 5) (n7 := ρ 6) (n8 := ρ 8) (n9 := ρ 13) (n10 := ρ 12) (H0 := η 0) (H1 := η 1) (H2 := η 3) f6 f5 f4 f3 f2 f1 f0
theorem c_142_5_1 {q0 : Nat} : vOkm T0 (eP e_142 L_142 A_142 mu_142 (some q0)) 3 ([(10, [13, 7], [], 1), (42, [7, 8], [], 0), (90, [8], [], 0), (91, [8], [], 40), (5000, [0, 1, 2, 3, 4, 5, 6, 7], [0, 1], 5), (90, [7], [], -2147483648), (91, [7], [], 2147483647)], (4000, [3, 4, 5, 12, 13], [3], 5)) := vOk_in fun ρ η h => by
  obtain ⟨f0, f1, f2, f3, f4, f5, f6, _⟩ := h
  exact q_142_1 (q0 := q0) (n0 := ρ 7) (n1 := ρ 0) (n2 := ρ 1) (n3 := ρ 2) (n4 := ρ 3) (n5 := ρ 4) (n6 := ρ 5) (n7 := ρ 6) (n8 := ρ 8) (n9 := ρ 13) (n10 := ρ 12) (H0 := η 0) (H1 := η 1) (H2 := η 3) f6 f5 f4 f3 f2 f1 f0
def p_142_5 : List vG := [([(10, [13, 7], [], 1), (42, [7, 8], [], 0), (90, [8], [], 0), (91, [8], [], 40), (5000, [0, 1, 2, 3, 4, 5, 6, 7], [0, 1], 5), (90, [7], [], -2147483648), (91, [7], [], 2147483647)], (4000, [3, 4, 5, 12, 13], [3], 5)),
  ([(10, [13, 7], [], 1), (42, [7, 8], [], 0), (90, [8], [], 0), (91, [8], [], 40), (5000, [0, 1, 2, 3, 4, 5, 6, 7], [0, 1], 5), (90, [7], [], -2147483648), (91, [7], [], 2147483647)], (4000, [3, 4, 5, 12, 13], [3], 5))]
theorem r_142_5 : vCovO true (eRc e_142 L_142 cs_142 2000 (5, [(0, (3, 9, 281, 0)), (1, (3, 6, -1, 0)), (2, (0, -2147483648, 2147483647, 0)), (3, (0, -2147483648, 2147483647, 0)), (4, (0, -2147483648, 2147483647, 0))])) p_142_5 = true := by decide +kernel
theorem m_142 (d : Nat) : eC e_142 (d + 5) := eC_ok (e := e_142) (L := L_142) (cs := cs_142) (n := 2000) (d := d + 4) (A := A_142) (μ := mu_142) (tp := true) (p0 := p_142_s) rfl ⟨m_115 (d + 3), ⟨m_141 d, trivial⟩⟩ rfl (.inr pre0_ok) (by decide +kernel) (fun _ => post0_ok) r_142_s (allC c_142_s_0 allN) (allC (.inl ⟨p_142_5, r_142_5, fun q0 => (allC c_142_5_0 (allC c_142_5_1 allN))⟩) allN)
/- Tracer.seekGiven (ILMixStage$Cue;)V -/
noncomputable def s_144 : vM := ([(3, 9, 281, 0), (0, -2147483648, 2147483647, 0), (3, 1, -1, 0)], (9, 0, 0, 0), 0, 0, [(10, 0), (10, 1), (10, 2), (100, 0)])
noncomputable def e_144 : vE := (144, s_144, pre0, post0)
noncomputable def L_144 : List vE := [e_37, e_39, e_41, e_53, e_201]
def cs_144 : List vC := [(24, [(0, (3, 9, 281, 0)), (1, (0, -2147483648, 2147483647, 0)), (2, (3, 1, -1, 0)), (3, (0, -2147483648, 2147483647, 0)), (4, (0, -2147483648, 2147483647, 0))])]
def mub_144_24 (a0 a1 a2 x0 x1 x2 x3 x4 : Int) (h0 h : gH) : Nat := (2147483648 - x4).toNat
def A_144 : Int → List Int → gH → gH → Prop := fun c xs h0 h => True
def mu_144 : Int → List Int → gH → gH → Nat := fun c xs h0 h => match c.toNat with
  | 24 => (match xs with
    | [a0, a1, a2, x0, x1, x2, x3, x4] => mub_144_24 a0 a1 a2 x0 x1 x2 x3 x4 h0 h
    | _ => 0)
  | _ => 0
theorem q_144_0 {n0 n1 n2 n3 n4 : Int} {H0 H1 : gH}  : True ∧ ∀ q, none = some q → mub_144_24 n0 n1 n2 n0 n1 n2 n3 n4 H0 H1 < q := by
  exact ⟨trivial, fun q hq => nomatch hq⟩
theorem c_144_s_0 : vOkm T0 (eP e_144 L_144 A_144 mu_144 none) 3 ([], (4000, [0, 1, 2, 6, 9], [2], 24)) := vOk_in fun ρ η h => by
  obtain ⟨_⟩ := h
  exact q_144_0 (n0 := ρ 0) (n1 := ρ 1) (n2 := ρ 2) (n3 := ρ 6) (n4 := ρ 9) (H0 := η 0) (H1 := η 2) 
def p_144_s : List vG := [([], (4000, [0, 1, 2, 6, 9], [2], 24))]
theorem r_144_s : vCovO true (eR0 e_144 L_144 cs_144 2000) p_144_s = true := by decide +kernel
theorem q_144_1 {q0 : Nat} {n0 n1 n2 n3 n4 n5 n6 n7 n8 : Int} {H0 H1 H2 : gH} (f0 : n0 ≤ 2147483647) (f1 : (-2147483648) ≤ n0) (f2 : n1 ≤ 2147483647) (f3 : (-2147483648) ≤ n1) (f4 : (hLe T0 H0 H1 ∧ hFr s_144.2.2.2.2 H0 H1 ∧ hWt T0 H1) ∧ (True ∧ True) ∧ some q0 = some (mub_144_24 n2 n3 n4 n5 n6 n7 n1 n0 H0 H1)) (f5 : n0 < n1) (f6 : n8 = w32 (n0 + 1)) : True ∧ ∀ q, some q0 = some q → mub_144_24 n2 n3 n4 n5 n6 n7 n1 n8 H0 H2 < q := by
  have g5 := Option.some.inj f4.2.2
  unfold mub_144_24 at g5
  unfold mub_144_24
  unfold w32 at *
  refine ⟨?_, fun q hq => ?_⟩
  · trivial
  · have g6 := Option.some.inj hq
    subst g6
    omega
theorem c_144_24_0 {q0 : Nat} : vOkm T0 (eP e_144 L_144 A_144 mu_144 (some q0)) 3 ([(10, [13, 7], [], 1), (42, [7, 6], [], 0), (5000, [0, 1, 2, 3, 4, 5, 6, 7], [0, 1], 24), (90, [6], [], -2147483648), (91, [6], [], 2147483647), (90, [7], [], -2147483648), (91, [7], [], 2147483647)], (4000, [3, 4, 5, 6, 13], [3], 24)) := vOk_in fun ρ η h => by
  obtain ⟨f0, f1, f2, f3, f4, f5, f6, _⟩ := h
  exact q_144_1 (q0 := q0) (n0 := ρ 7) (n1 := ρ 6) (n2 := ρ 0) (n3 := ρ 1) (n4 := ρ 2) (n5 := ρ 3) (n6 := ρ 4) (n7 := ρ 5) (n8 := ρ 13) (H0 := η 0) (H1 := η 1) (H2 := η 3) f6 f5 f4 f3 f2 f1 f0
theorem c_144_24_1 {q0 : Nat} : vOkm T0 (eP e_144 L_144 A_144 mu_144 (some q0)) 3 ([(10, [17, 7], [], 1), (42, [7, 6], [], 0), (5000, [0, 1, 2, 3, 4, 5, 6, 7], [0, 1], 24), (90, [6], [], -2147483648), (91, [6], [], 2147483647), (90, [7], [], -2147483648), (91, [7], [], 2147483647)], (4000, [3, 4, 5, 6, 17], [4], 24)) := vOk_in fun ρ η h => by
  obtain ⟨f0, f1, f2, f3, f4, f5, f6, _⟩ := h
  exact q_144_1 (q0 := q0) (n0 := ρ 7) (n1 := ρ 6) (n2 := ρ 0) (n3 := ρ 1) (n4 := ρ 2) (n5 := ρ 3) (n6 := ρ 4) (n7 := ρ 5) (n8 := ρ 17) (H0 := η 0) (H1 := η 1) (H2 := η 4) f6 f5 f4 f3 f2 f1 f0
def p_144_24 : List vG := [([(10, [13, 7], [], 1), (42, [7, 6], [], 0), (5000, [0, 1, 2, 3, 4, 5, 6, 7], [0, 1], 24), (90, [6], [], -2147483648), (91, [6], [], 2147483647), (90, [7], [], -2147483648), (91, [7], [], 2147483647)], (4000, [3, 4, 5, 6, 13], [3], 24)),
  ([(10, [17, 7], [], 1), (42, [7, 6], [], 0), (5000, [0, 1, 2, 3, 4, 5, 6, 7], [0, 1], 24), (90, [6], [], -2147483648), (91, [6], [], 2147483647), (90, [7], [], -2147483648), (91, [7], [], 2147483647)], (4000, [3, 4, 5, 6, 17], [4], 24))]
theorem r_144_24 : vCovO true (eRc e_144 L_144 cs_144 2000 (24, [(0, (3, 9, 281, 0)), (1, (0, -2147483648, 2147483647, 0)), (2, (3, 1, -1, 0)), (3, (0, -2147483648, 2147483647, 0)), (4, (0, -2147483648, 2147483647, 0))])) p_144_24 = true := by decide +kernel
theorem m_144 (d : Nat) : eC e_144 (d + 5) := eC_ok (e := e_144) (L := L_144) (cs := cs_144) (n := 2000) (d := d + 4) (A := A_144) (μ := mu_144) (tp := true) (p0 := p_144_s) rfl ⟨m_37 d, ⟨m_39 (d + 2), ⟨m_41 (d + 3), ⟨m_53 (d + 2), ⟨m_201 (d + 3), trivial⟩⟩⟩⟩⟩ rfl (.inr pre0_ok) (by decide +kernel) (fun _ => post0_ok) r_144_s (allC c_144_s_0 allN) (allC (.inl ⟨p_144_24, r_144_24, fun q0 => (allC c_144_24_0 (allC c_144_24_1 allN))⟩) allN)
/- Tracer.framesOfMusic (LMixStage$Sheet;II)I -/
noncomputable def s_143 : vM := ([(3, 9, 281, 0), (3, 6, -1, 0), (0, -2147483648, 2147483647, 0), (0, -2147483648, 2147483647, 0)], (0, -2147483648, 2147483647, 0), 0, 0, [(10, 0), (10, 1), (10, 2), (100, 0)])
noncomputable def e_143 : vE := (143, s_143, pre0, post0)
noncomputable def L_143 : List vE := [e_53, e_115, e_135, e_141, e_144, e_203]
def cs_143 : List vC := [(11, [(0, (3, 9, 281, 0)), (1, (3, 6, -1, 0)), (2, (0, -2147483648, 2147483647, 0)), (3, (0, -2147483648, 2147483647, 0)), (4, (0, -2147483648, 2147483647, 0))]), (70, [(0, (3, 9, 281, 0)), (1, (3, 6, -1, 0)), (2, (0, -2147483648, 2147483647, 0)), (3, (0, -2147483648, 2147483647, 0)), (4, (0, -2147483648, 2147483647, 0)), (5, (0, -2147483648, 2147483647, 0)), (6, (0, -2147483648, 2147483647, 0))])]
def mub_143_11 (a0 a1 a2 a3 x0 x1 x2 x3 x4 : Int) (h0 h : gH) : Nat := (17179869184 + (2147483648 - x4).toNat) * 1
def mub_143_70 (a0 a1 a2 a3 x0 x1 x2 x3 x4 x5 x6 : Int) (h0 h : gH) : Nat := (8589934592 + (2147483648 - x6).toNat) * 1
def A_143 : Int → List Int → gH → gH → Prop := fun c xs h0 h => True
def mu_143 : Int → List Int → gH → gH → Nat := fun c xs h0 h => match c.toNat with
  | 11 => (match xs with
    | [a0, a1, a2, a3, x0, x1, x2, x3, x4] => mub_143_11 a0 a1 a2 a3 x0 x1 x2 x3 x4 h0 h
    | _ => 0)
  | 70 => (match xs with
    | [a0, a1, a2, a3, x0, x1, x2, x3, x4, x5, x6] => mub_143_70 a0 a1 a2 a3 x0 x1 x2 x3 x4 x5 x6 h0 h
    | _ => 0)
  | _ => 0
theorem q_143_0 {n0 n1 n2 n3 n4 : Int} {H0 H1 : gH}  : True ∧ ∀ q, none = some q → mub_143_11 n0 n1 n2 n3 n0 n1 n2 n3 n4 H0 H1 < q := by
  exact ⟨trivial, fun q hq => nomatch hq⟩
theorem c_143_s_0 : vOkm T0 (eP e_143 L_143 A_143 mu_143 none) 4 ([], (4000, [0, 1, 2, 3, 6], [1], 11)) := vOk_in fun ρ η h => by
  obtain ⟨_⟩ := h
  exact q_143_0 (n0 := ρ 0) (n1 := ρ 1) (n2 := ρ 2) (n3 := ρ 3) (n4 := ρ 6) (H0 := η 0) (H1 := η 1) 
def p_143_s : List vG := [([], (4000, [0, 1, 2, 3, 6], [1], 11))]
theorem r_143_s : vCovO true (eR0 e_143 L_143 cs_143 2000) p_143_s = true := by decide +kernel
theorem q_143_1 {q0 : Nat} {n0 n1 n2 n3 n4 n5 n6 n7 n8 n9 n10 n11 n12 : Int} {H0 H1 H2 : gH} (f0 : n0 ≤ 2147483647) (f1 : (-2147483648) ≤ n0) (f2 : (hLe T0 H0 H1 ∧ hFr s_143.2.2.2.2 H0 H1 ∧ hWt T0 H1) ∧ (True ∧ True) ∧ some q0 = some (mub_143_11 n1 n2 n3 n4 n5 n6 n7 n8 n0 H0 H1)) (f3 : n9 ≤ 40) (f4 : 0 ≤ n9) (f5 : n9 ≤ n0) (f6 : n10 = 0) : True ∧ ∀ q, some q0 = some q → mub_143_70 n1 n2 n3 n4 n5 n6 n7 n8 n11 n12 n10 H0 H2 < q := by
  have g5 := Option.some.inj f2.2.2
  unfold mub_143_11 at g5
  unfold mub_143_70
  refine ⟨?_, fun q hq => ?_⟩
  · trivial
  · have g6 := Option.some.inj hq
    subst g6
    omega
theorem c_143_11_0 {q0 : Nat} : vOkm T0 (eP e_143 L_143 A_143 mu_143 (some q0)) 4 ([(0, [13], [], 0), (43, [8, 9], [], 0), (90, [9], [], 0), (91, [9], [], 40), (5000, [0, 1, 2, 3, 4, 5, 6, 7, 8], [0, 1], 11), (90, [8], [], -2147483648), (91, [8], [], 2147483647)], (4000, [4, 5, 6, 7, 10, 12, 13], [2], 70)) := vOk_in fun ρ η h => by
  obtain ⟨f0, f1, f2, f3, f4, f5, f6, _⟩ := h
  exact q_143_1 (q0 := q0) (n0 := ρ 8) (n1 := ρ 0) (n2 := ρ 1) (n3 := ρ 2) (n4 := ρ 3) (n5 := ρ 4) (n6 := ρ 5) (n7 := ρ 6) (n8 := ρ 7) (n9 := ρ 9) (n10 := ρ 13) (n11 := ρ 10) (n12 := ρ 12) (H0 := η 0) (H1 := η 1) (H2 := η 2) f6 f5 f4 f3 f2 f1 f0
theorem q_143_2 {q0 : Nat} {n0 n1 n2 n3 n4 n5 n6 n7 n8 n9 n10 : Int} {H0 H1 H2 : gH} (f0 : n0 ≤ 2147483647) (f1 : (-2147483648) ≤ n0) (f2 : (hLe T0 H0 H1 ∧ hFr s_143.2.2.2.2 H0 H1 ∧ hWt T0 H1) ∧ (True ∧ True) ∧ some q0 = some (mub_143_11 n1 n2 n3 n4 n5 n6 n7 n8 n0 H0 H1)) (f3 : n9 ≤ 40) (f4 : 0 ≤ n9) (f5 : n0 < n9) (f6 : n10 = w32 (n0 + 1)) : True ∧ ∀ q, some q0 = some q → mub_143_11 n1 n2 n3 n4 n5 n6 n7 n8 n10 H0 H2 < q := by
  have g5 := Option.some.inj f2.2.2
  unfold mub_143_11 at g5
  unfold mub_143_11
  unfold w32 at *
  refine ⟨?_, fun q hq => ?_⟩
  · trivial
  · have g6 := Option.some.inj hq
    subst g6
    omega
theorem c_143_11_1 {q0 : Nat} : vOkm T0 (eP e_143 L_143 A_143 mu_143 (some q0)) 4 ([(10, [12, 8], [], 1), (42, [8, 9], [], 0), (90, [9], [], 0), (91, [9], [], 40), (5000, [0, 1, 2, 3, 4, 5, 6, 7, 8], [0, 1], 11), (90, [8], [], -2147483648), (91, [8], [], 2147483647)], (4000, [4, 5, 6, 7, 12], [3], 11)) := vOk_in fun ρ η h => by
  obtain ⟨f0, f1, f2, f3, f4, f5, f6, _⟩ := h
  exact q_143_2 (q0 := q0) (n0 := ρ 8) (n1 := ρ 0) (n2 := ρ 1) (n3 := ρ 2) (n4 := ρ 3) (n5 := ρ 4) (n6 := ρ 5) (n7 := ρ 6) (n8 := ρ 7) (n9 := ρ 9) (n10 := ρ 12) (H0 := η 0) (H1 := η 1) (H2 := η 3) f6 f5 f4 f3 f2 f1 f0
theorem q_143_3 {q0 : Nat} {n0 n1 n2 n3 n4 n5 n6 n7 n8 n9 n10 n11 : Int} {H0 H1 H2 H3 : gH} (f0 : n0 ≤ 2147483647) (f1 : (-2147483648) ≤ n0) (f2 : n1 ≤ 2147483647) (f3 : (-2147483648) ≤ n1) (f4 : n2 ≤ 2147483647) (f5 : (-2147483648) ≤ n2) (f6 : 0 ≤ n3) (f7 : n4 = 281) (f8 : n5 ≤ 2147483647) (f9 : (-2147483648) ≤ n5) (f10 : n6 ≤ 2147483647) (f11 : (-2147483648) ≤ n6) (f12 : 0 ≤ n7) (f13 : n8 = 281) (f14 : (hLe T0 H0 H1 ∧ hFr s_143.2.2.2.2 H0 H1 ∧ hWt T0 H1) ∧ (True ∧ True) ∧ some q0 = some (mub_143_11 n8 n7 n6 n5 n4 n3 n2 n1 n0 H0 H1)) (f15 : n9 ≤ 40) (f16 : 0 ≤ n9) (f17 : hK H1 (n3).toNat = 6) (f18 : n9 = hV H1 (n3).toNat 2) (f19 : n0 < n9) (f20 : (hLe T0 H1 H2 ∧ hFr s_115.2.2.2.2 H1 H2 ∧ ((0 : Int) = 0 → H2.length = H1.length) ∧ hWt T0 H2) ∧ True) (f21 : n11 ≤ 1) (f22 : 0 ≤ n11) (f23 : (hLe T0 H2 H3 ∧ hFr s_141.2.2.2.2 H2 H3 ∧ ((0 : Int) = 0 → H3.length = H2.length) ∧ hWt T0 H3) ∧ postb_141 n11 n4 n10 n2 H2 H3) (f24 : n11 ≠ 0) (f25 : hK H3 (n3).toNat = 6) : 0 ≤ n10 := by
  have g5 := Option.some.inj f14.2.2
  unfold mub_143_11 at g5
  unfold postb_141 at f23
  have e0 : n9 = hV H1 (n3).toNat 2 := f18
  omega
theorem c_143_11_2 {q0 : Nat} : vOkm T0 (eP e_143 L_143 A_143 mu_143 (some q0)) 4 ([(23, [5], [3], 6), (31, [11], [], 0), (1141, [11, 4, 10, 6], [2, 3], 0), (90, [11], [], 0), (91, [11], [], 1), (1115, [10, 5, 8], [1, 2], 0), (42, [8, 9], [], 0), (20, [9, 5], [1], 2), (23, [5], [1], 6), (90, [9], [], 0), (91, [9], [], 40), (5000, [0, 1, 2, 3, 4, 5, 6, 7, 8], [0, 1], 11), (0, [0], [], 281), (51, [1], [], 0), (90, [2], [], -2147483648), (91, [2], [], 2147483647), (90, [3], [], -2147483648), (91, [3], [], 2147483647), (0, [4], [], 281), (51, [5], [], 0), (90, [6], [], -2147483648), (91, [6], [], 2147483647), (90, [7], [], -2147483648), (91, [7], [], 2147483647), (90, [8], [], -2147483648), (91, [8], [], 2147483647)], (51, [10], [], 0)) := vOk_in fun ρ η h => by
  obtain ⟨f0, f1, f2, f3, f4, f5, f6, f7, f8, f9, f10, f11, f12, f13, f14, f15, f16, f17, f18, f19, f20, f21, f22, f23, f24, f25, _⟩ := h
  exact q_143_3 (q0 := q0) (n0 := ρ 8) (n1 := ρ 7) (n2 := ρ 6) (n3 := ρ 5) (n4 := ρ 4) (n5 := ρ 3) (n6 := ρ 2) (n7 := ρ 1) (n8 := ρ 0) (n9 := ρ 9) (n10 := ρ 10) (n11 := ρ 11) (H0 := η 0) (H1 := η 1) (H2 := η 2) (H3 := η 3) f25 f24 f23 f22 f21 f20 f19 f18 f17 f16 f15 f14 f13 f12 f11 f10 f9 f8 f7 f6 f5 f4 f3 f2 f1 f0
theorem c_143_11_3 {q0 : Nat} : vOkm T0 (eP e_143 L_143 A_143 mu_143 (some q0)) 4 ([(10, [13, 8], [], 1), (42, [8, 9], [], 0), (90, [9], [], 0), (91, [9], [], 40), (5000, [0, 1, 2, 3, 4, 5, 6, 7, 8], [0, 1], 11), (90, [8], [], -2147483648), (91, [8], [], 2147483647)], (4000, [4, 5, 6, 7, 13], [4], 11)) := vOk_in fun ρ η h => by
  obtain ⟨f0, f1, f2, f3, f4, f5, f6, _⟩ := h
  exact q_143_2 (q0 := q0) (n0 := ρ 8) (n1 := ρ 0) (n2 := ρ 1) (n3 := ρ 2) (n4 := ρ 3) (n5 := ρ 4) (n6 := ρ 5) (n7 := ρ 6) (n8 := ρ 7) (n9 := ρ 9) (n10 := ρ 13) (H0 := η 0) (H1 := η 1) (H2 := η 4) f6 f5 f4 f3 f2 f1 f0
def p_143_11 : List vG := [([(0, [13], [], 0), (43, [8, 9], [], 0), (90, [9], [], 0), (91, [9], [], 40), (5000, [0, 1, 2, 3, 4, 5, 6, 7, 8], [0, 1], 11), (90, [8], [], -2147483648), (91, [8], [], 2147483647)], (4000, [4, 5, 6, 7, 10, 12, 13], [2], 70)),
  ([(10, [12, 8], [], 1), (42, [8, 9], [], 0), (90, [9], [], 0), (91, [9], [], 40), (5000, [0, 1, 2, 3, 4, 5, 6, 7, 8], [0, 1], 11), (90, [8], [], -2147483648), (91, [8], [], 2147483647)], (4000, [4, 5, 6, 7, 12], [3], 11)),
  ([(23, [5], [3], 6), (31, [11], [], 0), (1141, [11, 4, 10, 6], [2, 3], 0), (90, [11], [], 0), (91, [11], [], 1), (1115, [10, 5, 8], [1, 2], 0), (42, [8, 9], [], 0), (20, [9, 5], [1], 2), (23, [5], [1], 6), (90, [9], [], 0), (91, [9], [], 40), (5000, [0, 1, 2, 3, 4, 5, 6, 7, 8], [0, 1], 11), (0, [0], [], 281), (51, [1], [], 0), (90, [2], [], -2147483648), (91, [2], [], 2147483647), (90, [3], [], -2147483648), (91, [3], [], 2147483647), (0, [4], [], 281), (51, [5], [], 0), (90, [6], [], -2147483648), (91, [6], [], 2147483647), (90, [7], [], -2147483648), (91, [7], [], 2147483647), (90, [8], [], -2147483648), (91, [8], [], 2147483647)], (51, [10], [], 0)),
  ([(10, [13, 8], [], 1), (42, [8, 9], [], 0), (90, [9], [], 0), (91, [9], [], 40), (5000, [0, 1, 2, 3, 4, 5, 6, 7, 8], [0, 1], 11), (90, [8], [], -2147483648), (91, [8], [], 2147483647)], (4000, [4, 5, 6, 7, 13], [4], 11))]
theorem r_143_11 : vCovO true (eRc e_143 L_143 cs_143 2000 (11, [(0, (3, 9, 281, 0)), (1, (3, 6, -1, 0)), (2, (0, -2147483648, 2147483647, 0)), (3, (0, -2147483648, 2147483647, 0)), (4, (0, -2147483648, 2147483647, 0))])) p_143_11 = true := by decide +kernel
theorem q_143_4 {q0 : Nat} {n0 n1 n2 n3 n4 n5 n6 n7 n8 n9 n10 n11 n12 : Int} {H0 H1 H2 : gH} (f0 : n0 ≤ 2147483647) (f1 : (-2147483648) ≤ n0) (f2 : n1 ≤ 2147483647) (f3 : (-2147483648) ≤ n1) (f4 : (hLe T0 H0 H1 ∧ hFr s_143.2.2.2.2 H0 H1 ∧ hWt T0 H1) ∧ (True ∧ True) ∧ some q0 = some (mub_143_70 n2 n3 n4 n5 n6 n7 n8 n9 n10 n1 n0 H0 H1)) (f5 : n0 < n1) (f6 : n11 = w32 (n0 + 1)) : True ∧ ∀ q, some q0 = some q → mub_143_70 n2 n3 n4 n5 n6 n7 n8 n9 n12 n1 n11 H0 H2 < q := by
  have g5 := Option.some.inj f4.2.2
  unfold mub_143_70 at g5
  unfold mub_143_70
  unfold w32 at *
  refine ⟨?_, fun q hq => ?_⟩
  · trivial
  · have g6 := Option.some.inj hq
    subst g6
    omega
theorem c_143_70_0 {q0 : Nat} : vOkm T0 (eP e_143 L_143 A_143 mu_143 (some q0)) 4 ([(10, [15, 10], [], 1), (42, [10, 9], [], 0), (5000, [0, 1, 2, 3, 4, 5, 6, 7, 8, 9, 10], [0, 1], 70), (90, [9], [], -2147483648), (91, [9], [], 2147483647), (90, [10], [], -2147483648), (91, [10], [], 2147483647)], (4000, [4, 5, 6, 7, 14, 9, 15], [2], 70)) := vOk_in fun ρ η h => by
  obtain ⟨f0, f1, f2, f3, f4, f5, f6, _⟩ := h
  exact q_143_4 (q0 := q0) (n0 := ρ 10) (n1 := ρ 9) (n2 := ρ 0) (n3 := ρ 1) (n4 := ρ 2) (n5 := ρ 3) (n6 := ρ 4) (n7 := ρ 5) (n8 := ρ 6) (n9 := ρ 7) (n10 := ρ 8) (n11 := ρ 15) (n12 := ρ 14) (H0 := η 0) (H1 := η 1) (H2 := η 2) f6 f5 f4 f3 f2 f1 f0
theorem c_143_70_1 {q0 : Nat} : vOkm T0 (eP e_143 L_143 A_143 mu_143 (some q0)) 4 ([(10, [15, 10], [], 1), (42, [10, 9], [], 0), (5000, [0, 1, 2, 3, 4, 5, 6, 7, 8, 9, 10], [0, 1], 70), (90, [9], [], -2147483648), (91, [9], [], 2147483647), (90, [10], [], -2147483648), (91, [10], [], 2147483647)], (4000, [4, 5, 6, 7, 14, 9, 15], [2], 70)) := vOk_in fun ρ η h => by
  obtain ⟨f0, f1, f2, f3, f4, f5, f6, _⟩ := h
  exact q_143_4 (q0 := q0) (n0 := ρ 10) (n1 := ρ 9) (n2 := ρ 0) (n3 := ρ 1) (n4 := ρ 2) (n5 := ρ 3) (n6 := ρ 4) (n7 := ρ 5) (n8 := ρ 6) (n9 := ρ 7) (n10 := ρ 8) (n11 := ρ 15) (n12 := ρ 14) (H0 := η 0) (H1 := η 1) (H2 := η 2) f6 f5 f4 f3 f2 f1 f0
def p_143_70 : List vG := [([(10, [15, 10], [], 1), (42, [10, 9], [], 0), (5000, [0, 1, 2, 3, 4, 5, 6, 7, 8, 9, 10], [0, 1], 70), (90, [9], [], -2147483648), (91, [9], [], 2147483647), (90, [10], [], -2147483648), (91, [10], [], 2147483647)], (4000, [4, 5, 6, 7, 14, 9, 15], [2], 70)),
  ([(10, [15, 10], [], 1), (42, [10, 9], [], 0), (5000, [0, 1, 2, 3, 4, 5, 6, 7, 8, 9, 10], [0, 1], 70), (90, [9], [], -2147483648), (91, [9], [], 2147483647), (90, [10], [], -2147483648), (91, [10], [], 2147483647)], (4000, [4, 5, 6, 7, 14, 9, 15], [2], 70))]
theorem r_143_70 : vCovO true (eRc e_143 L_143 cs_143 2000 (70, [(0, (3, 9, 281, 0)), (1, (3, 6, -1, 0)), (2, (0, -2147483648, 2147483647, 0)), (3, (0, -2147483648, 2147483647, 0)), (4, (0, -2147483648, 2147483647, 0)), (5, (0, -2147483648, 2147483647, 0)), (6, (0, -2147483648, 2147483647, 0))])) p_143_70 = true := by decide +kernel
theorem m_143 (d : Nat) : eC e_143 (d + 6) := eC_ok (e := e_143) (L := L_143) (cs := cs_143) (n := 2000) (d := d + 5) (A := A_143) (μ := mu_143) (tp := true) (p0 := p_143_s) rfl ⟨m_53 (d + 3), ⟨m_115 (d + 4), ⟨m_135 (d + 2), ⟨m_141 (d + 1), ⟨m_144 d, ⟨m_203 (d + 3), trivial⟩⟩⟩⟩⟩⟩ rfl (.inr pre0_ok) (by decide +kernel) (fun _ => post0_ok) r_143_s (allC c_143_s_0 allN) (allC (.inl ⟨p_143_11, r_143_11, fun q0 => (allC c_143_11_0 (allC c_143_11_1 (allC c_143_11_2 (allC c_143_11_3 allN))))⟩) (allC (.inl ⟨p_143_70, r_143_70, fun q0 => (allC c_143_70_0 (allC c_143_70_1 allN))⟩) allN))
/- Tracer.doQuarrel (LMixStage$Cue;LMixStage$Cue;)Z -/
noncomputable def s_146 : vM := ([(3, 9, 281, 0), (2, 1, -1, 0), (2, 1, -1, 0)], (0, 0, 1, 0), 0, 0, [])
noncomputable def e_146 : vE := (146, s_146, pre0, post0)
noncomputable def L_146 : List vE := [e_8]
def cs_146 : List vC := []
def A_146 : Int → List Int → gH → gH → Prop := fun c xs h0 h => True
def mu_146 : Int → List Int → gH → gH → Nat := fun c xs h0 h => 0
def p_146_s : List vG := []
theorem r_146_s : vCovO true (eR0 e_146 L_146 cs_146 2000) p_146_s = true := by decide +kernel
theorem m_146 (d : Nat) : eC e_146 (d + 3) := eC_ok (e := e_146) (L := L_146) (cs := cs_146) (n := 2000) (d := d + 2) (A := A_146) (μ := mu_146) (tp := true) (p0 := p_146_s) rfl ⟨m_8 d, trivial⟩ rfl (.inr pre0_ok) (by decide +kernel) (fun _ => post0_ok) r_146_s allN allN
/- Tracer.quarrelOf (LMixStage$Sheet;I)I -/
noncomputable def s_145 : vM := ([(3, 9, 281, 0), (3, 6, -1, 0), (0, -2147483648, 2147483647, 0)], (0, -2147483648, 2147483647, 0), 0, 0, [])
noncomputable def e_145 : vE := (145, s_145, pre0, post0)
noncomputable def L_145 : List vE := [e_115, e_146]
def cs_145 : List vC := [(5, [(0, (3, 9, 281, 0)), (1, (3, 6, -1, 0)), (2, (0, -2147483648, 2147483647, 0)), (3, (0, -2147483648, 2147483647, 0)), (4, (0, -2147483648, 2147483647, 0))]), (20, [(0, (3, 9, 281, 0)), (1, (3, 6, -1, 0)), (2, (0, -2147483648, 2147483647, 0)), (3, (0, -2147483648, 2147483647, 0)), (4, (0, -2147483648, 2147483646, 0)), (5, (0, -2147483648, 2147483647, 0))])]
def mub_145_5 (a0 a1 a2 x0 x1 x2 x3 x4 : Int) (h0 h : gH) : Nat := (8589934592 + (2147483648 - x4).toNat) * 1099511627776 + 1099511627775
def mub_145_20 (a0 a1 a2 x0 x1 x2 x3 x4 x5 : Int) (h0 h : gH) : Nat := (8589934592 + (2147483648 - x4).toNat) * 1099511627776 + (8589934592 + (2147483648 - x5).toNat) * 1
def A_145 : Int → List Int → gH → gH → Prop := fun c xs h0 h => True
def mu_145 : Int → List Int → gH → gH → Nat := fun c xs h0 h => match c.toNat with
  | 5 => (match xs with
    | [a0, a1, a2, x0, x1, x2, x3, x4] => mub_145_5 a0 a1 a2 x0 x1 x2 x3 x4 h0 h
    | _ => 0)
  | 20 => (match xs with
    | [a0, a1, a2, x0, x1, x2, x3, x4, x5] => mub_145_20 a0 a1 a2 x0 x1 x2 x3 x4 x5 h0 h
    | _ => 0)
  | _ => 0
theorem q_145_0 {n0 n1 n2 n3 : Int} {H0 : gH}  : True ∧ ∀ q, none = some q → mub_145_5 n0 n1 n2 n0 n1 n2 n2 n3 H0 H0 < q := by
  exact ⟨trivial, fun q hq => nomatch hq⟩
theorem c_145_s_0 : vOkm T0 (eP e_145 L_145 A_145 mu_145 none) 3 ([], (4000, [0, 1, 2, 2, 3], [0], 5)) := vOk_in fun ρ η h => by
  obtain ⟨_⟩ := h
  exact q_145_0 (n0 := ρ 0) (n1 := ρ 1) (n2 := ρ 2) (n3 := ρ 3) (H0 := η 0) 
def p_145_s : List vG := [([], (4000, [0, 1, 2, 2, 3], [0], 5))]
theorem r_145_s : vCovO true (eR0 e_145 L_145 cs_145 2000) p_145_s = true := by decide +kernel
theorem q_145_1 {q0 : Nat} {n0 n1 n2 n3 n4 n5 n6 n7 n8 n9 n10 : Int} {H0 H1 : gH} (f0 : n0 ≤ 2147483647) (f1 : (-2147483648) ≤ n0) (f2 : n1 ≤ 2147483647) (f3 : (-2147483648) ≤ n1) (f4 : n2 ≤ 2147483647) (f5 : (-2147483648) ≤ n2) (f6 : 0 ≤ n3) (f7 : n4 = 281) (f8 : n5 ≤ 2147483647) (f9 : (-2147483648) ≤ n5) (f10 : 0 ≤ n6) (f11 : n7 = 281) (f12 : (hLe T0 H0 H1 ∧ hFr s_145.2.2.2.2 H0 H1 ∧ hWt T0 H1) ∧ (True ∧ True) ∧ some q0 = some (mub_145_5 n7 n6 n5 n4 n3 n2 n1 n0 H0 H1)) (f13 : n8 ≤ 40) (f14 : 0 ≤ n8) (f15 : hK H1 (n3).toNat = 6) (f16 : n8 = hV H1 (n3).toNat 2) (f17 : n0 < n8) (f18 : n9 = 1) (f19 : n10 = w32 (n0 + n9)) : n0 ≤ 2147483646 := by
  have g5 := Option.some.inj f12.2.2
  unfold mub_145_5 at g5
  have e0 : n8 = hV H1 (n3).toNat 2 := f16
  unfold w32 at *
  omega
theorem c_145_5_0 {q0 : Nat} : vOkm T0 (eP e_145 L_145 A_145 mu_145 (some q0)) 3 ([(1, [10, 7, 9], [], 0), (0, [9], [], 1), (42, [7, 8], [], 0), (20, [8, 4], [1], 2), (23, [4], [1], 6), (90, [8], [], 0), (91, [8], [], 40), (5000, [0, 1, 2, 3, 4, 5, 6, 7], [0, 1], 5), (0, [0], [], 281), (51, [1], [], 0), (90, [2], [], -2147483648), (91, [2], [], 2147483647), (0, [3], [], 281), (51, [4], [], 0), (90, [5], [], -2147483648), (91, [5], [], 2147483647), (90, [6], [], -2147483648), (91, [6], [], 2147483647), (90, [7], [], -2147483648), (91, [7], [], 2147483647)], (91, [7], [], 2147483646)) := vOk_in fun ρ η h => by
  obtain ⟨f0, f1, f2, f3, f4, f5, f6, f7, f8, f9, f10, f11, f12, f13, f14, f15, f16, f17, f18, f19, _⟩ := h
  exact q_145_1 (q0 := q0) (n0 := ρ 7) (n1 := ρ 6) (n2 := ρ 5) (n3 := ρ 4) (n4 := ρ 3) (n5 := ρ 2) (n6 := ρ 1) (n7 := ρ 0) (n8 := ρ 8) (n9 := ρ 9) (n10 := ρ 10) (H0 := η 0) (H1 := η 1) f19 f18 f17 f16 f15 f14 f13 f12 f11 f10 f9 f8 f7 f6 f5 f4 f3 f2 f1 f0
theorem q_145_2 {q0 : Nat} {n0 n1 n2 n3 n4 n5 n6 n7 n8 n9 n10 : Int} {H0 H1 : gH} (f0 : n0 ≤ 2147483647) (f1 : (-2147483648) ≤ n0) (f2 : (hLe T0 H0 H1 ∧ hFr s_145.2.2.2.2 H0 H1 ∧ hWt T0 H1) ∧ (True ∧ True) ∧ some q0 = some (mub_145_5 n1 n2 n3 n4 n5 n6 n7 n0 H0 H1)) (f3 : n8 ≤ 40) (f4 : 0 ≤ n8) (f5 : n0 < n8) (f6 : n9 = 1) (f7 : n10 = w32 (n0 + n9)) : True ∧ ∀ q, some q0 = some q → mub_145_20 n1 n2 n3 n4 n5 n6 n7 n0 n10 H0 H1 < q := by
  have g5 := Option.some.inj f2.2.2
  unfold mub_145_5 at g5
  unfold mub_145_20
  unfold w32 at *
  refine ⟨?_, fun q hq => ?_⟩
  · trivial
  · have g6 := Option.some.inj hq
    subst g6
    omega
theorem c_145_5_1 {q0 : Nat} : vOkm T0 (eP e_145 L_145 A_145 mu_145 (some q0)) 3 ([(1, [10, 7, 9], [], 0), (0, [9], [], 1), (42, [7, 8], [], 0), (90, [8], [], 0), (91, [8], [], 40), (5000, [0, 1, 2, 3, 4, 5, 6, 7], [0, 1], 5), (90, [7], [], -2147483648), (91, [7], [], 2147483647)], (4000, [3, 4, 5, 6, 7, 10], [1], 20)) := vOk_in fun ρ η h => by
  obtain ⟨f0, f1, f2, f3, f4, f5, f6, f7, _⟩ := h
  exact q_145_2 (q0 := q0) (n0 := ρ 7) (n1 := ρ 0) (n2 := ρ 1) (n3 := ρ 2) (n4 := ρ 3) (n5 := ρ 4) (n6 := ρ 5) (n7 := ρ 6) (n8 := ρ 8) (n9 := ρ 9) (n10 := ρ 10) (H0 := η 0) (H1 := η 1) f7 f6 f5 f4 f3 f2 f1 f0
def p_145_5 : List vG := [([(1, [10, 7, 9], [], 0), (0, [9], [], 1), (42, [7, 8], [], 0), (20, [8, 4], [1], 2), (23, [4], [1], 6), (90, [8], [], 0), (91, [8], [], 40), (5000, [0, 1, 2, 3, 4, 5, 6, 7], [0, 1], 5), (0, [0], [], 281), (51, [1], [], 0), (90, [2], [], -2147483648), (91, [2], [], 2147483647), (0, [3], [], 281), (51, [4], [], 0), (90, [5], [], -2147483648), (91, [5], [], 2147483647), (90, [6], [], -2147483648), (91, [6], [], 2147483647), (90, [7], [], -2147483648), (91, [7], [], 2147483647)], (91, [7], [], 2147483646)),
  ([(1, [10, 7, 9], [], 0), (0, [9], [], 1), (42, [7, 8], [], 0), (90, [8], [], 0), (91, [8], [], 40), (5000, [0, 1, 2, 3, 4, 5, 6, 7], [0, 1], 5), (90, [7], [], -2147483648), (91, [7], [], 2147483647)], (4000, [3, 4, 5, 6, 7, 10], [1], 20))]
theorem r_145_5 : vCovO true (eRc e_145 L_145 cs_145 2000 (5, [(0, (3, 9, 281, 0)), (1, (3, 6, -1, 0)), (2, (0, -2147483648, 2147483647, 0)), (3, (0, -2147483648, 2147483647, 0)), (4, (0, -2147483648, 2147483647, 0))])) p_145_5 = true := by decide +kernel
theorem q_145_3 {q0 : Nat} {n0 n1 n2 n3 n4 n5 n6 n7 n8 n9 n10 : Int} {H0 H1 : gH} (f0 : n0 ≤ 2147483647) (f1 : (-2147483648) ≤ n0) (f2 : n1 ≤ 2147483646) (f3 : (-2147483648) ≤ n1) (f4 : (hLe T0 H0 H1 ∧ hFr s_145.2.2.2.2 H0 H1 ∧ hWt T0 H1) ∧ (True ∧ True) ∧ some q0 = some (mub_145_20 n2 n3 n4 n5 n6 n7 n8 n1 n0 H0 H1)) (f5 : n9 ≤ 40) (f6 : 0 ≤ n9) (f7 : n9 ≤ n0) (f8 : n10 = w32 (n1 + 1)) : True ∧ ∀ q, some q0 = some q → mub_145_5 n2 n3 n4 n5 n6 n7 n8 n10 H0 H1 < q := by
  have g5 := Option.some.inj f4.2.2
  unfold mub_145_20 at g5
  unfold mub_145_5
  unfold w32 at *
  refine ⟨?_, fun q hq => ?_⟩
  · trivial
  · have g6 := Option.some.inj hq
    subst g6
    omega
theorem c_145_20_0 {q0 : Nat} : vOkm T0 (eP e_145 L_145 A_145 mu_145 (some q0)) 3 ([(10, [10, 7], [], 1), (43, [8, 9], [], 0), (90, [9], [], 0), (91, [9], [], 40), (5000, [0, 1, 2, 3, 4, 5, 6, 7, 8], [0, 1], 20), (90, [7], [], -2147483648), (91, [7], [], 2147483646), (90, [8], [], -2147483648), (91, [8], [], 2147483647)], (4000, [3, 4, 5, 6, 10], [1], 5)) := vOk_in fun ρ η h => by
  obtain ⟨f0, f1, f2, f3, f4, f5, f6, f7, f8, _⟩ := h
  exact q_145_3 (q0 := q0) (n0 := ρ 8) (n1 := ρ 7) (n2 := ρ 0) (n3 := ρ 1) (n4 := ρ 2) (n5 := ρ 3) (n6 := ρ 4) (n7 := ρ 5) (n8 := ρ 6) (n9 := ρ 9) (n10 := ρ 10) (H0 := η 0) (H1 := η 1) f8 f7 f6 f5 f4 f3 f2 f1 f0
theorem q_145_4 {q0 : Nat} {n0 n1 n2 n3 n4 n5 n6 n7 n8 n9 n10 : Int} {H0 H1 H2 : gH} (f0 : n0 ≤ 2147483647) (f1 : (-2147483648) ≤ n0) (f2 : n1 ≤ 2147483646) (f3 : (-2147483648) ≤ n1) (f4 : (hLe T0 H0 H1 ∧ hFr s_145.2.2.2.2 H0 H1 ∧ hWt T0 H1) ∧ (True ∧ True) ∧ some q0 = some (mub_145_20 n2 n3 n4 n5 n6 n7 n8 n1 n0 H0 H1)) (f5 : n9 ≤ 40) (f6 : 0 ≤ n9) (f7 : n0 < n9) (f8 : n10 = w32 (n0 + 1)) : True ∧ ∀ q, some q0 = some q → mub_145_20 n2 n3 n4 n5 n6 n7 n8 n1 n10 H0 H2 < q := by
  have g5 := Option.some.inj f4.2.2
  unfold mub_145_20 at g5
  unfold mub_145_20
  unfold w32 at *
  refine ⟨?_, fun q hq => ?_⟩
  · trivial
  · have g6 := Option.some.inj hq
    subst g6
    omega
theorem c_145_20_1 {q0 : Nat} : vOkm T0 (eP e_145 L_145 A_145 mu_145 (some q0)) 3 ([(10, [13, 8], [], 1), (42, [8, 9], [], 0), (90, [9], [], 0), (91, [9], [], 40), (5000, [0, 1, 2, 3, 4, 5, 6, 7, 8], [0, 1], 20), (90, [7], [], -2147483648), (91, [7], [], 2147483646), (90, [8], [], -2147483648), (91, [8], [], 2147483647)], (4000, [3, 4, 5, 6, 7, 13], [4], 20)) := vOk_in fun ρ η h => by
  obtain ⟨f0, f1, f2, f3, f4, f5, f6, f7, f8, _⟩ := h
  exact q_145_4 (q0 := q0) (n0 := ρ 8) (n1 := ρ 7) (n2 := ρ 0) (n3 := ρ 1) (n4 := ρ 2) (n5 := ρ 3) (n6 := ρ 4) (n7 := ρ 5) (n8 := ρ 6) (n9 := ρ 9) (n10 := ρ 13) (H0 := η 0) (H1 := η 1) (H2 := η 4) f8 f7 f6 f5 f4 f3 f2 f1 f0
theorem q_145_5 {q0 : Nat} {n0 n1 n2 n3 n4 n5 n6 n7 n8 n9 n10 n11 : Int} {H0 H1 H2 : gH} (f0 : n0 ≤ 2147483647) (f1 : (-2147483648) ≤ n0) (f2 : n1 ≤ 2147483646) (f3 : (-2147483648) ≤ n1) (f4 : (hLe T0 H0 H1 ∧ hFr s_145.2.2.2.2 H0 H1 ∧ hWt T0 H1) ∧ (True ∧ True) ∧ some q0 = some (mub_145_20 n2 n3 n4 n5 n6 n7 n8 n1 n0 H0 H1)) (f5 : n9 ≤ 40) (f6 : 0 ≤ n9) (f7 : n0 < n9) (f8 : n10 = w32 (n0 + 1)) : True ∧ ∀ q, some q0 = some q → mub_145_20 n2 n3 n4 n5 n6 n7 n11 n1 n10 H0 H2 < q := by
  have g5 := Option.some.inj f4.2.2
  unfold mub_145_20 at g5
  unfold mub_145_20
  unfold w32 at *
  refine ⟨?_, fun q hq => ?_⟩
  · trivial
  · have g6 := Option.some.inj hq
    subst g6
    omega
theorem c_145_20_2 {q0 : Nat} : vOkm T0 (eP e_145 L_145 A_145 mu_145 (some q0)) 3 ([(10, [14, 8], [], 1), (42, [8, 9], [], 0), (90, [9], [], 0), (91, [9], [], 40), (5000, [0, 1, 2, 3, 4, 5, 6, 7, 8], [0, 1], 20), (90, [7], [], -2147483648), (91, [7], [], 2147483646), (90, [8], [], -2147483648), (91, [8], [], 2147483647)], (4000, [3, 4, 5, 13, 7, 14], [4], 20)) := vOk_in fun ρ η h => by
  obtain ⟨f0, f1, f2, f3, f4, f5, f6, f7, f8, _⟩ := h
  exact q_145_5 (q0 := q0) (n0 := ρ 8) (n1 := ρ 7) (n2 := ρ 0) (n3 := ρ 1) (n4 := ρ 2) (n5 := ρ 3) (n6 := ρ 4) (n7 := ρ 5) (n8 := ρ 6) (n9 := ρ 9) (n10 := ρ 14) (n11 := ρ 13) (H0 := η 0) (H1 := η 1) (H2 := η 4) f8 f7 f6 f5 f4 f3 f2 f1 f0
def p_145_20 : List vG := [([(10, [10, 7], [], 1), (43, [8, 9], [], 0), (90, [9], [], 0), (91, [9], [], 40), (5000, [0, 1, 2, 3, 4, 5, 6, 7, 8], [0, 1], 20), (90, [7], [], -2147483648), (91, [7], [], 2147483646), (90, [8], [], -2147483648), (91, [8], [], 2147483647)], (4000, [3, 4, 5, 6, 10], [1], 5)),
  ([(10, [13, 8], [], 1), (42, [8, 9], [], 0), (90, [9], [], 0), (91, [9], [], 40), (5000, [0, 1, 2, 3, 4, 5, 6, 7, 8], [0, 1], 20), (90, [7], [], -2147483648), (91, [7], [], 2147483646), (90, [8], [], -2147483648), (91, [8], [], 2147483647)], (4000, [3, 4, 5, 6, 7, 13], [4], 20)),
  ([(10, [14, 8], [], 1), (42, [8, 9], [], 0), (90, [9], [], 0), (91, [9], [], 40), (5000, [0, 1, 2, 3, 4, 5, 6, 7, 8], [0, 1], 20), (90, [7], [], -2147483648), (91, [7], [], 2147483646), (90, [8], [], -2147483648), (91, [8], [], 2147483647)], (4000, [3, 4, 5, 13, 7, 14], [4], 20))]
theorem r_145_20 : vCovO true (eRc e_145 L_145 cs_145 2000 (20, [(0, (3, 9, 281, 0)), (1, (3, 6, -1, 0)), (2, (0, -2147483648, 2147483647, 0)), (3, (0, -2147483648, 2147483647, 0)), (4, (0, -2147483648, 2147483646, 0)), (5, (0, -2147483648, 2147483647, 0))])) p_145_20 = true := by decide +kernel
theorem m_145 (d : Nat) : eC e_145 (d + 4) := eC_ok (e := e_145) (L := L_145) (cs := cs_145) (n := 2000) (d := d + 3) (A := A_145) (μ := mu_145) (tp := true) (p0 := p_145_s) rfl ⟨m_115 (d + 2), ⟨m_146 d, trivial⟩⟩ rfl (.inr pre0_ok) (by decide +kernel) (fun _ => post0_ok) r_145_s (allC c_145_s_0 allN) (allC (.inl ⟨p_145_5, r_145_5, fun q0 => (allC c_145_5_0 (allC c_145_5_1 allN))⟩) (allC (.inl ⟨p_145_20, r_145_20, fun q0 => (allC c_145_20_0 (allC c_145_20_1 (allC c_145_20_2 allN)))⟩) allN))
/- Tracer.isMet (LMixStage$Sound;II)Z -/
noncomputable def s_150 : vM := ([(3, 7, -1, 0), (0, -2147483648, 2147483647, 0), (0, -2147483648, 2147483647, 0)], (0, 0, 1, 0), 0, 0, [])
noncomputable def e_150 : vE := (150, s_150, pre0, post0)
noncomputable def L_150 : List vE := [e_199, e_316]
def cs_150 : List vC := [(2, [(0, (3, 7, -1, 0)), (1, (0, -2147483648, 2147483647, 0)), (2, (0, -2147483648, 2147483647, 0)), (3, (0, -2147483648, 2147483647, 0))])]
def mub_150_2 (a0 a1 a2 x0 x1 x2 x3 : Int) (h0 h : gH) : Nat := (2147483648 - x3).toNat
def A_150 : Int → List Int → gH → gH → Prop := fun c xs h0 h => True
def mu_150 : Int → List Int → gH → gH → Nat := fun c xs h0 h => match c.toNat with
  | 2 => (match xs with
    | [a0, a1, a2, x0, x1, x2, x3] => mub_150_2 a0 a1 a2 x0 x1 x2 x3 h0 h
    | _ => 0)
  | _ => 0
theorem q_150_0 {n0 n1 n2 n3 : Int} {H0 : gH}  : True ∧ ∀ q, none = some q → mub_150_2 n0 n1 n2 n0 n1 n2 n3 H0 H0 < q := by
  exact ⟨trivial, fun q hq => nomatch hq⟩
theorem c_150_s_0 : vOkm T0 (eP e_150 L_150 A_150 mu_150 none) 3 ([], (4000, [0, 1, 2, 3], [0], 2)) := vOk_in fun ρ η h => by
  obtain ⟨_⟩ := h
  exact q_150_0 (n0 := ρ 0) (n1 := ρ 1) (n2 := ρ 2) (n3 := ρ 3) (H0 := η 0) 
def p_150_s : List vG := [([], (4000, [0, 1, 2, 3], [0], 2))]
theorem r_150_s : vCovO true (eR0 e_150 L_150 cs_150 2000) p_150_s = true := by decide +kernel
theorem q_150_1 {q0 : Nat} {n0 n1 n2 n3 n4 n5 n6 n7 n8 : Int} {H0 H1 H2 : gH} (f0 : n0 ≤ 2147483647) (f1 : (-2147483648) ≤ n0) (f2 : (hLe T0 H0 H1 ∧ hFr s_150.2.2.2.2 H0 H1 ∧ hWt T0 H1) ∧ (True ∧ True) ∧ some q0 = some (mub_150_2 n1 n2 n3 n4 n5 n6 n0 H0 H1)) (f3 : n7 ≤ 2147483647) (f4 : (-2147483648) ≤ n7) (f5 : n0 < n7) (f6 : n8 = w32 (n0 + 1)) : True ∧ ∀ q, some q0 = some q → mub_150_2 n1 n2 n3 n4 n5 n6 n8 H0 H2 < q := by
  have g5 := Option.some.inj f2.2.2
  unfold mub_150_2 at g5
  unfold mub_150_2
  unfold w32 at *
  refine ⟨?_, fun q hq => ?_⟩
  · trivial
  · have g6 := Option.some.inj hq
    subst g6
    omega
theorem c_150_2_0 {q0 : Nat} : vOkm T0 (eP e_150 L_150 A_150 mu_150 (some q0)) 3 ([(10, [12, 6], [], 1), (42, [6, 7], [], 0), (90, [7], [], -2147483648), (91, [7], [], 2147483647), (5000, [0, 1, 2, 3, 4, 5, 6], [0, 1], 2), (90, [6], [], -2147483648), (91, [6], [], 2147483647)], (4000, [3, 4, 5, 12], [3], 2)) := vOk_in fun ρ η h => by
  obtain ⟨f0, f1, f2, f3, f4, f5, f6, _⟩ := h
  exact q_150_1 (q0 := q0) (n0 := ρ 6) (n1 := ρ 0) (n2 := ρ 1) (n3 := ρ 2) (n4 := ρ 3) (n5 := ρ 4) (n6 := ρ 5) (n7 := ρ 7) (n8 := ρ 12) (H0 := η 0) (H1 := η 1) (H2 := η 3) f6 f5 f4 f3 f2 f1 f0
def p_150_2 : List vG := [([(10, [12, 6], [], 1), (42, [6, 7], [], 0), (90, [7], [], -2147483648), (91, [7], [], 2147483647), (5000, [0, 1, 2, 3, 4, 5, 6], [0, 1], 2), (90, [6], [], -2147483648), (91, [6], [], 2147483647)], (4000, [3, 4, 5, 12], [3], 2))]
theorem r_150_2 : vCovO true (eRc e_150 L_150 cs_150 2000 (2, [(0, (3, 7, -1, 0)), (1, (0, -2147483648, 2147483647, 0)), (2, (0, -2147483648, 2147483647, 0)), (3, (0, -2147483648, 2147483647, 0))])) p_150_2 = true := by decide +kernel
theorem m_150 (d : Nat) : eC e_150 (d + 2) := eC_ok (e := e_150) (L := L_150) (cs := cs_150) (n := 2000) (d := d + 1) (A := A_150) (μ := mu_150) (tp := true) (p0 := p_150_s) rfl ⟨m_199 d, ⟨m_316 d, trivial⟩⟩ rfl (.inr pre0_ok) (by decide +kernel) (fun _ => post0_ok) r_150_s (allC c_150_s_0 allN) (allC (.inl ⟨p_150_2, r_150_2, fun q0 => (allC c_150_2_0 allN)⟩) allN)
/- Tracer.tryStretch (LMixStage$Sound;LMixStage$Sound;III)V -/
noncomputable def s_149 : vM := ([(3, 9, 281, 0), (3, 7, -1, 0), (3, 7, -1, 0), (0, -2147483648, 2147483647, 0), (0, -2147483648, 2147483647, 0), (0, -2147483648, 2147483647, 0)], (9, 0, 0, 0), 0, 0, [(9, 5), (9, 6), (9, 7)])
noncomputable def e_149 : vE := (149, s_149, pre0, post0)
noncomputable def L_149 : List vE := [e_150, e_199]
def cs_149 : List vC := [(6, [(0, (3, 9, 281, 0)), (1, (3, 7, -1, 0)), (2, (3, 7, -1, 0)), (3, (0, -2147483648, 2147483647, 0)), (4, (0, -2147483648, 2147483647, 0)), (5, (0, -2147483648, 2147483647, 0)), (6, (0, -2147483648, 2147483647, 0)), (7, (0, -2147483648, 2147483647, 0))])]
def mub_149_6 (a0 a1 a2 a3 a4 a5 x0 x1 x2 x3 x4 x5 x6 x7 : Int) (h0 h : gH) : Nat := (2147483648 - x7).toNat
def A_149 : Int → List Int → gH → gH → Prop := fun c xs h0 h => True
def mu_149 : Int → List Int → gH → gH → Nat := fun c xs h0 h => match c.toNat with
  | 6 => (match xs with
    | [a0, a1, a2, a3, a4, a5, x0, x1, x2, x3, x4, x5, x6, x7] => mub_149_6 a0 a1 a2 a3 a4 a5 x0 x1 x2 x3 x4 x5 x6 x7 h0 h
    | _ => 0)
  | _ => 0
theorem q_149_0 {n0 n1 n2 n3 n4 n5 n6 n7 : Int} {H0 : gH}  : True ∧ ∀ q, none = some q → mub_149_6 n0 n1 n2 n3 n4 n5 n0 n1 n2 n3 n4 n5 n6 n7 H0 H0 < q := by
  exact ⟨trivial, fun q hq => nomatch hq⟩
theorem c_149_s_0 : vOkm T0 (eP e_149 L_149 A_149 mu_149 none) 6 ([], (4000, [0, 1, 2, 3, 4, 5, 6, 7], [0], 6)) := vOk_in fun ρ η h => by
  obtain ⟨_⟩ := h
  exact q_149_0 (n0 := ρ 0) (n1 := ρ 1) (n2 := ρ 2) (n3 := ρ 3) (n4 := ρ 4) (n5 := ρ 5) (n6 := ρ 6) (n7 := ρ 7) (H0 := η 0) 
def p_149_s : List vG := [([], (4000, [0, 1, 2, 3, 4, 5, 6, 7], [0], 6))]
theorem r_149_s : vCovO true (eR0 e_149 L_149 cs_149 2000) p_149_s = true := by decide +kernel
theorem q_149_1 {q0 : Nat} {n0 n1 n2 n3 n4 n5 n6 n7 n8 n9 n10 n11 n12 n13 n14 n15 n16 : Int} {H0 H1 H2 : gH} (f0 : n0 ≤ 2147483647) (f1 : (-2147483648) ≤ n0) (f2 : (hLe T0 H0 H1 ∧ hFr s_149.2.2.2.2 H0 H1 ∧ hWt T0 H1) ∧ (True ∧ True) ∧ some q0 = some (mub_149_6 n1 n2 n3 n4 n5 n6 n7 n8 n9 n10 n11 n12 n13 n0 H0 H1)) (f3 : n14 ≤ 2147483647) (f4 : (-2147483648) ≤ n14) (f5 : n0 < n14) (f6 : n15 = w32 (n0 + 1)) : True ∧ ∀ q, some q0 = some q → mub_149_6 n1 n2 n3 n4 n5 n6 n7 n8 n9 n10 n11 n12 n16 n15 H0 H2 < q := by
  have g5 := Option.some.inj f2.2.2
  unfold mub_149_6 at g5
  unfold mub_149_6
  unfold w32 at *
  refine ⟨?_, fun q hq => ?_⟩
  · trivial
  · have g6 := Option.some.inj hq
    subst g6
    omega
theorem c_149_6_0 {q0 : Nat} : vOkm T0 (eP e_149 L_149 A_149 mu_149 (some q0)) 6 ([(10, [24, 13], [], 1), (42, [13, 14], [], 0), (90, [14], [], -2147483648), (91, [14], [], 2147483647), (5000, [0, 1, 2, 3, 4, 5, 6, 7, 8, 9, 10, 11, 12, 13], [0, 1], 6), (90, [13], [], -2147483648), (91, [13], [], 2147483647)], (4000, [6, 7, 8, 9, 10, 11, 23, 24], [3], 6)) := vOk_in fun ρ η h => by
  obtain ⟨f0, f1, f2, f3, f4, f5, f6, _⟩ := h
  exact q_149_1 (q0 := q0) (n0 := ρ 13) (n1 := ρ 0) (n2 := ρ 1) (n3 := ρ 2) (n4 := ρ 3) (n5 := ρ 4) (n6 := ρ 5) (n7 := ρ 6) (n8 := ρ 7) (n9 := ρ 8) (n10 := ρ 9) (n11 := ρ 10) (n12 := ρ 11) (n13 := ρ 12) (n14 := ρ 14) (n15 := ρ 24) (n16 := ρ 23) (H0 := η 0) (H1 := η 1) (H2 := η 3) f6 f5 f4 f3 f2 f1 f0
theorem c_149_6_1 {q0 : Nat} : vOkm T0 (eP e_149 L_149 A_149 mu_149 (some q0)) 6 ([(10, [24, 13], [], 1), (42, [13, 14], [], 0), (90, [14], [], -2147483648), (91, [14], [], 2147483647), (5000, [0, 1, 2, 3, 4, 5, 6, 7, 8, 9, 10, 11, 12, 13], [0, 1], 6), (90, [13], [], -2147483648), (91, [13], [], 2147483647)], (4000, [6, 7, 8, 9, 10, 11, 23, 24], [3], 6)) := vOk_in fun ρ η h => by
  obtain ⟨f0, f1, f2, f3, f4, f5, f6, _⟩ := h
  exact q_149_1 (q0 := q0) (n0 := ρ 13) (n1 := ρ 0) (n2 := ρ 1) (n3 := ρ 2) (n4 := ρ 3) (n5 := ρ 4) (n6 := ρ 5) (n7 := ρ 6) (n8 := ρ 7) (n9 := ρ 8) (n10 := ρ 9) (n11 := ρ 10) (n12 := ρ 11) (n13 := ρ 12) (n14 := ρ 14) (n15 := ρ 24) (n16 := ρ 23) (H0 := η 0) (H1 := η 1) (H2 := η 3) f6 f5 f4 f3 f2 f1 f0
def p_149_6 : List vG := [([(10, [24, 13], [], 1), (42, [13, 14], [], 0), (90, [14], [], -2147483648), (91, [14], [], 2147483647), (5000, [0, 1, 2, 3, 4, 5, 6, 7, 8, 9, 10, 11, 12, 13], [0, 1], 6), (90, [13], [], -2147483648), (91, [13], [], 2147483647)], (4000, [6, 7, 8, 9, 10, 11, 23, 24], [3], 6)),
  ([(10, [24, 13], [], 1), (42, [13, 14], [], 0), (90, [14], [], -2147483648), (91, [14], [], 2147483647), (5000, [0, 1, 2, 3, 4, 5, 6, 7, 8, 9, 10, 11, 12, 13], [0, 1], 6), (90, [13], [], -2147483648), (91, [13], [], 2147483647)], (4000, [6, 7, 8, 9, 10, 11, 23, 24], [3], 6))]
theorem r_149_6 : vCovO true (eRc e_149 L_149 cs_149 2000 (6, [(0, (3, 9, 281, 0)), (1, (3, 7, -1, 0)), (2, (3, 7, -1, 0)), (3, (0, -2147483648, 2147483647, 0)), (4, (0, -2147483648, 2147483647, 0)), (5, (0, -2147483648, 2147483647, 0)), (6, (0, -2147483648, 2147483647, 0)), (7, (0, -2147483648, 2147483647, 0))])) p_149_6 = true := by decide +kernel
theorem m_149 (d : Nat) : eC e_149 (d + 3) := eC_ok (e := e_149) (L := L_149) (cs := cs_149) (n := 2000) (d := d + 2) (A := A_149) (μ := mu_149) (tp := true) (p0 := p_149_s) rfl ⟨m_150 d, ⟨m_199 (d + 1), trivial⟩⟩ rfl (.inr pre0_ok) (by decide +kernel) (fun _ => post0_ok) r_149_s (allC c_149_s_0 allN) (allC (.inl ⟨p_149_6, r_149_6, fun q0 => (allC c_149_6_0 (allC c_149_6_1 allN))⟩) allN)
/- Tracer.tryFit (LMixStage$Sound;LMixStage$Sound;II)V -/
noncomputable def s_148 : vM := ([(3, 9, 281, 0), (3, 7, -1, 0), (3, 7, -1, 0), (0, -2147483648, 2147483647, 0), (0, -2147483648, 2147483647, 0)], (9, 0, 0, 0), 0, 0, [(9, 5), (9, 6), (9, 7)])
noncomputable def e_148 : vE := (148, s_148, pre0, post0)
noncomputable def L_148 : List vE := [e_149]
def cs_148 : List vC := []
def A_148 : Int → List Int → gH → gH → Prop := fun c xs h0 h => True
def mu_148 : Int → List Int → gH → gH → Nat := fun c xs h0 h => 0
def p_148_s : List vG := []
theorem r_148_s : vCovO true (eR0 e_148 L_148 cs_148 2000) p_148_s = true := by decide +kernel
theorem m_148 (d : Nat) : eC e_148 (d + 4) := eC_ok (e := e_148) (L := L_148) (cs := cs_148) (n := 2000) (d := d + 3) (A := A_148) (μ := mu_148) (tp := true) (p0 := p_148_s) rfl ⟨m_149 d, trivial⟩ rfl (.inr pre0_ok) (by decide +kernel) (fun _ => post0_ok) r_148_s allN allN
/- Tracer.fitOf (LMixStage$Sound;LMixStage$Sound;II)I -/
noncomputable def s_147 : vM := ([(3, 9, 281, 0), (3, 7, -1, 0), (3, 7, -1, 0), (0, -2147483648, 2147483647, 0), (0, -2147483648, 2147483647, 0)], (0, -2147483648, 2147483647, 0), 0, 0, [(9, 5), (9, 6), (9, 7)])
noncomputable def e_147 : vE := (147, s_147, pre0, post0)
noncomputable def L_147 : List vE := [e_148]
def cs_147 : List vC := [(9, [(0, (3, 9, 281, 0)), (1, (3, 7, -1, 0)), (2, (3, 7, -1, 0)), (3, (0, -2147483648, 2147483647, 0)), (4, (0, -2147483648, 2147483647, 0)), (5, (0, -2147483648, 2147483647, 0))])]
def mub_147_9 (a0 a1 a2 a3 a4 x0 x1 x2 x3 x4 x5 : Int) (h0 h : gH) : Nat := (2147483648 - x5).toNat
def A_147 : Int → List Int → gH → gH → Prop := fun c xs h0 h => True
def mu_147 : Int → List Int → gH → gH → Nat := fun c xs h0 h => match c.toNat with
  | 9 => (match xs with
    | [a0, a1, a2, a3, a4, x0, x1, x2, x3, x4, x5] => mub_147_9 a0 a1 a2 a3 a4 x0 x1 x2 x3 x4 x5 h0 h
    | _ => 0)
  | _ => 0
theorem q_147_0 {n0 n1 n2 n3 n4 n5 : Int} {H0 H1 : gH}  : True ∧ ∀ q, none = some q → mub_147_9 n0 n1 n2 n3 n4 n0 n1 n2 n3 n4 n5 H0 H1 < q := by
  exact ⟨trivial, fun q hq => nomatch hq⟩
theorem c_147_s_0 : vOkm T0 (eP e_147 L_147 A_147 mu_147 none) 5 ([], (4000, [0, 1, 2, 3, 4, 7], [1], 9)) := vOk_in fun ρ η h => by
  obtain ⟨_⟩ := h
  exact q_147_0 (n0 := ρ 0) (n1 := ρ 1) (n2 := ρ 2) (n3 := ρ 3) (n4 := ρ 4) (n5 := ρ 7) (H0 := η 0) (H1 := η 1) 
def p_147_s : List vG := [([], (4000, [0, 1, 2, 3, 4, 7], [1], 9))]
theorem r_147_s : vCovO true (eR0 e_147 L_147 cs_147 2000) p_147_s = true := by decide +kernel
theorem q_147_1 {q0 : Nat} {n0 n1 n2 n3 n4 n5 n6 n7 n8 n9 n10 n11 n12 : Int} {H0 H1 H2 : gH} (f0 : n0 ≤ 2147483647) (f1 : (-2147483648) ≤ n0) (f2 : (hLe T0 H0 H1 ∧ hFr s_147.2.2.2.2 H0 H1 ∧ hWt T0 H1) ∧ (True ∧ True) ∧ some q0 = some (mub_147_9 n1 n2 n3 n4 n5 n6 n7 n8 n9 n10 n0 H0 H1)) (f3 : n11 = 24) (f4 : n0 ≤ n11) (f5 : n12 = w32 (n0 + 1)) : True ∧ ∀ q, some q0 = some q → mub_147_9 n1 n2 n3 n4 n5 n6 n7 n8 n9 n10 n12 H0 H2 < q := by
  have g5 := Option.some.inj f2.2.2
  unfold mub_147_9 at g5
  unfold mub_147_9
  unfold w32 at *
  refine ⟨?_, fun q hq => ?_⟩
  · trivial
  · have g6 := Option.some.inj hq
    subst g6
    omega
theorem c_147_9_0 {q0 : Nat} : vOkm T0 (eP e_147 L_147 A_147 mu_147 (some q0)) 5 ([(10, [13, 10], [], 1), (45, [10, 11], [], 0), (0, [11], [], 24), (5000, [0, 1, 2, 3, 4, 5, 6, 7, 8, 9, 10], [0, 1], 9), (90, [10], [], -2147483648), (91, [10], [], 2147483647)], (4000, [5, 6, 7, 8, 9, 13], [3], 9)) := vOk_in fun ρ η h => by
  obtain ⟨f0, f1, f2, f3, f4, f5, _⟩ := h
  exact q_147_1 (q0 := q0) (n0 := ρ 10) (n1 := ρ 0) (n2 := ρ 1) (n3 := ρ 2) (n4 := ρ 3) (n5 := ρ 4) (n6 := ρ 5) (n7 := ρ 6) (n8 := ρ 7) (n9 := ρ 8) (n10 := ρ 9) (n11 := ρ 11) (n12 := ρ 13) (H0 := η 0) (H1 := η 1) (H2 := η 3) f5 f4 f3 f2 f1 f0
def p_147_9 : List vG := [([(10, [13, 10], [], 1), (45, [10, 11], [], 0), (0, [11], [], 24), (5000, [0, 1, 2, 3, 4, 5, 6, 7, 8, 9, 10], [0, 1], 9), (90, [10], [], -2147483648), (91, [10], [], 2147483647)], (4000, [5, 6, 7, 8, 9, 13], [3], 9))]
theorem r_147_9 : vCovO true (eRc e_147 L_147 cs_147 2000 (9, [(0, (3, 9, 281, 0)), (1, (3, 7, -1, 0)), (2, (3, 7, -1, 0)), (3, (0, -2147483648, 2147483647, 0)), (4, (0, -2147483648, 2147483647, 0)), (5, (0, -2147483648, 2147483647, 0))])) p_147_9 = true := by decide +kernel
theorem m_147 (d : Nat) : eC e_147 (d + 5) := eC_ok (e := e_147) (L := L_147) (cs := cs_147) (n := 2000) (d := d + 4) (A := A_147) (μ := mu_147) (tp := true) (p0 := p_147_s) rfl ⟨m_148 d, trivial⟩ rfl (.inr pre0_ok) (by decide +kernel) (fun _ => post0_ok) r_147_s (allC c_147_s_0 allN) (allC (.inl ⟨p_147_9, r_147_9, fun q0 => (allC c_147_9_0 allN)⟩) allN)
/- MixStage.putWord (I)V -/
noncomputable def s_192 : vM := ([(3, 11, 7, 0), (0, -2147483648, 2147483647, 0)], (9, 0, 0, 0), 0, 0, [(11, 1), (100, 0)])
noncomputable def e_192 : vE := (192, s_192, pre0, post0)
noncomputable def L_192 : List vE := [e_201]
def cs_192 : List vC := [(3, [(0, (3, 11, 7, 0)), (1, (0, -2147483648, 2147483647, 0)), (2, (0, -2147483648, 2147483647, 0))])]
def mub_192_3 (a0 a1 x0 x1 x2 : Int) (h0 h : gH) : Nat := (x2 + 2147483648).toNat
def A_192 : Int → List Int → gH → gH → Prop := fun c xs h0 h => True
def mu_192 : Int → List Int → gH → gH → Nat := fun c xs h0 h => match c.toNat with
  | 3 => (match xs with
    | [a0, a1, x0, x1, x2] => mub_192_3 a0 a1 x0 x1 x2 h0 h
    | _ => 0)
  | _ => 0
theorem q_192_0 {n0 n1 n2 : Int} {H0 : gH}  : True ∧ ∀ q, none = some q → mub_192_3 n0 n1 n0 n1 n2 H0 H0 < q := by
  exact ⟨trivial, fun q hq => nomatch hq⟩
theorem c_192_s_0 : vOkm T0 (eP e_192 L_192 A_192 mu_192 none) 2 ([], (4000, [0, 1, 2], [0], 3)) := vOk_in fun ρ η h => by
  obtain ⟨_⟩ := h
  exact q_192_0 (n0 := ρ 0) (n1 := ρ 1) (n2 := ρ 2) (H0 := η 0) 
def p_192_s : List vG := [([], (4000, [0, 1, 2], [0], 3))]
theorem r_192_s : vCovO true (eR0 e_192 L_192 cs_192 2000) p_192_s = true := by decide +kernel
theorem q_192_1 {q0 : Nat} {n0 n1 n2 n3 n4 n5 : Int} {H0 H1 H2 : gH} (f0 : n0 ≤ 2147483647) (f1 : (-2147483648) ≤ n0) (f2 : (hLe T0 H0 H1 ∧ hFr s_192.2.2.2.2 H0 H1 ∧ hWt T0 H1) ∧ (True ∧ True) ∧ some q0 = some (mub_192_3 n1 n2 n3 n4 n0 H0 H1)) (f3 : 0 ≤ n0) (f4 : n5 = w32 (n0 + (-8))) : True ∧ ∀ q, some q0 = some q → mub_192_3 n1 n2 n3 n4 n5 H0 H2 < q := by
  have g5 := Option.some.inj f2.2.2
  unfold mub_192_3 at g5
  unfold mub_192_3
  unfold w32 at *
  refine ⟨?_, fun q hq => ?_⟩
  · trivial
  · have g6 := Option.some.inj hq
    subst g6
    omega
theorem c_192_3_0 {q0 : Nat} : vOkm T0 (eP e_192 L_192 A_192 mu_192 (some q0)) 2 ([(10, [14, 4], [], -8), (33, [4], [], 0), (5000, [0, 1, 2, 3, 4], [0, 1], 3), (90, [4], [], -2147483648), (91, [4], [], 2147483647)], (4000, [2, 3, 14], [3], 3)) := vOk_in fun ρ η h => by
  obtain ⟨f0, f1, f2, f3, f4, _⟩ := h
  exact q_192_1 (q0 := q0) (n0 := ρ 4) (n1 := ρ 0) (n2 := ρ 1) (n3 := ρ 2) (n4 := ρ 3) (n5 := ρ 14) (H0 := η 0) (H1 := η 1) (H2 := η 3) f4 f3 f2 f1 f0
def p_192_3 : List vG := [([(10, [14, 4], [], -8), (33, [4], [], 0), (5000, [0, 1, 2, 3, 4], [0, 1], 3), (90, [4], [], -2147483648), (91, [4], [], 2147483647)], (4000, [2, 3, 14], [3], 3))]
theorem r_192_3 : vCovO true (eRc e_192 L_192 cs_192 2000 (3, [(0, (3, 11, 7, 0)), (1, (0, -2147483648, 2147483647, 0)), (2, (0, -2147483648, 2147483647, 0))])) p_192_3 = true := by decide +kernel
theorem m_192 (d : Nat) : eC e_192 (d + 2) := eC_ok (e := e_192) (L := L_192) (cs := cs_192) (n := 2000) (d := d + 1) (A := A_192) (μ := mu_192) (tp := true) (p0 := p_192_s) rfl ⟨m_201 d, trivial⟩ rfl (.inr pre0_ok) (by decide +kernel) (fun _ => post0_ok) r_192_s (allC c_192_s_0 allN) (allC (.inl ⟨p_192_3, r_192_3, fun q0 => (allC c_192_3_0 allN)⟩) allN)
/- MixStage.feed (IIIII)I -/
noncomputable def s_155 : vM := ([(3, 11, 7, 0), (0, -2147483648, 2147483647, 0), (0, -2147483648, 2147483647, 0), (0, -2147483648, 2147483647, 0), (0, -2147483648, 2147483647, 0), (0, -2147483648, 2147483647, 0)], (0, -2147483648, 2147483647, 0), 0, 0, [(11, 1), (100, 0)])
noncomputable def e_155 : vE := (155, s_155, pre0, post0)
noncomputable def L_155 : List vE := [e_192]
def cs_155 : List vC := []
def A_155 : Int → List Int → gH → gH → Prop := fun c xs h0 h => True
def mu_155 : Int → List Int → gH → gH → Nat := fun c xs h0 h => 0
def p_155_s : List vG := []
theorem r_155_s : vCovO true (eR0 e_155 L_155 cs_155 2000) p_155_s = true := by decide +kernel
theorem m_155 (d : Nat) : eC e_155 (d + 3) := eC_ok (e := e_155) (L := L_155) (cs := cs_155) (n := 2000) (d := d + 2) (A := A_155) (μ := mu_155) (tp := true) (p0 := p_155_s) rfl ⟨m_192 d, trivial⟩ rfl (.inr pre0_ok) (by decide +kernel) (fun _ => post0_ok) r_155_s allN allN
/- MixStage.back (I)I -/
noncomputable def s_156 : vM := ([(3, 11, 7, 0), (0, -2147483648, 2147483647, 0)], (0, -2147483648, 2147483647, 0), 0, 0, [(11, 1)])
noncomputable def e_156 : vE := (156, s_156, pre0, post0)
noncomputable def L_156 : List vE := []
def cs_156 : List vC := []
def A_156 : Int → List Int → gH → gH → Prop := fun c xs h0 h => True
def mu_156 : Int → List Int → gH → gH → Nat := fun c xs h0 h => 0
def p_156_s : List vG := []
theorem r_156_s : vCovO true (eR0 e_156 L_156 cs_156 2000) p_156_s = true := by decide +kernel
theorem m_156 (d : Nat) : eC e_156 (d + 1) := eC_ok (e := e_156) (L := L_156) (cs := cs_156) (n := 2000) (d := d + 0) (A := A_156) (μ := mu_156) (tp := true) (p0 := p_156_s) rfl trivial rfl (.inr pre0_ok) (by decide +kernel) (fun _ => post0_ok) r_156_s allN allN
/- MixStage.tellSheet ()V -/
noncomputable def s_193 : vM := ([(3, 11, 7, 0)], (9, 0, 0, 0), 0, 1, [(1, 0), (1, 1), (1, 2), (1, 3), (1, 4), (1, 5), (1, 6), (1, 7), (1, 8), (1, 9), (1, 10), (1, 11), (1, 12), (1, 13), (1, 14), (1, 15), (1, 16), (1, 18), (3, 4), (6, 2), (6, 3), (6, 4), (11, 4), (100, 0), (104, 0), (106, 0)])
noncomputable def e_193 : vE := (193, s_193, pre0, post0)
noncomputable def L_193 : List vE := [e_56, e_82]
def cs_193 : List vC := [(20, [(0, (3, 11, 7, 0))]), (35, [(0, (3, 11, 7, 0)), (1, (3, 6, -1, 0))])]
def Ab_193_20 (a0 x0 : Int) (h0 h : gH) : Prop := 0 ≤ hV h 7 4 ∧ hV h 7 4 < 8
def mub_193_20 (a0 x0 : Int) (h0 h : gH) : Nat := 1
def Ab_193_35 (a0 x0 x1 : Int) (h0 h : gH) : Prop := 0 ≤ hV h 7 4 ∧ hV h 7 4 < 8
def mub_193_35 (a0 x0 x1 : Int) (h0 h : gH) : Nat := 0
def A_193 : Int → List Int → gH → gH → Prop := fun c xs h0 h => match c.toNat with
  | 20 => 0 ≤ hV h 7 4 ∧ hV h 7 4 < 8
  | 35 => 0 ≤ hV h 7 4 ∧ hV h 7 4 < 8
  | _ => True
def mu_193 : Int → List Int → gH → gH → Nat := fun c xs h0 h => match c.toNat with
  | 20 => 1
  | 35 => 0
  | _ => 0
theorem q_193_0 {n0 n1 n2 n3 n4 : Int} {H0 : gH} (f0 : n0 = 7) (f1 : hWt T0 H0 ∧ True) (f2 : n1 ≤ 8) (f3 : 0 ≤ n1) (f4 : n1 = hV H0 (n0).toNat 4) (f5 : 0 ≤ n1) (f6 : n2 ≤ 8) (f7 : 0 ≤ n2) (f8 : n2 = hV H0 (n0).toNat 4) (f9 : n3 = 9) (f10 : n3 = hV H0 (n0).toNat 3) (f11 : n4 = (hN H0 (n3).toNat : Int)) (f12 : n4 = 8) (f13 : n2 < n4) : Ab_193_20 n0 n0 H0 H0 ∧ ∀ q, none = some q → mub_193_20 n0 n0 H0 H0 < q := by
  unfold Ab_193_20
  have e0 : n1 = hV H0 7 4 := (by rw [f0] at f4; exact f4 : n1 = hV H0 7 4)
  have e1 : n2 = hV H0 7 4 := (by rw [f0] at f8; exact f8 : n2 = hV H0 7 4)
  subst e0
  subst e1
  refine ⟨?_, fun q hq => ?_⟩
  · omega
  · exact nomatch hq
theorem c_193_s_0 : vOkm T0 (eP e_193 L_193 A_193 mu_193 none) 1 ([(42, [2, 4], [], 0), (0, [4], [], 8), (21, [4, 3], [0], 0), (20, [3, 0], [0], 3), (0, [3], [], 9), (20, [2, 0], [0], 4), (90, [2], [], 0), (91, [2], [], 8), (33, [1], [], 0), (20, [1, 0], [0], 4), (90, [1], [], 0), (91, [1], [], 8), (6000, [0], [0], 0), (0, [0], [], 7)], (4000, [0], [0], 20)) := vOk_in fun ρ η h => by
  obtain ⟨f0, f1, f2, f3, f4, f5, f6, f7, f8, f9, f10, f11, f12, f13, _⟩ := h
  exact q_193_0 (n0 := ρ 0) (n1 := ρ 1) (n2 := ρ 2) (n3 := ρ 3) (n4 := ρ 4) (H0 := η 0) f13 f12 f11 f10 f9 f8 f7 f6 f5 f4 f3 f2 f1 f0
def p_193_s : List vG := [([(42, [2, 4], [], 0), (0, [4], [], 8), (21, [4, 3], [0], 0), (20, [3, 0], [0], 3), (0, [3], [], 9), (20, [2, 0], [0], 4), (90, [2], [], 0), (91, [2], [], 8), (33, [1], [], 0), (20, [1, 0], [0], 4), (90, [1], [], 0), (91, [1], [], 8), (6000, [0], [0], 0), (0, [0], [], 7)], (4000, [0], [0], 20))]
theorem r_193_s : vCovO true (eR0 e_193 L_193 cs_193 2000) p_193_s = true := by decide +kernel
theorem q_193_1 {q0 : Nat} {n0 n1 n2 n3 n4 n5 : Int} {H0 H1 H2 H3 : gH} (f0 : 0 ≤ n0) (f1 : n1 = 7) (f2 : n2 = 7) (f3 : (hLe T0 H0 H1 ∧ hFr s_193.2.2.2.2 H0 H1 ∧ hWt T0 H1) ∧ (Ab_193_35 n2 n1 n0 H0 H1 ∧ True) ∧ some q0 = some (mub_193_35 n2 n1 n0 H0 H1)) (f4 : n3 = 30) (f5 : n3 = hV H1 (n1).toNat 8) (f6 : (hLe T0 H1 H2 ∧ hFr s_82.2.2.2.2 H1 H2 ∧ ((1 : Int) = 0 → H2.length = H1.length) ∧ hWt T0 H2) ∧ True) (f7 : n4 = 19) (f8 : n4 = hV H2 (n1).toNat 6) (f9 : (hLe T0 H2 H3 ∧ hFr s_56.2.2.2.2 H2 H3 ∧ ((0 : Int) = 0 → H3.length = H2.length) ∧ hWt T0 H3) ∧ True) (f10 : n5 ≤ 8) (f11 : 0 ≤ n5) (f12 : n5 = hV H3 (n1).toNat 4) : 0 ≤ n5 ∧ n5 < 8 := by
  have g4 := f3.2.1.1
  unfold Ab_193_35 at g4
  have g5 := Option.some.inj f3.2.2
  unfold mub_193_35 at g5
  have e0 : hV H1 7 8 = hV H0 7 8 := f3.1.2.1.1 7 8 (by decide +kernel)
  have e1 : hV H2 7 6 = hV H1 7 6 := f6.1.2.1.1 7 6 (by decide +kernel)
  have e2 : hV H1 7 6 = hV H0 7 6 := f3.1.2.1.1 7 6 (by decide +kernel)
  have e3 : hV H3 7 4 = hV H2 7 4 := f9.1.2.1.1 7 4 (by decide +kernel)
  have e4 : hV H2 7 4 = hV H1 7 4 := f6.1.2.1.1 7 4 (by decide +kernel)
  have e5 : n5 = hV H1 7 4 := (by rw [f1] at f12; exact f12 : n5 = hV H3 7 4).trans ((e3).trans e4)
  subst e5
  omega
theorem c_193_35_0 {q0 : Nat} : vOkm T0 (eP e_193 L_193 A_193 mu_193 (some q0)) 1 ([(20, [6, 1], [3], 4), (90, [6], [], 0), (91, [6], [], 8), (1056, [4], [2, 3], 0), (20, [4, 1], [2], 6), (0, [4], [], 19), (1082, [3, 2], [1, 2], 1), (20, [3, 1], [1], 8), (0, [3], [], 30), (5000, [0, 1, 2], [0, 1], 35), (0, [0], [], 7), (0, [1], [], 7), (51, [2], [], 0)], (70, [6], [], 8)) := vOk_in fun ρ η h => by
  obtain ⟨f0, f1, f2, f3, f4, f5, f6, f7, f8, f9, f10, f11, f12, _⟩ := h
  exact q_193_1 (q0 := q0) (n0 := ρ 2) (n1 := ρ 1) (n2 := ρ 0) (n3 := ρ 3) (n4 := ρ 4) (n5 := ρ 6) (H0 := η 0) (H1 := η 1) (H2 := η 2) (H3 := η 3) f12 f11 f10 f9 f8 f7 f6 f5 f4 f3 f2 f1 f0
theorem q_193_2 {q0 : Nat} {n0 n1 n2 n3 n4 n5 n6 n7 n8 n9 : Int} {H0 H1 H2 H3 H4 : gH} (f0 : 0 ≤ n0) (f1 : n1 = 7) (f2 : n2 = 7) (f3 : (hLe T0 H0 H1 ∧ hFr s_193.2.2.2.2 H0 H1 ∧ hWt T0 H1) ∧ (Ab_193_35 n2 n1 n0 H0 H1 ∧ True) ∧ some q0 = some (mub_193_35 n2 n1 n0 H0 H1)) (f4 : n3 = 30) (f5 : n3 = hV H1 (n1).toNat 8) (f6 : (hLe T0 H1 H2 ∧ hFr s_82.2.2.2.2 H1 H2 ∧ ((1 : Int) = 0 → H2.length = H1.length) ∧ hWt T0 H2) ∧ True) (f7 : n4 = 19) (f8 : n4 = hV H2 (n1).toNat 6) (f9 : (hLe T0 H2 H3 ∧ hFr s_56.2.2.2.2 H2 H3 ∧ ((0 : Int) = 0 → H3.length = H2.length) ∧ hWt T0 H3) ∧ True) (f10 : n5 = 9) (f11 : n5 = hV H3 (n1).toNat 3) (f12 : n6 ≤ 8) (f13 : 0 ≤ n6) (f14 : n6 = hV H3 (n1).toNat 4) (f15 : hUpd H4 H3 n5 n6 n0) (f16 : n7 ≤ 8) (f17 : 0 ≤ n7) (f18 : n7 = hV H4 (n1).toNat 4) (f19 : n8 = 1) (f20 : n9 = w32 (n7 + n8)) : 0 ≤ n9 := by
  have g4 := f3.2.1.1
  unfold Ab_193_35 at g4
  have g5 := Option.some.inj f3.2.2
  unfold mub_193_35 at g5
  have e0 : hV H1 7 8 = hV H0 7 8 := f3.1.2.1.1 7 8 (by decide +kernel)
  have e1 : hV H2 7 6 = hV H1 7 6 := f6.1.2.1.1 7 6 (by decide +kernel)
  have e2 : hV H1 7 6 = hV H0 7 6 := f3.1.2.1.1 7 6 (by decide +kernel)
  have e3 : hV H3 7 3 = hV H2 7 3 := f9.1.2.1.1 7 3 (by decide +kernel)
  have e4 : hV H2 7 3 = hV H1 7 3 := f6.1.2.1.1 7 3 (by decide +kernel)
  have e5 : hV H1 7 3 = hV H0 7 3 := f3.1.2.1.1 7 3 (by decide +kernel)
  have e6 : hV H3 7 4 = hV H2 7 4 := f9.1.2.1.1 7 4 (by decide +kernel)
  have e7 : hV H2 7 4 = hV H1 7 4 := f6.1.2.1.1 7 4 (by decide +kernel)
  have e8 : n6 = hV H1 7 4 := (by rw [f1] at f14; exact f14 : n6 = hV H3 7 4).trans ((e6).trans e7)
  have e9 : hV H4 7 4 = hV H3 7 4 := uPlace f15 _ _ (iS (show n5 = ((9 : Nat) : Int) from f10) rfl)
  have e10 : n7 = hV H1 7 4 := (by rw [f1] at f18; exact f18 : n7 = hV H4 7 4).trans ((e9).trans ((e6).trans e7))
  subst e8
  subst e10
  unfold w32 at *
  omega
theorem c_193_35_1 {q0 : Nat} : vOkm T0 (eP e_193 L_193 A_193 mu_193 (some q0)) 1 ([(1, [9, 7, 8], [], 0), (0, [8], [], 1), (20, [7, 1], [4], 4), (90, [7], [], 0), (91, [7], [], 8), (80, [5, 6, 2], [4, 3], 2), (20, [6, 1], [3], 4), (90, [6], [], 0), (91, [6], [], 8), (20, [5, 1], [3], 3), (0, [5], [], 9), (1056, [4], [2, 3], 0), (20, [4, 1], [2], 6), (0, [4], [], 19), (1082, [3, 2], [1, 2], 1), (20, [3, 1], [1], 8), (0, [3], [], 30), (5000, [0, 1, 2], [0, 1], 35), (0, [0], [], 7), (0, [1], [], 7), (51, [2], [], 0)], (90, [9], [], 0)) := vOk_in fun ρ η h => by
  obtain ⟨f0, f1, f2, f3, f4, f5, f6, f7, f8, f9, f10, f11, f12, f13, f14, f15, f16, f17, f18, f19, f20, _⟩ := h
  exact q_193_2 (q0 := q0) (n0 := ρ 2) (n1 := ρ 1) (n2 := ρ 0) (n3 := ρ 3) (n4 := ρ 4) (n5 := ρ 5) (n6 := ρ 6) (n7 := ρ 7) (n8 := ρ 8) (n9 := ρ 9) (H0 := η 0) (H1 := η 1) (H2 := η 2) (H3 := η 3) (H4 := η 4) f20 f19 f18 f17 f16 f15 f14 f13 f12 f11 f10 f9 f8 f7 f6 f5 f4 f3 f2 f1 f0
theorem q_193_3 {q0 : Nat} {n0 n1 n2 n3 n4 n5 n6 n7 n8 n9 : Int} {H0 H1 H2 H3 H4 : gH} (f0 : 0 ≤ n0) (f1 : n1 = 7) (f2 : n2 = 7) (f3 : (hLe T0 H0 H1 ∧ hFr s_193.2.2.2.2 H0 H1 ∧ hWt T0 H1) ∧ (Ab_193_35 n2 n1 n0 H0 H1 ∧ True) ∧ some q0 = some (mub_193_35 n2 n1 n0 H0 H1)) (f4 : n3 = 30) (f5 : n3 = hV H1 (n1).toNat 8) (f6 : (hLe T0 H1 H2 ∧ hFr s_82.2.2.2.2 H1 H2 ∧ ((1 : Int) = 0 → H2.length = H1.length) ∧ hWt T0 H2) ∧ True) (f7 : n4 = 19) (f8 : n4 = hV H2 (n1).toNat 6) (f9 : (hLe T0 H2 H3 ∧ hFr s_56.2.2.2.2 H2 H3 ∧ ((0 : Int) = 0 → H3.length = H2.length) ∧ hWt T0 H3) ∧ True) (f10 : n5 = 9) (f11 : n5 = hV H3 (n1).toNat 3) (f12 : n6 ≤ 8) (f13 : 0 ≤ n6) (f14 : n6 = hV H3 (n1).toNat 4) (f15 : hUpd H4 H3 n5 n6 n0) (f16 : n7 ≤ 8) (f17 : 0 ≤ n7) (f18 : n7 = hV H4 (n1).toNat 4) (f19 : n8 = 1) (f20 : n9 = w32 (n7 + n8)) : n9 ≤ 8 := by
  have g4 := f3.2.1.1
  unfold Ab_193_35 at g4
  have g5 := Option.some.inj f3.2.2
  unfold mub_193_35 at g5
  have e0 : hV H1 7 8 = hV H0 7 8 := f3.1.2.1.1 7 8 (by decide +kernel)
  have e1 : hV H2 7 6 = hV H1 7 6 := f6.1.2.1.1 7 6 (by decide +kernel)
  have e2 : hV H1 7 6 = hV H0 7 6 := f3.1.2.1.1 7 6 (by decide +kernel)
  have e3 : hV H3 7 3 = hV H2 7 3 := f9.1.2.1.1 7 3 (by decide +kernel)
  have e4 : hV H2 7 3 = hV H1 7 3 := f6.1.2.1.1 7 3 (by decide +kernel)
  have e5 : hV H1 7 3 = hV H0 7 3 := f3.1.2.1.1 7 3 (by decide +kernel)
  have e6 : hV H3 7 4 = hV H2 7 4 := f9.1.2.1.1 7 4 (by decide +kernel)
  have e7 : hV H2 7 4 = hV H1 7 4 := f6.1.2.1.1 7 4 (by decide +kernel)
  have e8 : n6 = hV H1 7 4 := (by rw [f1] at f14; exact f14 : n6 = hV H3 7 4).trans ((e6).trans e7)
  have e9 : hV H4 7 4 = hV H3 7 4 := uPlace f15 _ _ (iS (show n5 = ((9 : Nat) : Int) from f10) rfl)
  have e10 : n7 = hV H1 7 4 := (by rw [f1] at f18; exact f18 : n7 = hV H4 7 4).trans ((e9).trans ((e6).trans e7))
  subst e8
  subst e10
  unfold w32 at *
  omega
theorem c_193_35_2 {q0 : Nat} : vOkm T0 (eP e_193 L_193 A_193 mu_193 (some q0)) 1 ([(1, [9, 7, 8], [], 0), (0, [8], [], 1), (20, [7, 1], [4], 4), (90, [7], [], 0), (91, [7], [], 8), (80, [5, 6, 2], [4, 3], 2), (20, [6, 1], [3], 4), (90, [6], [], 0), (91, [6], [], 8), (20, [5, 1], [3], 3), (0, [5], [], 9), (1056, [4], [2, 3], 0), (20, [4, 1], [2], 6), (0, [4], [], 19), (1082, [3, 2], [1, 2], 1), (20, [3, 1], [1], 8), (0, [3], [], 30), (5000, [0, 1, 2], [0, 1], 35), (0, [0], [], 7), (0, [1], [], 7), (51, [2], [], 0)], (91, [9], [], 8)) := vOk_in fun ρ η h => by
  obtain ⟨f0, f1, f2, f3, f4, f5, f6, f7, f8, f9, f10, f11, f12, f13, f14, f15, f16, f17, f18, f19, f20, _⟩ := h
  exact q_193_3 (q0 := q0) (n0 := ρ 2) (n1 := ρ 1) (n2 := ρ 0) (n3 := ρ 3) (n4 := ρ 4) (n5 := ρ 5) (n6 := ρ 6) (n7 := ρ 7) (n8 := ρ 8) (n9 := ρ 9) (H0 := η 0) (H1 := η 1) (H2 := η 2) (H3 := η 3) (H4 := η 4) f20 f19 f18 f17 f16 f15 f14 f13 f12 f11 f10 f9 f8 f7 f6 f5 f4 f3 f2 f1 f0
def p_193_35 : List vG := [([(20, [6, 1], [3], 4), (90, [6], [], 0), (91, [6], [], 8), (1056, [4], [2, 3], 0), (20, [4, 1], [2], 6), (0, [4], [], 19), (1082, [3, 2], [1, 2], 1), (20, [3, 1], [1], 8), (0, [3], [], 30), (5000, [0, 1, 2], [0, 1], 35), (0, [0], [], 7), (0, [1], [], 7), (51, [2], [], 0)], (70, [6], [], 8)),
  ([(1, [9, 7, 8], [], 0), (0, [8], [], 1), (20, [7, 1], [4], 4), (90, [7], [], 0), (91, [7], [], 8), (80, [5, 6, 2], [4, 3], 2), (20, [6, 1], [3], 4), (90, [6], [], 0), (91, [6], [], 8), (20, [5, 1], [3], 3), (0, [5], [], 9), (1056, [4], [2, 3], 0), (20, [4, 1], [2], 6), (0, [4], [], 19), (1082, [3, 2], [1, 2], 1), (20, [3, 1], [1], 8), (0, [3], [], 30), (5000, [0, 1, 2], [0, 1], 35), (0, [0], [], 7), (0, [1], [], 7), (51, [2], [], 0)], (90, [9], [], 0)),
  ([(1, [9, 7, 8], [], 0), (0, [8], [], 1), (20, [7, 1], [4], 4), (90, [7], [], 0), (91, [7], [], 8), (80, [5, 6, 2], [4, 3], 2), (20, [6, 1], [3], 4), (90, [6], [], 0), (91, [6], [], 8), (20, [5, 1], [3], 3), (0, [5], [], 9), (1056, [4], [2, 3], 0), (20, [4, 1], [2], 6), (0, [4], [], 19), (1082, [3, 2], [1, 2], 1), (20, [3, 1], [1], 8), (0, [3], [], 30), (5000, [0, 1, 2], [0, 1], 35), (0, [0], [], 7), (0, [1], [], 7), (51, [2], [], 0)], (91, [9], [], 8))]
theorem r_193_35 : vCovO true (eRc e_193 L_193 cs_193 2000 (35, [(0, (3, 11, 7, 0)), (1, (3, 6, -1, 0))])) p_193_35 = true := by decide +kernel
theorem z_gf {K : Nat → gL → List Value → gH → Option gO} {pc a b i : Nat} {lv : gL} {r : List Value} {lh : gH} {F : Nat → Value} {v : Value} (h : lh[i]? = some (.inl (a, F))) (hv : F b = v) (q : Nat) (hq : pc + 3 = q) : gI_get K pc a b lv (.ref i :: r) lh = K q lv (v :: r) lh := by
  subst hq hv
  unfold gI_get
  dsimp only
  rw [h]
  dsimp only
  rw [Nat.beq_refl]
  rfl
theorem z_virt0 {K : Nat → gL → List Value → gH → Option gO} {ih : Nat → Nat → Nat → gL → List Value → gH → Option gO} {d pc a i k : Nat} {v : Int} {lv : gL} {r : List Value} {lh : gH} {F : Nat → Value} (h : lh[i]? = some (.inl (k, F))) (hk : Int.toNat v = k) (hr : gCat r = true) (hm : Nat.ble 1 (gMax a) = true) : gI_virt K (gCall ih (d + 1)) pc a 0 v lv (.ref i :: r) lh = gBack K pc lv 3 r (ih a d 0 (lv_args 0 [.ref i]) [] lh) := by
  unfold gI_virt
  rw [List.drop_zero]
  dsimp only
  rw [h]
  dsimp only
  rw [hk, hr, show (k == k) = true from beq_self_eq_true k]
  show gBack K pc lv 3 r (bif Nat.ble 1 (gMax a) then ih a d 0 (lv_args 0 [.ref i]) [] lh else none) = _
  rw [hm]
  rfl
theorem z_back1 {K : Nat → gL → List Value → gH → Option gO} {lv : gL} {n : Nat} {r : List Value} {x : Option gO} {h : gH} {p : Nat} {pc : Nat} {v : Value} (e : x = some (h, p, [v])) (q : Nat) (hq : pc + n = q) : gBack K pc lv n r x = K q lv (v :: r) h := by
  subst hq
  rw [e]
  rfl
theorem st_193_20 {n d : Nat} {lv : gL} {st : List Value} {lh : gH} : gRun (n + 1) 193 d 20 lv st lh = gI_new (gRun n 193 d) 20 6 lv st lh := gs (e := (20, .new 20, 6, 0, 0, [1029, 4042, 1017])) rfl
theorem st_193_23 {n d : Nat} {lv : gL} {st : List Value} {lh : gH} : gRun (n + 1) 193 d 23 lv st lh = gI_dup (gRun n 193 d) 23 lv st lh := gs (e := (23, .dup, 0, 0, 0, [])) rfl
theorem st_193_24 {n d : Nat} {lv : gL} {st : List Value} {lh : gH} : gRun (n + 1) 193 d 24 lv st lh = gI_aload (gRun n 193 d) 24 lv st lh 0 1 := gs (e := (24, .aload_n 0, 0, 0, 0, [])) rfl
theorem st_193_25 {n d : Nat} {lv : gL} {st : List Value} {lh : gH} : gRun (n + 1) 193 d 25 lv st lh = gI_get (gRun n 193 d) 25 11 6 lv st lh := gs (e := (25, .getfield 39, 11, 6, 0, [3011])) rfl
theorem st_193_28 {n d : Nat} {lv : gL} {st : List Value} {lh : gH} : gRun (n + 1) 193 d 28 lv st lh = gI_virt (gRun n 193 d) (gCall (gRun n) d) 28 52 0 3 lv st lh := gs (e := (28, .invokevirtual 112, 52, 0, 3, [4043, 4045, 50, 1003, 4046])) rfl
theorem st_193_31 {n d : Nat} {lv : gL} {st : List Value} {lh : gH} : gRun (n + 1) 193 d 31 lv st lh = gI_spec (gRun n 193 d) (gCall (gRun n) d) (Nat.ble 1 d) 31 114 1 lv st lh := gs (e := (31, .invokespecial 338, 114, 1, 1, [4047, 4048, 1017, 4049])) rfl
theorem st_193_34 {n d : Nat} {lv : gL} {st : List Value} {lh : gH} : gRun (n + 1) 193 d 34 lv st lh = gI_astore (gRun n 193 d) 34 lv st lh 1 1 := gs (e := (34, .astore_n 1, 0, 0, 0, [])) rfl
theorem st_52_0 {n d : Nat} {lv : gL} {st : List Value} {lh : gH} : gRun (n + 1) 52 d 0 lv st lh = gI_aload (gRun n 52 d) 0 lv st lh 0 1 := gs (e := (0, .aload_n 0, 0, 0, 0, [])) rfl
theorem st_52_1 {n d : Nat} {lv : gL} {st : List Value} {lh : gH} : gRun (n + 1) 52 d 1 lv st lh = gI_get (gRun n 52 d) 1 3 3 lv st lh := gs (e := (1, .getfield 21, 3, 3, 0, [1089])) rfl
theorem run_52 {H : gH} {G : Nat → Value} {x : Int32} (h : H[19]? = some (.inl (3, G))) (hx : G 3 = .int x) (d : Nat) : gRun 6 52 (d + 1) 0 (lv_args 0 [.ref 19]) [] H = some (H, 6, [.int (x - 1)]) := by
  refine st_52_0.trans ?_
  refine (z_aload (x := 19) rfl 1 rfl).trans ?_
  refine st_52_1.trans ?_
  refine (z_gf h hx 4 rfl).trans ?_
  refine Eq.trans (b := gI_iret (gRt 52) 6 [.int (x - 1)] H) rfl ?_
  show (bif decide (narrow .int (.int (x - 1)) = .int (x - 1)) then _ else none) = _
  rw [decide_eq_true (show narrow .int (.int (x - 1)) = .int (x - 1) from rfl)]
  rfl
theorem go_193 {n d : Nat} {lv : gL} {lh : gH} {o : gO} {F G : Nat → Value} {x : Int32} (h7 : 7 ≤ lh.length) (h19 : 19 < lh.length) (g0 : gLk 0 lv = some (.ref 7)) (hF : lh[7]? = some (.inl (11, F))) (hF6 : F 6 = .ref 19) (hG : lh[19]? = some (.inl (3, G))) (hG3 : G 3 = .int x) (e : gRun n 193 (d + 2) 35 (gSt1 lv 1 (.ref lh.length)) [] (lh ++ cs_new_114 (x - 1) lh.length) = some o) : gRun (n + 70) 193 (d + 2) 20 lv [] lh = some o := by
  have r1 := run_114 (h := lh) h7 d (x - 1)
  have r2 := gRun_le (n := 20) (m := n + 64) (Nat.le_trans (by decide) (Nat.le_add_left 64 n)) _ _ _ _ _ _ _ r1
  have r3 := gRun_le (n := n) (m := n + 63) (Nat.le_add_right n 63) _ _ _ _ _ _ _ e
  have k7 : (lh ++ [.inl (6, fun j => defaultValue (gYt 6 j))])[7]? = some (.inl (11, F)) := (app_lo (Nat.lt_trans (by decide) h19)).trans hF
  have k19 : (lh ++ [.inl (6, fun j => defaultValue (gYt 6 j))])[19]? = some (.inl (3, G)) := (app_lo h19).trans hG
  have r4 := run_52 k19 hG3 d
  have r5 := gRun_le (n := 6) (m := n + 65) (Nat.le_trans (by decide) (Nat.le_add_left 65 n)) _ _ _ _ _ _ _ r4
  refine st_193_20.trans ?_
  refine (z_new 23 rfl).trans ?_
  refine st_193_23.trans ?_
  refine (z_dup 24 rfl).trans ?_
  refine st_193_24.trans ?_
  refine (z_aload g0 25 rfl).trans ?_
  refine st_193_25.trans ?_
  refine (z_gf k7 hF6 28 rfl).trans ?_
  refine st_193_28.trans ?_
  refine (z_virt0 k19 rfl rfl rfl).trans ?_
  refine (z_back1 r5 31 rfl).trans ?_
  refine st_193_31.trans ?_
  refine (z_spec1 rfl rfl).trans ?_
  refine (z_back r2 34 rfl).trans ?_
  refine st_193_34.trans ?_
  refine (z_astore 35 rfl).trans ?_
  exact r3
theorem hand_193_20 (d : Nat) : eHand e_193 A_193 mu_193 cs_193 (d + 1) (20, [(0, (3, 11, 7, 0))]) := by
  intro Q xs h0 q hp ih lv lh ys hW hL hA hAs hmu
  have h3 := hW.1.len
  have h7 : 7 ≤ lh.length := Nat.le_trans (by decide) h3
  have h23 : 23 < lh.length := Nat.lt_of_lt_of_le (by decide) h3
  obtain ⟨y0, t0, rfl, ⟨w0, g0, z0, k0, _⟩, hA0⟩ := vAts_inv hA
  have ht := vAts_nil hA0
  subst ht
  have h19 : 19 < lh.length := Nat.lt_of_lt_of_le (by decide) h3
  obtain ⟨i0, rfl, q0⟩ := k0
  have hi : (i0 : Int) = 7 := by
    rcases q0.2.2.1 with z | z
    · exact absurd z (by decide)
    · rw [if_pos (by decide)] at z
      exact z
  have hi2 : i0 = 7 := Int.ofNat.inj hi
  subst hi2
  obtain ⟨F, f1, f2, f3⟩ := q0.obj (by decide)
  have hv := hW.2 7 6 q0.lt (by rw [f2]; decide)
  rw [q0.2.1.1, f3] at hv
  have hn : F 6 ≠ .null := by
    rw [← f3]
    exact q0.2.2.2 6 (by rw [f2]; decide) (by decide +kernel)
  obtain ⟨j, j1, j2, j3⟩ : ∃ i, F 6 = .ref i ∧ isA T0 lh 3 19 i ∧ (2 ≤ 21 → i = 21 - 2) := by
    rcases (show F 6 = .null ∨ ∃ i, F 6 = .ref i ∧ isA T0 lh 3 19 i ∧ (2 ≤ 21 → i = 21 - 2) from hv) with z | z
    · exact absurd z hn
    · exact z
  have j4 : j = 19 := j3 (by decide)
  subst j4
  obtain ⟨G, p1, p2, p3⟩ := j2.obj (by decide)
  have hx := hW.2 19 3 j2.lt (by rw [p2]; decide)
  rw [j2.2.1.1, p3] at hx
  obtain ⟨x, x1, _, _⟩ := (show ∃ x : Int32, G 3 = .int x ∧ (-2147483648 : Int) ≤ x.toInt ∧ x.toInt ≤ 2147483647 from hx)
  have hnew := new_114 hW (x - 1)
  have hat : vAts T0 (lh ++ cs_new_114 (x - 1) lh.length) (gSt1 lv 1 (.ref lh.length)) ([(0, (3, 11, 7, 0))] ++ [(1, (3, 6, -1, 0))]) ([y0] ++ [(lh.length : Int)]) := vAts.snoc (q := (1, (3, 6, -1, 0))) ⟨.ref lh.length, rfl, rfl, (show vOK T0 _ (3, 6, -1, 0) (.ref lh.length) from ⟨_, rfl, hnew.2⟩), rfl⟩ (hA.sto (hLe.app _ _) (by decide))
  have hl : (lh ++ cs_new_114 (x - 1) lh.length).length = lh.length + 2 := by rw [List.length_append]; rfl
  have ha : 0 ≤ hV (lh ++ cs_new_114 (x - 1) lh.length) 7 4 ∧ hV (lh ++ cs_new_114 (x - 1) lh.length) 7 4 < 8 := by
    have p3 : hV (lh ++ cs_new_114 (x - 1) lh.length) 7 4 = hV lh 7 4 := by
      unfold hV hVal
      rw [app_lo q0.lt]
    rw [p3]
    exact hAs
  obtain ⟨n, o, e, hq⟩ := ih 0 (by rw [← (show (1 : Nat) = q from hmu)]; decide) (35, [(0, (3, 11, 7, 0)), (1, (3, 6, -1, 0))]) (by unfold cs_193; simp) _ _ _ hnew.1 (hL.trans (hLw.app _ _ (Nat.le_of_ble_eq_true rfl))) hat ha rfl
  exact ⟨n + 70, o, go_193 h7 h19 g0 f1 j1 p1 x1 e, hq⟩

theorem m_193 (d : Nat) : eC e_193 (d + 22) := eC_ok (e := e_193) (L := L_193) (cs := cs_193) (n := 2000) (d := d + 21) (A := A_193) (μ := mu_193) (tp := true) (p0 := p_193_s) rfl ⟨m_56 (d + 19), ⟨m_82 d, trivial⟩⟩ rfl (.inr pre0_ok) (by decide +kernel) (fun _ => post0_ok) r_193_s (allC c_193_s_0 allN) (allC (.inr (hand_193_20 (d + 20))) (allC (.inl ⟨p_193_35, r_193_35, fun q0 => (allC c_193_35_0 (allC c_193_35_1 (allC c_193_35_2 allN)))⟩) allN))
/- MixStage.read ()I -/
noncomputable def s_157 : vM := ([(3, 11, 7, 0)], (0, -2147483648, 2147483647, 0), 0, 1, [(1, 0), (1, 1), (1, 2), (1, 3), (1, 4), (1, 5), (1, 6), (1, 7), (1, 8), (1, 9), (1, 10), (1, 11), (1, 12), (1, 13), (1, 14), (1, 15), (1, 16), (1, 18), (3, 4), (4, 1), (4, 2), (4, 3), (4, 4), (4, 5), (4, 6), (4, 7), (4, 8), (4, 13), (4, 15), (5, 0), (5, 2), (6, 2), (6, 3), (6, 4), (8, 4), (11, 1), (11, 2), (11, 4), (11, 5), (100, 0), (101, 0), (104, 0), (106, 0)])
noncomputable def e_157 : vE := (157, s_157, pre0, post0)
noncomputable def L_157 : List vE := [e_60, e_62, e_63, e_193]
def cs_157 : List vC := []
def A_157 : Int → List Int → gH → gH → Prop := fun c xs h0 h => True
def mu_157 : Int → List Int → gH → gH → Nat := fun c xs h0 h => 0
def p_157_s : List vG := []
theorem r_157_s : vCovO true (eR0 e_157 L_157 cs_157 2000) p_157_s = true := by decide +kernel
theorem m_157 (d : Nat) : eC e_157 (d + 23) := eC_ok (e := e_157) (L := L_157) (cs := cs_157) (n := 2000) (d := d + 22) (A := A_157) (μ := mu_157) (tp := true) (p0 := p_157_s) rfl ⟨m_60 (d + 15), ⟨m_62 (d + 19), ⟨m_63 (d + 21), ⟨m_193 d, trivial⟩⟩⟩⟩ rfl (.inr pre0_ok) (by decide +kernel) (fun _ => post0_ok) r_157_s allN allN
/- MixStage.place ()I -/
noncomputable def s_158 : vM := ([(3, 11, 7, 0)], (0, -2147483648, 2147483647, 0), 0, 0, [])
noncomputable def e_158 : vE := (158, s_158, pre0, post0)
noncomputable def L_158 : List vE := []
def cs_158 : List vC := []
def A_158 : Int → List Int → gH → gH → Prop := fun c xs h0 h => True
def mu_158 : Int → List Int → gH → gH → Nat := fun c xs h0 h => 0
def p_158_s : List vG := []
theorem r_158_s : vCovO true (eR0 e_158 L_158 cs_158 2000) p_158_s = true := by decide +kernel
theorem m_158 (d : Nat) : eC e_158 (d + 1) := eC_ok (e := e_158) (L := L_158) (cs := cs_158) (n := 2000) (d := d + 0) (A := A_158) (μ := mu_158) (tp := true) (p0 := p_158_s) rfl trivial rfl (.inr pre0_ok) (by decide +kernel) (fun _ => post0_ok) r_158_s allN allN
/- MixStage.reel (I)Z -/
noncomputable def s_159 : vM := ([(3, 11, 7, 0), (0, -2147483648, 2147483647, 0)], (0, 0, 1, 0), 0, 0, [(100, 0)])
noncomputable def e_159 : vE := (159, s_159, pre0, post0)
noncomputable def L_159 : List vE := [e_54]
def cs_159 : List vC := []
def A_159 : Int → List Int → gH → gH → Prop := fun c xs h0 h => True
def mu_159 : Int → List Int → gH → gH → Nat := fun c xs h0 h => 0
def p_159_s : List vG := []
theorem r_159_s : vCovO true (eR0 e_159 L_159 cs_159 2000) p_159_s = true := by decide +kernel
theorem m_159 (d : Nat) : eC e_159 (d + 3) := eC_ok (e := e_159) (L := L_159) (cs := cs_159) (n := 2000) (d := d + 2) (A := A_159) (μ := mu_159) (tp := true) (p0 := p_159_s) rfl ⟨m_54 d, trivial⟩ rfl (.inr pre0_ok) (by decide +kernel) (fun _ => post0_ok) r_159_s allN allN
/- MixStage.edition ()I -/
noncomputable def s_160 : vM := ([(3, 11, 7, 0)], (0, -2147483648, 2147483647, 0), 0, 0, [(3, 3)])
noncomputable def e_160 : vE := (160, s_160, pre0, post0)
noncomputable def L_160 : List vE := [e_55]
def cs_160 : List vC := []
def A_160 : Int → List Int → gH → gH → Prop := fun c xs h0 h => True
def mu_160 : Int → List Int → gH → gH → Nat := fun c xs h0 h => 0
def p_160_s : List vG := []
theorem r_160_s : vCovO true (eR0 e_160 L_160 cs_160 2000) p_160_s = true := by decide +kernel
theorem m_160 (d : Nat) : eC e_160 (d + 4) := eC_ok (e := e_160) (L := L_160) (cs := cs_160) (n := 2000) (d := d + 3) (A := A_160) (μ := mu_160) (tp := true) (p0 := p_160_s) rfl ⟨m_55 d, trivial⟩ rfl (.inr pre0_ok) (by decide +kernel) (fun _ => post0_ok) r_160_s allN allN
/- MixStage.keep (II)I -/
noncomputable def s_161 : vM := ([(3, 11, 7, 0), (0, -2147483648, 2147483647, 0), (0, -2147483648, 2147483647, 0)], (0, -2147483648, 2147483647, 0), 0, 0, [(100, 0)])
noncomputable def e_161 : vE := (161, s_161, pre0, post0)
noncomputable def L_161 : List vE := [e_52, e_53, e_57]
def cs_161 : List vC := []
def A_161 : Int → List Int → gH → gH → Prop := fun c xs h0 h => True
def mu_161 : Int → List Int → gH → gH → Nat := fun c xs h0 h => 0
def p_161_s : List vG := []
theorem r_161_s : vCovO true (eR0 e_161 L_161 cs_161 2000) p_161_s = true := by decide +kernel
theorem m_161 (d : Nat) : eC e_161 (d + 4) := eC_ok (e := e_161) (L := L_161) (cs := cs_161) (n := 2000) (d := d + 3) (A := A_161) (μ := mu_161) (tp := true) (p0 := p_161_s) rfl ⟨m_52 (d + 2), ⟨m_53 (d + 1), ⟨m_57 d, trivial⟩⟩⟩ rfl (.inr pre0_ok) (by decide +kernel) (fun _ => post0_ok) r_161_s allN allN
/- MixStage.blank (I)I -/
noncomputable def s_162 : vM := ([(3, 11, 7, 0), (0, -2147483648, 2147483647, 0)], (0, -2147483648, 2147483647, 0), 0, 0, [(100, 0)])
noncomputable def e_162 : vE := (162, s_162, pre0, post0)
noncomputable def L_162 : List vE := [e_57]
def cs_162 : List vC := []
def A_162 : Int → List Int → gH → gH → Prop := fun c xs h0 h => True
def mu_162 : Int → List Int → gH → gH → Nat := fun c xs h0 h => 0
def p_162_s : List vG := []
theorem r_162_s : vCovO true (eR0 e_162 L_162 cs_162 2000) p_162_s = true := by decide +kernel
theorem m_162 (d : Nat) : eC e_162 (d + 4) := eC_ok (e := e_162) (L := L_162) (cs := cs_162) (n := 2000) (d := d + 3) (A := A_162) (μ := mu_162) (tp := true) (p0 := p_162_s) rfl ⟨m_57 d, trivial⟩ rfl (.inr pre0_ok) (by decide +kernel) (fun _ => post0_ok) r_162_s allN allN
/- MixStage.frames (I)I -/
noncomputable def s_163 : vM := ([(3, 11, 7, 0), (0, -2147483648, 2147483647, 0)], (0, -2147483648, 2147483647, 0), 0, 0, [])
noncomputable def e_163 : vE := (163, s_163, pre0, post0)
noncomputable def L_163 : List vE := [e_51, e_53]
def cs_163 : List vC := []
def A_163 : Int → List Int → gH → gH → Prop := fun c xs h0 h => True
def mu_163 : Int → List Int → gH → gH → Nat := fun c xs h0 h => 0
def p_163_s : List vG := []
theorem r_163_s : vCovO true (eR0 e_163 L_163 cs_163 2000) p_163_s = true := by decide +kernel
theorem m_163 (d : Nat) : eC e_163 (d + 3) := eC_ok (e := e_163) (L := L_163) (cs := cs_163) (n := 2000) (d := d + 2) (A := A_163) (μ := mu_163) (tp := true) (p0 := p_163_s) rfl ⟨m_51 (d + 1), ⟨m_53 d, trivial⟩⟩ rfl (.inr pre0_ok) (by decide +kernel) (fun _ => post0_ok) r_163_s allN allN
/- MixStage.old (III)I -/
noncomputable def s_164 : vM := ([(3, 11, 7, 0), (0, -2147483648, 2147483647, 0), (0, -2147483648, 2147483647, 0), (0, -2147483648, 2147483647, 0)], (0, -2147483648, 2147483647, 0), 0, 0, [])
noncomputable def e_164 : vE := (164, s_164, pre0, post0)
noncomputable def L_164 : List vE := [e_51, e_53, e_58]
def cs_164 : List vC := []
def A_164 : Int → List Int → gH → gH → Prop := fun c xs h0 h => True
def mu_164 : Int → List Int → gH → gH → Nat := fun c xs h0 h => 0
def p_164_s : List vG := []
theorem r_164_s : vCovO true (eR0 e_164 L_164 cs_164 2000) p_164_s = true := by decide +kernel
theorem m_164 (d : Nat) : eC e_164 (d + 3) := eC_ok (e := e_164) (L := L_164) (cs := cs_164) (n := 2000) (d := d + 2) (A := A_164) (μ := mu_164) (tp := true) (p0 := p_164_s) rfl ⟨m_51 (d + 1), ⟨m_53 d, ⟨m_58 d, trivial⟩⟩⟩ rfl (.inr pre0_ok) (by decide +kernel) (fun _ => post0_ok) r_164_s allN allN
