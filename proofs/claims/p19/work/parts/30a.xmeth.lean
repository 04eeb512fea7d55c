/-! CONTRACTS of methods (printed by wip/gen/emit.py). -/
/- Bank.get (I)LMixStage$Sound; -/
noncomputable def s_2 : vM := ([(3, 0, 23, 0), (0, -2147483648, 2147483647, 0)], (2, 7, -1, 0), 0, 0, [])
noncomputable def e_2 : vE := (2, s_2, pre0, post0)
noncomputable def L_2 : List vE := []
def cs_2 : List vC := []
def A_2 : Int → List Int → gH → gH → Prop := fun c xs h0 h => True
def mu_2 : Int → List Int → gH → gH → Nat := fun c xs h0 h => 0
theorem q_2_0 {n0 n1 n2 n3 n4 n5 : Int} {H0 : gH} (f0 : n0 ≤ 2147483647) (f1 : (-2147483648) ≤ n0) (f2 : n1 = 23) (f3 : hWt T0 H0 ∧ True) (f4 : 0 ≤ n0) (f5 : n2 ≤ 20) (f6 : 0 ≤ n2) (f7 : n2 = hV H0 (n1).toNat 1) (f8 : n0 < n2) (f9 : n3 = 24) (f10 : n3 = hV H0 (n1).toNat 0) (f11 : n4 = (hN H0 (n3).toNat : Int)) (f12 : n4 = 20) (f13 : n0 < n4) (f14 : n5 = 24) (f15 : n5 = hV H0 (n1).toNat 0) : 0 ≤ n0 ∧ n0 < 20 := by
  have e0 : n2 = hV H0 23 1 := (by rw [f2] at f7; exact f7 : n2 = hV H0 23 1)
  subst e0
  omega
theorem c_2_s_0 : vOkm T0 (eP e_2 L_2 A_2 mu_2 none) 2 ([(20, [5, 0], [0], 0), (0, [5], [], 24), (42, [1, 4], [], 0), (0, [4], [], 20), (21, [4, 3], [0], 0), (20, [3, 0], [0], 0), (0, [3], [], 24), (42, [1, 2], [], 0), (20, [2, 0], [0], 1), (90, [2], [], 0), (91, [2], [], 20), (33, [1], [], 0), (6000, [0, 1], [0], 0), (0, [0], [], 23), (90, [1], [], -2147483648), (91, [1], [], 2147483647)], (70, [1], [], 20)) := vOk_in fun ρ η h => by
  obtain ⟨f0, f1, f2, f3, f4, f5, f6, f7, f8, f9, f10, f11, f12, f13, f14, f15, _⟩ := h
  exact q_2_0 (n0 := ρ 1) (n1 := ρ 0) (n2 := ρ 2) (n3 := ρ 3) (n4 := ρ 4) (n5 := ρ 5) (H0 := η 0) f15 f14 f13 f12 f11 f10 f9 f8 f7 f6 f5 f4 f3 f2 f1 f0
def p_2_s : List vG := [([(20, [5, 0], [0], 0), (0, [5], [], 24), (42, [1, 4], [], 0), (0, [4], [], 20), (21, [4, 3], [0], 0), (20, [3, 0], [0], 0), (0, [3], [], 24), (42, [1, 2], [], 0), (20, [2, 0], [0], 1), (90, [2], [], 0), (91, [2], [], 20), (33, [1], [], 0), (6000, [0, 1], [0], 0), (0, [0], [], 23), (90, [1], [], -2147483648), (91, [1], [], 2147483647)], (70, [1], [], 20))]
theorem r_2_s : vCovO true (eR0 e_2 L_2 cs_2 2000) p_2_s = true := by decide +kernel
theorem m_2 (d : Nat) : eC e_2 (d + 1) := eC_ok (e := e_2) (L := L_2) (cs := cs_2) (n := 2000) (d := d + 0) (A := A_2) (μ := mu_2) (tp := true) (p0 := p_2_s) rfl trivial rfl (.inr pre0_ok) (by decide +kernel) (fun _ => post0_ok) r_2_s (allC c_2_s_0 allN) allN
/- Bank.getKind (II)LMixStage$Sound; -/
noncomputable def s_3 : vM := ([(3, 0, 23, 0), (0, -2147483648, 2147483647, 0), (0, -2147483648, 2147483647, 0)], (2, 7, -1, 0), 0, 0, [])
noncomputable def e_3 : vE := (3, s_3, pre0, post0)
noncomputable def L_3 : List vE := [e_2]
def cs_3 : List vC := []
def A_3 : Int → List Int → gH → gH → Prop := fun c xs h0 h => True
def mu_3 : Int → List Int → gH → gH → Nat := fun c xs h0 h => 0
def p_3_s : List vG := []
theorem r_3_s : vCovO true (eR0 e_3 L_3 cs_3 2000) p_3_s = true := by decide +kernel
theorem m_3 (d : Nat) : eC e_3 (d + 2) := eC_ok (e := e_3) (L := L_3) (cs := cs_3) (n := 2000) (d := d + 1) (A := A_3) (μ := mu_3) (tp := true) (p0 := p_3_s) rfl ⟨m_2 d, trivial⟩ rfl (.inr pre0_ok) (by decide +kernel) (fun _ => post0_ok) r_3_s allN allN
/- Sound.<init> (IIIII)V -/
noncomputable def s_117 : vM := ([(3, 7, -1, 0), (0, -2147483648, 2147483647, 0), (0, -2147483648, 2147483647, 0), (0, -2147483648, 2147483647, 0), (0, -2147483648, 2147483647, 0), (0, -2147483648, 2147483647, 0)], (9, 0, 0, 0), 0, 0, [])
noncomputable def e_117 : vE := (117, s_117, pre0, post0)
theorem m_117 (d : Nat) : eC e_117 (d + 1) := sorry
/- Bank.nextStamp ()I -/
noncomputable def s_5 : vM := ([(3, 0, 23, 0)], (0, -2147483648, 2147483647, 0), 0, 0, [(0, 2)])
noncomputable def e_5 : vE := (5, s_5, pre0, post0)
noncomputable def L_5 : List vE := []
def cs_5 : List vC := []
def A_5 : Int → List Int → gH → gH → Prop := fun c xs h0 h => True
def mu_5 : Int → List Int → gH → gH → Nat := fun c xs h0 h => 0
def p_5_s : List vG := []
theorem r_5_s : vCovO true (eR0 e_5 L_5 cs_5 2000) p_5_s = true := by decide +kernel
theorem m_5 (d : Nat) : eC e_5 (d + 1) := eC_ok (e := e_5) (L := L_5) (cs := cs_5) (n := 2000) (d := d + 0) (A := A_5) (μ := mu_5) (tp := true) (p0 := p_5_s) rfl trivial rfl (.inr pre0_ok) (by decide +kernel) (fun _ => post0_ok) r_5_s allN allN
/- Bank.add (IIIII)I -/
noncomputable def s_4 : vM := ([(3, 0, 23, 0), (0, -2147483648, 2147483647, 0), (0, -2147483648, 2147483647, 0), (0, -2147483648, 2147483647, 0), (0, -2147483648, 2147483647, 0), (0, -2147483648, 2147483647, 0)], (0, -2147483648, 2147483647, 0), 0, 1, [(0, 1), (0, 2), (7, 8), (105, 0)])
noncomputable def e_4 : vE := (4, s_4, pre0, post0)
theorem m_4 (d : Nat) : eC e_4 (d + 3) := sorry
/- MixStage.put ([III)V -/
noncomputable def s_201 : vM := ([(2, 100, -1, 0), (0, -2147483648, 2147483647, 0), (0, -2147483648, 2147483647, 0)], (9, 0, 0, 0), 0, 0, [(100, 0)])
noncomputable def e_201 : vE := (201, s_201, pre0, post0)
noncomputable def L_201 : List vE := []
def cs_201 : List vC := []
def A_201 : Int → List Int → gH → gH → Prop := fun c xs h0 h => True
def mu_201 : Int → List Int → gH → gH → Nat := fun c xs h0 h => 0
def p_201_s : List vG := []
theorem r_201_s : vCovO true (eR0 e_201 L_201 cs_201 2000) p_201_s = true := by decide +kernel
theorem m_201 (d : Nat) : eC e_201 (d + 1) := eC_ok (e := e_201) (L := L_201) (cs := cs_201) (n := 2000) (d := d + 0) (A := A_201) (μ := mu_201) (tp := true) (p0 := p_201_s) rfl trivial rfl (.inr pre0_ok) (by decide +kernel) (fun _ => post0_ok) r_201_s allN allN
/- Bank.setMark (II)V -/
noncomputable def s_6 : vM := ([(3, 0, 23, 0), (0, -2147483648, 2147483647, 0), (0, -2147483648, 2147483647, 0)], (9, 0, 0, 0), 0, 0, [(0, 2), (100, 0)])
noncomputable def e_6 : vE := (6, s_6, pre0, post0)
noncomputable def L_6 : List vE := [e_5, e_201]
def cs_6 : List vC := []
def A_6 : Int → List Int → gH → gH → Prop := fun c xs h0 h => True
def mu_6 : Int → List Int → gH → gH → Nat := fun c xs h0 h => 0
def p_6_s : List vG := []
theorem r_6_s : vCovO true (eR0 e_6 L_6 cs_6 2000) p_6_s = true := by decide +kernel
theorem m_6 (d : Nat) : eC e_6 (d + 2) := eC_ok (e := e_6) (L := L_6) (cs := cs_6) (n := 2000) (d := d + 1) (A := A_6) (μ := mu_6) (tp := true) (p0 := p_6_s) rfl ⟨m_5 d, ⟨m_201 d, trivial⟩⟩ rfl (.inr pre0_ok) (by decide +kernel) (fun _ => post0_ok) r_6_s allN allN
/- Bank.setHiss (II)V -/
noncomputable def s_7 : vM := ([(3, 0, 23, 0), (0, -2147483648, 2147483647, 0), (0, -2147483648, 2147483647, 0)], (9, 0, 0, 0), 0, 0, [(100, 0)])
noncomputable def e_7 : vE := (7, s_7, pre0, post0)
noncomputable def L_7 : List vE := [e_201]
def cs_7 : List vC := []
def A_7 : Int → List Int → gH → gH → Prop := fun c xs h0 h => True
def mu_7 : Int → List Int → gH → gH → Nat := fun c xs h0 h => 0
def p_7_s : List vG := []
theorem r_7_s : vCovO true (eR0 e_7 L_7 cs_7 2000) p_7_s = true := by decide +kernel
theorem m_7 (d : Nat) : eC e_7 (d + 2) := eC_ok (e := e_7) (L := L_7) (cs := cs_7) (n := 2000) (d := d + 1) (A := A_7) (μ := mu_7) (tp := true) (p0 := p_7_s) rfl ⟨m_201 d, trivial⟩ rfl (.inr pre0_ok) (by decide +kernel) (fun _ => post0_ok) r_7_s allN allN
/- MixStage.at ([II)I -/
noncomputable def s_199 : vM := ([(2, 100, -1, 0), (0, -2147483648, 2147483647, 0)], (0, -2147483648, 2147483647, 0), 0, 0, [])
noncomputable def e_199 : vE := (199, s_199, pre0, post0)
noncomputable def L_199 : List vE := []
def cs_199 : List vC := []
def A_199 : Int → List Int → gH → gH → Prop := fun c xs h0 h => True
def mu_199 : Int → List Int → gH → gH → Nat := fun c xs h0 h => 0
def p_199_s : List vG := []
theorem r_199_s : vCovO true (eR0 e_199 L_199 cs_199 2000) p_199_s = true := by decide +kernel
theorem m_199 (d : Nat) : eC e_199 (d + 1) := eC_ok (e := e_199) (L := L_199) (cs := cs_199) (n := 2000) (d := d + 0) (A := A_199) (μ := mu_199) (tp := true) (p0 := p_199_s) rfl trivial rfl (.inr pre0_ok) (by decide +kernel) (fun _ => post0_ok) r_199_s allN allN
/- Bank.frameNow (II)I -/
noncomputable def s_8 : vM := ([(3, 0, 23, 0), (0, -2147483648, 2147483647, 0), (0, -2147483648, 2147483647, 0)], (0, -2147483648, 2147483647, 0), 0, 0, [])
noncomputable def e_8 : vE := (8, s_8, pre0, post0)
noncomputable def L_8 : List vE := [e_199]
def cs_8 : List vC := []
def A_8 : Int → List Int → gH → gH → Prop := fun c xs h0 h => True
def mu_8 : Int → List Int → gH → gH → Nat := fun c xs h0 h => 0
def p_8_s : List vG := []
theorem r_8_s : vCovO true (eR0 e_8 L_8 cs_8 2000) p_8_s = true := by decide +kernel
theorem m_8 (d : Nat) : eC e_8 (d + 2) := eC_ok (e := e_8) (L := L_8) (cs := cs_8) (n := 2000) (d := d + 1) (A := A_8) (μ := mu_8) (tp := true) (p0 := p_8_s) rfl ⟨m_199 d, trivial⟩ rfl (.inr pre0_ok) (by decide +kernel) (fun _ => post0_ok) r_8_s allN allN
/- Bank.ownLength (LMixStage$Sound;)I -/
noncomputable def s_9 : vM := ([(3, 0, 23, 0), (3, 7, -1, 0)], (0, -2147483648, 2147483647, 0), 0, 0, [])
noncomputable def e_9 : vE := (9, s_9, pre0, post0)
noncomputable def L_9 : List vE := [e_2]
def cs_9 : List vC := []
def A_9 : Int → List Int → gH → gH → Prop := fun c xs h0 h => True
def mu_9 : Int → List Int → gH → gH → Nat := fun c xs h0 h => 0
def p_9_s : List vG := []
theorem r_9_s : vCovO true (eR0 e_9 L_9 cs_9 2000) p_9_s = true := by decide +kernel
theorem m_9 (d : Nat) : eC e_9 (d + 2) := eC_ok (e := e_9) (L := L_9) (cs := cs_9) (n := 2000) (d := d + 1) (A := A_9) (μ := mu_9) (tp := true) (p0 := p_9_s) rfl ⟨m_2 d, trivial⟩ rfl (.inr pre0_ok) (by decide +kernel) (fun _ => post0_ok) r_9_s allN allN
/- Bank.leansAtOnce (LMixStage$Sound;)I -/
noncomputable def s_10 : vM := ([(3, 0, 23, 0), (2, 7, -1, 0)], (0, -2147483648, 2147483647, 0), 0, 0, [])
noncomputable def e_10 : vE := (10, s_10, pre0, post0)
noncomputable def L_10 : List vE := []
def cs_10 : List vC := []
def A_10 : Int → List Int → gH → gH → Prop := fun c xs h0 h => True
def mu_10 : Int → List Int → gH → gH → Nat := fun c xs h0 h => 0
def p_10_s : List vG := []
theorem r_10_s : vCovO true (eR0 e_10 L_10 cs_10 2000) p_10_s = true := by decide +kernel
theorem m_10 (d : Nat) : eC e_10 (d + 1) := eC_ok (e := e_10) (L := L_10) (cs := cs_10) (n := 2000) (d := d + 0) (A := A_10) (μ := mu_10) (tp := true) (p0 := p_10_s) rfl trivial rfl (.inr pre0_ok) (by decide +kernel) (fun _ => post0_ok) r_10_s allN allN
/- Bank.joined ([II)I -/
noncomputable def s_11 : vM := ([(2, 100, -1, 0), (0, -2147483648, 2147483647, 0)], (0, -2147483648, 2147483647, 0), 0, 0, [])
noncomputable def e_11 : vE := (11, s_11, pre0, post0)
noncomputable def L_11 : List vE := [e_199]
def cs_11 : List vC := [(4, [(0, (2, 100, -1, 0)), (1, (0, -2147483648, 2147483647, 0)), (2, (0, -2147483648, 2147483647, 0)), (3, (0, -2147483648, 2147483647, 0))])]
def mub_11_4 (a0 a1 x0 x1 x2 x3 : Int) (h0 h : gH) : Nat := (2147483648 - x3).toNat
def A_11 : Int → List Int → gH → gH → Prop := fun c xs h0 h => True
def mu_11 : Int → List Int → gH → gH → Nat := fun c xs h0 h => match c.toNat with
  | 4 => (match xs with
    | [a0, a1, x0, x1, x2, x3] => mub_11_4 a0 a1 x0 x1 x2 x3 h0 h
    | _ => 0)
  | _ => 0
theorem q_11_0 {n0 n1 n2 n3 : Int} {H0 : gH}  : True ∧ ∀ q, none = some q → mub_11_4 n0 n1 n0 n1 n2 n3 H0 H0 < q := by
  exact ⟨trivial, fun q hq => nomatch hq⟩
theorem c_11_s_0 : vOkm T0 (eP e_11 L_11 A_11 mu_11 none) 2 ([], (4000, [0, 1, 2, 3], [0], 4)) := vOk_in fun ρ η h => by
  obtain ⟨_⟩ := h
  exact q_11_0 (n0 := ρ 0) (n1 := ρ 1) (n2 := ρ 2) (n3 := ρ 3) (H0 := η 0) 
def p_11_s : List vG := [([], (4000, [0, 1, 2, 3], [0], 4))]
theorem r_11_s : vCovO true (eR0 e_11 L_11 cs_11 2000) p_11_s = true := by decide +kernel
theorem q_11_1 {q0 : Nat} {n0 n1 n2 n3 n4 n5 n6 n7 : Int} {H0 H1 : gH} (f0 : n0 ≤ 2147483647) (f1 : (-2147483648) ≤ n0) (f2 : (hLe T0 H0 H1 ∧ hFr s_11.2.2.2.2 H0 H1 ∧ hWt T0 H1) ∧ (True ∧ True) ∧ some q0 = some (mub_11_4 n1 n2 n3 n4 n5 n0 H0 H1)) (f3 : n6 = 20) (f4 : n0 < n6) (f5 : n7 = w32 (n0 + 1)) : True ∧ ∀ q, some q0 = some q → mub_11_4 n1 n2 n3 n4 n5 n7 H0 H1 < q := by
  have g5 := Option.some.inj f2.2.2
  unfold mub_11_4 at g5
  unfold mub_11_4
  unfold w32 at *
  refine ⟨?_, fun q hq => ?_⟩
  · trivial
  · have g6 := Option.some.inj hq
    subst g6
    omega
theorem c_11_4_0 {q0 : Nat} : vOkm T0 (eP e_11 L_11 A_11 mu_11 (some q0)) 2 ([(10, [10, 5], [], 1), (42, [5, 6], [], 0), (0, [6], [], 20), (5000, [0, 1, 2, 3, 4, 5], [0, 1], 4), (90, [5], [], -2147483648), (91, [5], [], 2147483647)], (4000, [2, 3, 4, 10], [1], 4)) := vOk_in fun ρ η h => by
  obtain ⟨f0, f1, f2, f3, f4, f5, _⟩ := h
  exact q_11_1 (q0 := q0) (n0 := ρ 5) (n1 := ρ 0) (n2 := ρ 1) (n3 := ρ 2) (n4 := ρ 3) (n5 := ρ 4) (n6 := ρ 6) (n7 := ρ 10) (H0 := η 0) (H1 := η 1) f5 f4 f3 f2 f1 f0
theorem q_11_2 {q0 : Nat} {n0 n1 n2 n3 n4 n5 n6 n7 n8 : Int} {H0 H1 H2 : gH} (f0 : n0 ≤ 2147483647) (f1 : (-2147483648) ≤ n0) (f2 : (hLe T0 H0 H1 ∧ hFr s_11.2.2.2.2 H0 H1 ∧ hWt T0 H1) ∧ (True ∧ True) ∧ some q0 = some (mub_11_4 n1 n2 n3 n4 n5 n0 H0 H1)) (f3 : n6 = 20) (f4 : n0 < n6) (f5 : n7 = w32 (n0 + 1)) : True ∧ ∀ q, some q0 = some q → mub_11_4 n1 n2 n3 n4 n8 n7 H0 H2 < q := by
  have g5 := Option.some.inj f2.2.2
  unfold mub_11_4 at g5
  unfold mub_11_4
  unfold w32 at *
  refine ⟨?_, fun q hq => ?_⟩
  · trivial
  · have g6 := Option.some.inj hq
    subst g6
    omega
theorem c_11_4_1 {q0 : Nat} : vOkm T0 (eP e_11 L_11 A_11 mu_11 (some q0)) 2 ([(10, [12, 5], [], 1), (42, [5, 6], [], 0), (0, [6], [], 20), (5000, [0, 1, 2, 3, 4, 5], [0, 1], 4), (90, [5], [], -2147483648), (91, [5], [], 2147483647)], (4000, [2, 3, 11, 12], [2], 4)) := vOk_in fun ρ η h => by
  obtain ⟨f0, f1, f2, f3, f4, f5, _⟩ := h
  exact q_11_2 (q0 := q0) (n0 := ρ 5) (n1 := ρ 0) (n2 := ρ 1) (n3 := ρ 2) (n4 := ρ 3) (n5 := ρ 4) (n6 := ρ 6) (n7 := ρ 12) (n8 := ρ 11) (H0 := η 0) (H1 := η 1) (H2 := η 2) f5 f4 f3 f2 f1 f0
def p_11_4 : List vG := [([(10, [10, 5], [], 1), (42, [5, 6], [], 0), (0, [6], [], 20), (5000, [0, 1, 2, 3, 4, 5], [0, 1], 4), (90, [5], [], -2147483648), (91, [5], [], 2147483647)], (4000, [2, 3, 4, 10], [1], 4)),
  ([(10, [12, 5], [], 1), (42, [5, 6], [], 0), (0, [6], [], 20), (5000, [0, 1, 2, 3, 4, 5], [0, 1], 4), (90, [5], [], -2147483648), (91, [5], [], 2147483647)], (4000, [2, 3, 11, 12], [2], 4))]
theorem r_11_4 : vCovO true (eRc e_11 L_11 cs_11 2000 (4, [(0, (2, 100, -1, 0)), (1, (0, -2147483648, 2147483647, 0)), (2, (0, -2147483648, 2147483647, 0)), (3, (0, -2147483648, 2147483647, 0))])) p_11_4 = true := by decide +kernel
theorem m_11 (d : Nat) : eC e_11 (d + 2) := eC_ok (e := e_11) (L := L_11) (cs := cs_11) (n := 2000) (d := d + 1) (A := A_11) (μ := mu_11) (tp := true) (p0 := p_11_s) rfl ⟨m_199 d, trivial⟩ rfl (.inr pre0_ok) (by decide +kernel) (fun _ => post0_ok) r_11_s (allC c_11_s_0 allN) (allC (.inl ⟨p_11_4, r_11_4, fun q0 => (allC c_11_4_0 (allC c_11_4_1 allN))⟩) allN)
/- java/util/Arrays.fill ([II)V -/
noncomputable def s_331 : vM := ([(3, 100, -1, 0), (0, -2147483648, 2147483647, 0)], (9, 0, 0, 0), 0, 0, [(100, 0)])
noncomputable def e_331 : vE := (331, s_331, pre0, post0)
noncomputable def L_331 : List vE := []
def cs_331 : List vC := [(5, [(0, (3, 100, -1, 0)), (1, (0, -2147483648, 2147483647, 0)), (2, (0, 0, 2147483647, 0)), (3, (0, -2147483648, 2147483647, 0))])]
def Ab_331_5 (a0 a1 x0 x1 x2 x3 : Int) (h0 h : gH) : Prop := x3 = (hN h (x0).toNat : Int)
def mub_331_5 (a0 a1 x0 x1 x2 x3 : Int) (h0 h : gH) : Nat := (2147483648 - x2).toNat
def A_331 : Int → List Int → gH → gH → Prop := fun c xs h0 h => match c.toNat with
  | 5 => (match xs with
    | [a0, a1, x0, x1, x2, x3] => Ab_331_5 a0 a1 x0 x1 x2 x3 h0 h
    | _ => False)
  | _ => True
def mu_331 : Int → List Int → gH → gH → Nat := fun c xs h0 h => match c.toNat with
  | 5 => (match xs with
    | [a0, a1, x0, x1, x2, x3] => mub_331_5 a0 a1 x0 x1 x2 x3 h0 h
    | _ => 0)
  | _ => 0
theorem q_331_0 {n0 n1 n2 n3 : Int} {H0 : gH} (f0 : n0 ≤ 2147483647) (f1 : (-2147483648) ≤ n0) (f2 : 0 ≤ n1) (f3 : hWt T0 H0 ∧ True) (f4 : n2 = 0) (f5 : n3 = (hN H0 (n1).toNat : Int)) : Ab_331_5 n1 n0 n1 n0 n2 n3 H0 H0 ∧ ∀ q, none = some q → mub_331_5 n1 n0 n1 n0 n2 n3 H0 H0 < q := by
  refine ⟨?_, fun q hq => nomatch hq⟩
  unfold Ab_331_5
  omega
theorem c_331_s_0 : vOkm T0 (eP e_331 L_331 A_331 mu_331 none) 2 ([(21, [3, 0], [0], 0), (0, [2], [], 0), (6000, [0, 1], [0], 0), (51, [0], [], 0), (90, [1], [], -2147483648), (91, [1], [], 2147483647)], (4000, [0, 1, 2, 3], [0], 5)) := vOk_in fun ρ η h => by
  obtain ⟨f0, f1, f2, f3, f4, f5, _⟩ := h
  exact q_331_0 (n0 := ρ 1) (n1 := ρ 0) (n2 := ρ 2) (n3 := ρ 3) (H0 := η 0) f5 f4 f3 f2 f1 f0
def p_331_s : List vG := [([(21, [3, 0], [0], 0), (0, [2], [], 0), (6000, [0, 1], [0], 0), (51, [0], [], 0), (90, [1], [], -2147483648), (91, [1], [], 2147483647)], (4000, [0, 1, 2, 3], [0], 5))]
theorem r_331_s : vCovO true (eR0 e_331 L_331 cs_331 2000) p_331_s = true := by decide +kernel
theorem q_331_1 {q0 : Nat} {n0 n1 n2 n3 n4 n5 : Int} {H0 H1 : gH} (f0 : n0 ≤ 2147483647) (f1 : (-2147483648) ≤ n0) (f2 : n1 ≤ 2147483647) (f3 : 0 ≤ n1) (f4 : n2 ≤ 2147483647) (f5 : (-2147483648) ≤ n2) (f6 : 0 ≤ n3) (f7 : n4 ≤ 2147483647) (f8 : (-2147483648) ≤ n4) (f9 : 0 ≤ n5) (f10 : (hLe T0 H0 H1 ∧ hFr s_331.2.2.2.2 H0 H1 ∧ hWt T0 H1) ∧ (Ab_331_5 n5 n4 n3 n2 n1 n0 H0 H1 ∧ True) ∧ some q0 = some (mub_331_5 n5 n4 n3 n2 n1 n0 H0 H1)) (f11 : n1 < n0) : 0 ≤ n1 ∧ n1 < (hN H1 (n3).toNat : Int) := by
  unfold Ab_331_5 at *
  omega
theorem c_331_5_0 {q0 : Nat} : vOkm T0 (eP e_331 L_331 A_331 mu_331 (some q0)) 2 ([(42, [4, 5], [], 0), (5000, [0, 1, 2, 3, 4, 5], [0, 1], 5), (51, [0], [], 0), (90, [1], [], -2147483648), (91, [1], [], 2147483647), (51, [2], [], 0), (90, [3], [], -2147483648), (91, [3], [], 2147483647), (90, [4], [], 0), (91, [4], [], 2147483647), (90, [5], [], -2147483648), (91, [5], [], 2147483647)], (71, [4, 2], [1], 0)) := vOk_in fun ρ η h => by
  obtain ⟨f0, f1, f2, f3, f4, f5, f6, f7, f8, f9, f10, f11, _⟩ := h
  exact q_331_1 (q0 := q0) (n0 := ρ 5) (n1 := ρ 4) (n2 := ρ 3) (n3 := ρ 2) (n4 := ρ 1) (n5 := ρ 0) (H0 := η 0) (H1 := η 1) f11 f10 f9 f8 f7 f6 f5 f4 f3 f2 f1 f0
theorem q_331_2 {q0 : Nat} {n0 n1 n2 n3 n4 n5 n6 : Int} {H0 H1 : gH} (f0 : n0 ≤ 2147483647) (f1 : (-2147483648) ≤ n0) (f2 : n1 ≤ 2147483647) (f3 : 0 ≤ n1) (f4 : n2 ≤ 2147483647) (f5 : (-2147483648) ≤ n2) (f6 : 0 ≤ n3) (f7 : n4 ≤ 2147483647) (f8 : (-2147483648) ≤ n4) (f9 : 0 ≤ n5) (f10 : (hLe T0 H0 H1 ∧ hFr s_331.2.2.2.2 H0 H1 ∧ hWt T0 H1) ∧ (Ab_331_5 n5 n4 n3 n2 n1 n0 H0 H1 ∧ True) ∧ some q0 = some (mub_331_5 n5 n4 n3 n2 n1 n0 H0 H1)) (f11 : n1 < n0) (f12 : n6 = w32 (n1 + 1)) : 0 ≤ n6 := by
  have g4 := f10.2.1.1
  unfold Ab_331_5 at g4
  have g5 := Option.some.inj f10.2.2
  unfold mub_331_5 at g5
  unfold w32 at *
  omega
theorem c_331_5_1 {q0 : Nat} : vOkm T0 (eP e_331 L_331 A_331 mu_331 (some q0)) 2 ([(10, [6, 4], [], 1), (42, [4, 5], [], 0), (5000, [0, 1, 2, 3, 4, 5], [0, 1], 5), (51, [0], [], 0), (90, [1], [], -2147483648), (91, [1], [], 2147483647), (51, [2], [], 0), (90, [3], [], -2147483648), (91, [3], [], 2147483647), (90, [4], [], 0), (91, [4], [], 2147483647), (90, [5], [], -2147483648), (91, [5], [], 2147483647)], (90, [6], [], 0)) := vOk_in fun ρ η h => by
  obtain ⟨f0, f1, f2, f3, f4, f5, f6, f7, f8, f9, f10, f11, f12, _⟩ := h
  exact q_331_2 (q0 := q0) (n0 := ρ 5) (n1 := ρ 4) (n2 := ρ 3) (n3 := ρ 2) (n4 := ρ 1) (n5 := ρ 0) (n6 := ρ 6) (H0 := η 0) (H1 := η 1) f12 f11 f10 f9 f8 f7 f6 f5 f4 f3 f2 f1 f0
theorem q_331_3 {q0 : Nat} {n0 n1 n2 n3 n4 n5 n6 : Int} {H0 H1 : gH} (f0 : n0 ≤ 2147483647) (f1 : (-2147483648) ≤ n0) (f2 : n1 ≤ 2147483647) (f3 : 0 ≤ n1) (f4 : n2 ≤ 2147483647) (f5 : (-2147483648) ≤ n2) (f6 : 0 ≤ n3) (f7 : n4 ≤ 2147483647) (f8 : (-2147483648) ≤ n4) (f9 : 0 ≤ n5) (f10 : (hLe T0 H0 H1 ∧ hFr s_331.2.2.2.2 H0 H1 ∧ hWt T0 H1) ∧ (Ab_331_5 n5 n4 n3 n2 n1 n0 H0 H1 ∧ True) ∧ some q0 = some (mub_331_5 n5 n4 n3 n2 n1 n0 H0 H1)) (f11 : n1 < n0) (f12 : n6 = w32 (n1 + 1)) : n6 ≤ 2147483647 := by
  have g4 := f10.2.1.1
  unfold Ab_331_5 at g4
  have g5 := Option.some.inj f10.2.2
  unfold mub_331_5 at g5
  unfold w32 at *
  omega
theorem c_331_5_2 {q0 : Nat} : vOkm T0 (eP e_331 L_331 A_331 mu_331 (some q0)) 2 ([(10, [6, 4], [], 1), (42, [4, 5], [], 0), (5000, [0, 1, 2, 3, 4, 5], [0, 1], 5), (51, [0], [], 0), (90, [1], [], -2147483648), (91, [1], [], 2147483647), (51, [2], [], 0), (90, [3], [], -2147483648), (91, [3], [], 2147483647), (90, [4], [], 0), (91, [4], [], 2147483647), (90, [5], [], -2147483648), (91, [5], [], 2147483647)], (91, [6], [], 2147483647)) := vOk_in fun ρ η h => by
  obtain ⟨f0, f1, f2, f3, f4, f5, f6, f7, f8, f9, f10, f11, f12, _⟩ := h
  exact q_331_3 (q0 := q0) (n0 := ρ 5) (n1 := ρ 4) (n2 := ρ 3) (n3 := ρ 2) (n4 := ρ 1) (n5 := ρ 0) (n6 := ρ 6) (H0 := η 0) (H1 := η 1) f12 f11 f10 f9 f8 f7 f6 f5 f4 f3 f2 f1 f0
theorem q_331_4 {q0 : Nat} {n0 n1 n2 n3 n4 n5 n6 : Int} {H0 H1 H2 : gH} (f0 : n0 ≤ 2147483647) (f1 : (-2147483648) ≤ n0) (f2 : n1 ≤ 2147483647) (f3 : 0 ≤ n1) (f4 : n2 ≤ 2147483647) (f5 : (-2147483648) ≤ n2) (f6 : 0 ≤ n3) (f7 : n4 ≤ 2147483647) (f8 : (-2147483648) ≤ n4) (f9 : 0 ≤ n5) (f10 : (hLe T0 H0 H1 ∧ hFr s_331.2.2.2.2 H0 H1 ∧ hWt T0 H1) ∧ (Ab_331_5 n5 n4 n3 n2 n1 n0 H0 H1 ∧ True) ∧ some q0 = some (mub_331_5 n5 n4 n3 n2 n1 n0 H0 H1)) (f11 : n1 < n0) (f12 : hUpd H2 H1 n3 n1 n2) (f13 : n6 = w32 (n1 + 1)) : Ab_331_5 n5 n4 n3 n2 n6 n0 H0 H2 ∧ ∀ q, some q0 = some q → mub_331_5 n5 n4 n3 n2 n6 n0 H0 H2 < q := by
  have g5 := Option.some.inj f10.2.2
  have g6 := f10.2.1.1
  unfold Ab_331_5 mub_331_5 at *
  refine ⟨?_, fun q hq => ?_⟩
  · rw [(f12.2.2 _).2]
    exact g6
  · have g7 := Option.some.inj hq
    subst g7
    unfold w32 at *
    omega
theorem c_331_5_3 {q0 : Nat} : vOkm T0 (eP e_331 L_331 A_331 mu_331 (some q0)) 2 ([(10, [6, 4], [], 1), (80, [2, 4, 3], [2, 1], 0), (42, [4, 5], [], 0), (5000, [0, 1, 2, 3, 4, 5], [0, 1], 5), (51, [0], [], 0), (90, [1], [], -2147483648), (91, [1], [], 2147483647), (51, [2], [], 0), (90, [3], [], -2147483648), (91, [3], [], 2147483647), (90, [4], [], 0), (91, [4], [], 2147483647), (90, [5], [], -2147483648), (91, [5], [], 2147483647)], (4000, [2, 3, 6, 5], [2], 5)) := vOk_in fun ρ η h => by
  obtain ⟨f0, f1, f2, f3, f4, f5, f6, f7, f8, f9, f10, f11, f12, f13, _⟩ := h
  exact q_331_4 (q0 := q0) (n0 := ρ 5) (n1 := ρ 4) (n2 := ρ 3) (n3 := ρ 2) (n4 := ρ 1) (n5 := ρ 0) (n6 := ρ 6) (H0 := η 0) (H1 := η 1) (H2 := η 2) f13 f12 f11 f10 f9 f8 f7 f6 f5 f4 f3 f2 f1 f0
def p_331_5 : List vG := [([(42, [4, 5], [], 0), (5000, [0, 1, 2, 3, 4, 5], [0, 1], 5), (51, [0], [], 0), (90, [1], [], -2147483648), (91, [1], [], 2147483647), (51, [2], [], 0), (90, [3], [], -2147483648), (91, [3], [], 2147483647), (90, [4], [], 0), (91, [4], [], 2147483647), (90, [5], [], -2147483648), (91, [5], [], 2147483647)], (71, [4, 2], [1], 0)),
  ([(10, [6, 4], [], 1), (42, [4, 5], [], 0), (5000, [0, 1, 2, 3, 4, 5], [0, 1], 5), (51, [0], [], 0), (90, [1], [], -2147483648), (91, [1], [], 2147483647), (51, [2], [], 0), (90, [3], [], -2147483648), (91, [3], [], 2147483647), (90, [4], [], 0), (91, [4], [], 2147483647), (90, [5], [], -2147483648), (91, [5], [], 2147483647)], (90, [6], [], 0)),
  ([(10, [6, 4], [], 1), (42, [4, 5], [], 0), (5000, [0, 1, 2, 3, 4, 5], [0, 1], 5), (51, [0], [], 0), (90, [1], [], -2147483648), (91, [1], [], 2147483647), (51, [2], [], 0), (90, [3], [], -2147483648), (91, [3], [], 2147483647), (90, [4], [], 0), (91, [4], [], 2147483647), (90, [5], [], -2147483648), (91, [5], [], 2147483647)], (91, [6], [], 2147483647)),
  ([(10, [6, 4], [], 1), (80, [2, 4, 3], [2, 1], 0), (42, [4, 5], [], 0), (5000, [0, 1, 2, 3, 4, 5], [0, 1], 5), (51, [0], [], 0), (90, [1], [], -2147483648), (91, [1], [], 2147483647), (51, [2], [], 0), (90, [3], [], -2147483648), (91, [3], [], 2147483647), (90, [4], [], 0), (91, [4], [], 2147483647), (90, [5], [], -2147483648), (91, [5], [], 2147483647)], (4000, [2, 3, 6, 5], [2], 5))]
theorem r_331_5 : vCovO true (eRc e_331 L_331 cs_331 2000 (5, [(0, (3, 100, -1, 0)), (1, (0, -2147483648, 2147483647, 0)), (2, (0, 0, 2147483647, 0)), (3, (0, -2147483648, 2147483647, 0))])) p_331_5 = true := by decide +kernel
theorem m_331 (d : Nat) : eC e_331 (d + 1) := eC_ok (e := e_331) (L := L_331) (cs := cs_331) (n := 2000) (d := d + 0) (A := A_331) (μ := mu_331) (tp := true) (p0 := p_331_s) rfl trivial rfl (.inr pre0_ok) (by decide +kernel) (fun _ => post0_ok) r_331_s (allC c_331_s_0 allN) (allC (.inl ⟨p_331_5, r_331_5, fun q0 => (allC c_331_5_0 (allC c_331_5_1 (allC c_331_5_2 (allC c_331_5_3 allN))))⟩) allN)
/- MixStage.clear ([II)V -/
noncomputable def s_203 : vM := ([(2, 100, -1, 0), (0, -2147483648, 2147483647, 0)], (9, 0, 0, 0), 0, 0, [(100, 0)])
noncomputable def e_203 : vE := (203, s_203, pre0, post0)
noncomputable def L_203 : List vE := [e_331]
def cs_203 : List vC := []
def A_203 : Int → List Int → gH → gH → Prop := fun c xs h0 h => True
def mu_203 : Int → List Int → gH → gH → Nat := fun c xs h0 h => 0
def p_203_s : List vG := []
theorem r_203_s : vCovO true (eR0 e_203 L_203 cs_203 2000) p_203_s = true := by decide +kernel
theorem m_203 (d : Nat) : eC e_203 (d + 2) := eC_ok (e := e_203) (L := L_203) (cs := cs_203) (n := 2000) (d := d + 1) (A := A_203) (μ := mu_203) (tp := true) (p0 := p_203_s) rfl ⟨m_331 d, trivial⟩ rfl (.inr pre0_ok) (by decide +kernel) (fun _ => post0_ok) r_203_s allN allN
/- Bank.findLeaning ()V -/
noncomputable def s_12 : vM := ([(3, 0, 23, 0)], (9, 0, 0, 0), 0, 0, [(100, 0)])
noncomputable def e_12 : vE := (12, s_12, pre0, post0)
noncomputable def L_12 : List vE := [e_2, e_10, e_11, e_199, e_201, e_203]
def cs_12 : List vC := [(12, [(0, (3, 0, 23, 0)), (1, (0, -2147483648, 2147483647, 0)), (2, (0, -2147483648, 2147483647, 0))]), (26, [(0, (3, 0, 23, 0)), (1, (0, -2147483648, 2147483647, 0)), (2, (0, -2147483648, 2147483646, 0)), (3, (0, -2147483648, 2147483647, 0))])]
def mub_12_12 (a0 x0 x1 x2 : Int) (h0 h : gH) : Nat := (8589934592 + (2147483648 - x2).toNat) * 1099511627776 + 1099511627775
def mub_12_26 (a0 x0 x1 x2 x3 : Int) (h0 h : gH) : Nat := (8589934592 + (2147483648 - x2).toNat) * 1099511627776 + (8589934592 + (2147483648 - x3).toNat) * 1
def A_12 : Int → List Int → gH → gH → Prop := fun c xs h0 h => True
def mu_12 : Int → List Int → gH → gH → Nat := fun c xs h0 h => match c.toNat with
  | 12 => (match xs with
    | [a0, x0, x1, x2] => mub_12_12 a0 x0 x1 x2 h0 h
    | _ => 0)
  | 26 => (match xs with
    | [a0, x0, x1, x2, x3] => mub_12_26 a0 x0 x1 x2 x3 h0 h
    | _ => 0)
  | _ => 0
theorem q_12_0 {n0 n1 n2 : Int} {H0 H1 : gH}  : True ∧ ∀ q, none = some q → mub_12_12 n0 n0 n1 n2 H0 H1 < q := by
  exact ⟨trivial, fun q hq => nomatch hq⟩
theorem c_12_s_0 : vOkm T0 (eP e_12 L_12 A_12 mu_12 none) 1 ([], (4000, [0, 3, 4], [1], 12)) := vOk_in fun ρ η h => by
  obtain ⟨_⟩ := h
  exact q_12_0 (n0 := ρ 0) (n1 := ρ 3) (n2 := ρ 4) (H0 := η 0) (H1 := η 1) 
def p_12_s : List vG := [([], (4000, [0, 3, 4], [1], 12))]
theorem r_12_s : vCovO true (eR0 e_12 L_12 cs_12 2000) p_12_s = true := by decide +kernel
theorem q_12_1 {q0 : Nat} {n0 n1 : Int} {H0 : gH} (f0 : n0 ≤ 2147483647) (f1 : (-2147483648) ≤ n0) (f2 : n1 = 20) (f3 : n0 ≤ n1) : n0 ≤ 2147483646 := by
  omega
theorem c_12_12_0 {q0 : Nat} : vOkm T0 (eP e_12 L_12 A_12 mu_12 (some q0)) 1 ([(45, [3, 4], [], 0), (0, [4], [], 20), (90, [3], [], -2147483648), (91, [3], [], 2147483647)], (91, [3], [], 2147483646)) := vOk_in fun ρ η h => by
  obtain ⟨f0, f1, f2, f3, _⟩ := h
  exact q_12_1 (q0 := q0) (n0 := ρ 3) (n1 := ρ 4) (H0 := η 0) f3 f2 f1 f0
theorem q_12_2 {q0 : Nat} {n0 n1 n2 n3 n4 n5 n6 : Int} {H0 H1 : gH} (f0 : n0 ≤ 2147483647) (f1 : (-2147483648) ≤ n0) (f2 : (hLe T0 H0 H1 ∧ hFr s_12.2.2.2.2 H0 H1 ∧ hWt T0 H1) ∧ (True ∧ True) ∧ some q0 = some (mub_12_12 n1 n2 n3 n0 H0 H1)) (f3 : n4 = 20) (f4 : n0 ≤ n4) (f5 : n5 = 0) : True ∧ ∀ q, some q0 = some q → mub_12_26 n1 n2 n6 n0 n5 H0 H1 < q := by
  have g5 := Option.some.inj f2.2.2
  unfold mub_12_12 at g5
  unfold mub_12_26
  refine ⟨?_, fun q hq => ?_⟩
  · trivial
  · have g6 := Option.some.inj hq
    subst g6
    omega
theorem c_12_12_1 {q0 : Nat} : vOkm T0 (eP e_12 L_12 A_12 mu_12 (some q0)) 1 ([(0, [6], [], 0), (45, [3, 4], [], 0), (0, [4], [], 20), (5000, [0, 1, 2, 3], [0, 1], 12), (90, [3], [], -2147483648), (91, [3], [], 2147483647)], (4000, [1, 5, 3, 6], [1], 26)) := vOk_in fun ρ η h => by
  obtain ⟨f0, f1, f2, f3, f4, f5, _⟩ := h
  exact q_12_2 (q0 := q0) (n0 := ρ 3) (n1 := ρ 0) (n2 := ρ 1) (n3 := ρ 2) (n4 := ρ 4) (n5 := ρ 6) (n6 := ρ 5) (H0 := η 0) (H1 := η 1) f5 f4 f3 f2 f1 f0
def p_12_12 : List vG := [([(45, [3, 4], [], 0), (0, [4], [], 20), (90, [3], [], -2147483648), (91, [3], [], 2147483647)], (91, [3], [], 2147483646)),
  ([(0, [6], [], 0), (45, [3, 4], [], 0), (0, [4], [], 20), (5000, [0, 1, 2, 3], [0, 1], 12), (90, [3], [], -2147483648), (91, [3], [], 2147483647)], (4000, [1, 5, 3, 6], [1], 26))]
theorem r_12_12 : vCovO true (eRc e_12 L_12 cs_12 2000 (12, [(0, (3, 0, 23, 0)), (1, (0, -2147483648, 2147483647, 0)), (2, (0, -2147483648, 2147483647, 0))])) p_12_12 = true := by decide +kernel
theorem q_12_3 {q0 : Nat} {n0 n1 n2 n3 n4 n5 n6 : Int} {H0 H1 : gH} (f0 : n0 ≤ 2147483647) (f1 : (-2147483648) ≤ n0) (f2 : n1 ≤ 2147483646) (f3 : (-2147483648) ≤ n1) (f4 : (hLe T0 H0 H1 ∧ hFr s_12.2.2.2.2 H0 H1 ∧ hWt T0 H1) ∧ (True ∧ True) ∧ some q0 = some (mub_12_26 n2 n3 n4 n1 n0 H0 H1)) (f5 : n5 ≤ 20) (f6 : 0 ≤ n5) (f7 : n5 ≤ n0) (f8 : n6 = w32 (n1 + 1)) : True ∧ ∀ q, some q0 = some q → mub_12_12 n2 n3 n4 n6 H0 H1 < q := by
  have g5 := Option.some.inj f4.2.2
  unfold mub_12_26 at g5
  unfold mub_12_12
  unfold w32 at *
  refine ⟨?_, fun q hq => ?_⟩
  · trivial
  · have g6 := Option.some.inj hq
    subst g6
    omega
theorem c_12_26_0 {q0 : Nat} : vOkm T0 (eP e_12 L_12 A_12 mu_12 (some q0)) 1 ([(10, [6, 3], [], 1), (43, [4, 5], [], 0), (90, [5], [], 0), (91, [5], [], 20), (5000, [0, 1, 2, 3, 4], [0, 1], 26), (90, [3], [], -2147483648), (91, [3], [], 2147483646), (90, [4], [], -2147483648), (91, [4], [], 2147483647)], (4000, [1, 2, 6], [1], 12)) := vOk_in fun ρ η h => by
  obtain ⟨f0, f1, f2, f3, f4, f5, f6, f7, f8, _⟩ := h
  exact q_12_3 (q0 := q0) (n0 := ρ 4) (n1 := ρ 3) (n2 := ρ 0) (n3 := ρ 1) (n4 := ρ 2) (n5 := ρ 5) (n6 := ρ 6) (H0 := η 0) (H1 := η 1) f8 f7 f6 f5 f4 f3 f2 f1 f0
theorem q_12_4 {q0 : Nat} {n0 n1 n2 n3 n4 n5 n6 n7 : Int} {H0 H1 H2 : gH} (f0 : n0 ≤ 2147483647) (f1 : (-2147483648) ≤ n0) (f2 : n1 ≤ 2147483646) (f3 : (-2147483648) ≤ n1) (f4 : (hLe T0 H0 H1 ∧ hFr s_12.2.2.2.2 H0 H1 ∧ hWt T0 H1) ∧ (True ∧ True) ∧ some q0 = some (mub_12_26 n2 n3 n4 n1 n0 H0 H1)) (f5 : n5 ≤ 20) (f6 : 0 ≤ n5) (f7 : n0 < n5) (f8 : n6 = w32 (n0 + 1)) : True ∧ ∀ q, some q0 = some q → mub_12_26 n2 n3 n7 n1 n6 H0 H2 < q := by
  have g5 := Option.some.inj f4.2.2
  unfold mub_12_26 at g5
  unfold mub_12_26
  unfold w32 at *
  refine ⟨?_, fun q hq => ?_⟩
  · trivial
  · have g6 := Option.some.inj hq
    subst g6
    omega
theorem c_12_26_1 {q0 : Nat} : vOkm T0 (eP e_12 L_12 A_12 mu_12 (some q0)) 1 ([(10, [16, 4], [], 1), (42, [4, 5], [], 0), (90, [5], [], 0), (91, [5], [], 20), (5000, [0, 1, 2, 3, 4], [0, 1], 26), (90, [3], [], -2147483648), (91, [3], [], 2147483646), (90, [4], [], -2147483648), (91, [4], [], 2147483647)], (4000, [1, 14, 3, 16], [6], 26)) := vOk_in fun ρ η h => by
  obtain ⟨f0, f1, f2, f3, f4, f5, f6, f7, f8, _⟩ := h
  exact q_12_4 (q0 := q0) (n0 := ρ 4) (n1 := ρ 3) (n2 := ρ 0) (n3 := ρ 1) (n4 := ρ 2) (n5 := ρ 5) (n6 := ρ 16) (n7 := ρ 14) (H0 := η 0) (H1 := η 1) (H2 := η 6) f8 f7 f6 f5 f4 f3 f2 f1 f0
theorem c_12_26_2 {q0 : Nat} : vOkm T0 (eP e_12 L_12 A_12 mu_12 (some q0)) 1 ([(10, [16, 4], [], 1), (42, [4, 5], [], 0), (90, [5], [], 0), (91, [5], [], 20), (5000, [0, 1, 2, 3, 4], [0, 1], 26), (90, [3], [], -2147483648), (91, [3], [], 2147483646), (90, [4], [], -2147483648), (91, [4], [], 2147483647)], (4000, [1, 14, 3, 16], [6], 26)) := vOk_in fun ρ η h => by
  obtain ⟨f0, f1, f2, f3, f4, f5, f6, f7, f8, _⟩ := h
  exact q_12_4 (q0 := q0) (n0 := ρ 4) (n1 := ρ 3) (n2 := ρ 0) (n3 := ρ 1) (n4 := ρ 2) (n5 := ρ 5) (n6 := ρ 16) (n7 := ρ 14) (H0 := η 0) (H1 := η 1) (H2 := η 6) f8 f7 f6 f5 f4 f3 f2 f1 f0
def p_12_26 : List vG := [([(10, [6, 3], [], 1), (43, [4, 5], [], 0), (90, [5], [], 0), (91, [5], [], 20), (5000, [0, 1, 2, 3, 4], [0, 1], 26), (90, [3], [], -2147483648), (91, [3], [], 2147483646), (90, [4], [], -2147483648), (91, [4], [], 2147483647)], (4000, [1, 2, 6], [1], 12)),
  ([(10, [16, 4], [], 1), (42, [4, 5], [], 0), (90, [5], [], 0), (91, [5], [], 20), (5000, [0, 1, 2, 3, 4], [0, 1], 26), (90, [3], [], -2147483648), (91, [3], [], 2147483646), (90, [4], [], -2147483648), (91, [4], [], 2147483647)], (4000, [1, 14, 3, 16], [6], 26)),
  ([(10, [16, 4], [], 1), (42, [4, 5], [], 0), (90, [5], [], 0), (91, [5], [], 20), (5000, [0, 1, 2, 3, 4], [0, 1], 26), (90, [3], [], -2147483648), (91, [3], [], 2147483646), (90, [4], [], -2147483648), (91, [4], [], 2147483647)], (4000, [1, 14, 3, 16], [6], 26))]
theorem r_12_26 : vCovO true (eRc e_12 L_12 cs_12 2000 (26, [(0, (3, 0, 23, 0)), (1, (0, -2147483648, 2147483647, 0)), (2, (0, -2147483648, 2147483646, 0)), (3, (0, -2147483648, 2147483647, 0))])) p_12_26 = true := by decide +kernel
theorem m_12 (d : Nat) : eC e_12 (d + 3) := eC_ok (e := e_12) (L := L_12) (cs := cs_12) (n := 2000) (d := d + 2) (A := A_12) (μ := mu_12) (tp := true) (p0 := p_12_s) rfl ⟨m_2 (d + 1), ⟨m_10 (d + 1), ⟨m_11 d, ⟨m_199 (d + 1), ⟨m_201 (d + 1), ⟨m_203 d, trivial⟩⟩⟩⟩⟩⟩ rfl (.inr pre0_ok) (by decide +kernel) (fun _ => post0_ok) r_12_s (allC c_12_s_0 allN) (allC (.inl ⟨p_12_12, r_12_12, fun q0 => (allC c_12_12_0 (allC c_12_12_1 allN))⟩) (allC (.inl ⟨p_12_26, r_12_26, fun q0 => (allC c_12_26_0 (allC c_12_26_1 (allC c_12_26_2 allN)))⟩) allN))
/- Bank.leansOf (I)I -/
noncomputable def s_13 : vM := ([(3, 0, 23, 0), (0, -2147483648, 2147483647, 0)], (0, -2147483648, 2147483647, 0), 0, 0, [(100, 0)])
noncomputable def e_13 : vE := (13, s_13, pre0, post0)
noncomputable def L_13 : List vE := [e_12, e_199]
def cs_13 : List vC := []
def A_13 : Int → List Int → gH → gH → Prop := fun c xs h0 h => True
def mu_13 : Int → List Int → gH → gH → Nat := fun c xs h0 h => 0
def p_13_s : List vG := []
theorem r_13_s : vCovO true (eR0 e_13 L_13 cs_13 2000) p_13_s = true := by decide +kernel
theorem m_13 (d : Nat) : eC e_13 (d + 4) := eC_ok (e := e_13) (L := L_13) (cs := cs_13) (n := 2000) (d := d + 3) (A := A_13) (μ := mu_13) (tp := true) (p0 := p_13_s) rfl ⟨m_12 d, ⟨m_199 (d + 2), trivial⟩⟩ rfl (.inr pre0_ok) (by decide +kernel) (fun _ => post0_ok) r_13_s allN allN
/- Bank.mayLay (LMixStage$Sheet;I)Z -/
noncomputable def s_14 : vM := ([(3, 0, 23, 0), (3, 6, -1, 0), (0, -2147483648, 2147483647, 0)], (0, 0, 1, 0), 0, 0, [(100, 0)])
noncomputable def e_14 : vE := (14, s_14, pre0, post0)
noncomputable def L_14 : List vE := [e_11, e_12]
def cs_14 : List vC := []
def A_14 : Int → List Int → gH → gH → Prop := fun c xs h0 h => True
def mu_14 : Int → List Int → gH → gH → Nat := fun c xs h0 h => 0
def p_14_s : List vG := []
theorem r_14_s : vCovO true (eR0 e_14 L_14 cs_14 2000) p_14_s = true := by decide +kernel
theorem m_14 (d : Nat) : eC e_14 (d + 4) := eC_ok (e := e_14) (L := L_14) (cs := cs_14) (n := 2000) (d := d + 3) (A := A_14) (μ := mu_14) (tp := true) (p0 := p_14_s) rfl ⟨m_11 (d + 1), ⟨m_12 d, trivial⟩⟩ rfl (.inr pre0_ok) (by decide +kernel) (fun _ => post0_ok) r_14_s allN allN
/- Bank.isBehind (LMixStage$Sound;LMixStage$Sheet;I)Z -/
noncomputable def s_15 : vM := ([(3, 0, 23, 0), (3, 7, -1, 0), (3, 6, -1, 0), (0, -2147483648, 2147483647, 0)], (0, 0, 1, 0), 0, 0, [])
noncomputable def e_15 : vE := (15, s_15, pre0, post0)
noncomputable def L_15 : List vE := [e_2, e_199]
def cs_15 : List vC := [(3, [(0, (3, 0, 23, 0)), (1, (3, 7, -1, 0)), (2, (3, 6, -1, 0)), (3, (0, -2147483648, 2147483647, 0)), (4, (0, -2147483648, 2147483647, 0))]), (57, [(0, (3, 0, 23, 0)), (1, (3, 7, -1, 0)), (2, (3, 6, -1, 0)), (3, (0, -2147483648, 2147483647, 0)), (4, (0, -2147483648, 2147483647, 0))])]
def mub_15_3 (a0 a1 a2 a3 x0 x1 x2 x3 x4 : Int) (h0 h : gH) : Nat := (17179869184 + (2147483648 - x4).toNat) * 1
def mub_15_57 (a0 a1 a2 a3 x0 x1 x2 x3 x4 : Int) (h0 h : gH) : Nat := (8589934592 + (2147483648 - x4).toNat) * 1
def A_15 : Int → List Int → gH → gH → Prop := fun c xs h0 h => True
def mu_15 : Int → List Int → gH → gH → Nat := fun c xs h0 h => match c.toNat with
  | 3 => (match xs with
    | [a0, a1, a2, a3, x0, x1, x2, x3, x4] => mub_15_3 a0 a1 a2 a3 x0 x1 x2 x3 x4 h0 h
    | _ => 0)
  | 57 => (match xs with
    | [a0, a1, a2, a3, x0, x1, x2, x3, x4] => mub_15_57 a0 a1 a2 a3 x0 x1 x2 x3 x4 h0 h
    | _ => 0)
  | _ => 0
theorem q_15_0 {n0 n1 n2 n3 n4 : Int} {H0 : gH}  : True ∧ ∀ q, none = some q → mub_15_3 n0 n1 n2 n3 n0 n1 n2 n3 n4 H0 H0 < q := by
  exact ⟨trivial, fun q hq => nomatch hq⟩
theorem c_15_s_0 : vOkm T0 (eP e_15 L_15 A_15 mu_15 none) 4 ([], (4000, [0, 1, 2, 3, 4], [0], 3)) := vOk_in fun ρ η h => by
  obtain ⟨_⟩ := h
  exact q_15_0 (n0 := ρ 0) (n1 := ρ 1) (n2 := ρ 2) (n3 := ρ 3) (n4 := ρ 4) (H0 := η 0) 
def p_15_s : List vG := [([], (4000, [0, 1, 2, 3, 4], [0], 3))]
theorem r_15_s : vCovO true (eR0 e_15 L_15 cs_15 2000) p_15_s = true := by decide +kernel
theorem q_15_1 {q0 : Nat} {n0 n1 n2 n3 n4 n5 n6 n7 n8 n9 n10 : Int} {H0 H1 : gH} (f0 : n0 ≤ 2147483647) (f1 : (-2147483648) ≤ n0) (f2 : (hLe T0 H0 H1 ∧ hFr s_15.2.2.2.2 H0 H1 ∧ hWt T0 H1) ∧ (True ∧ True) ∧ some q0 = some (mub_15_3 n1 n2 n3 n4 n5 n6 n7 n8 n0 H0 H1)) (f3 : n9 ≤ 20) (f4 : 0 ≤ n9) (f5 : n9 ≤ n0) (f6 : n10 = 0) : True ∧ ∀ q, some q0 = some q → mub_15_57 n1 n2 n3 n4 n5 n6 n7 n8 n10 H0 H1 < q := by
  have g5 := Option.some.inj f2.2.2
  unfold mub_15_3 at g5
  unfold mub_15_57
  refine ⟨?_, fun q hq => ?_⟩
  · trivial
  · have g6 := Option.some.inj hq
    subst g6
    omega
theorem c_15_3_0 {q0 : Nat} : vOkm T0 (eP e_15 L_15 A_15 mu_15 (some q0)) 4 ([(0, [10], [], 0), (43, [8, 9], [], 0), (90, [9], [], 0), (91, [9], [], 20), (5000, [0, 1, 2, 3, 4, 5, 6, 7, 8], [0, 1], 3), (90, [8], [], -2147483648), (91, [8], [], 2147483647)], (4000, [4, 5, 6, 7, 10], [1], 57)) := vOk_in fun ρ η h => by
  obtain ⟨f0, f1, f2, f3, f4, f5, f6, _⟩ := h
  exact q_15_1 (q0 := q0) (n0 := ρ 8) (n1 := ρ 0) (n2 := ρ 1) (n3 := ρ 2) (n4 := ρ 3) (n5 := ρ 4) (n6 := ρ 5) (n7 := ρ 6) (n8 := ρ 7) (n9 := ρ 9) (n10 := ρ 10) (H0 := η 0) (H1 := η 1) f6 f5 f4 f3 f2 f1 f0
theorem q_15_2 {q0 : Nat} {n0 n1 n2 n3 n4 n5 n6 n7 n8 n9 n10 : Int} {H0 H1 H2 : gH} (f0 : n0 ≤ 2147483647) (f1 : (-2147483648) ≤ n0) (f2 : (hLe T0 H0 H1 ∧ hFr s_15.2.2.2.2 H0 H1 ∧ hWt T0 H1) ∧ (True ∧ True) ∧ some q0 = some (mub_15_3 n1 n2 n3 n4 n5 n6 n7 n8 n0 H0 H1)) (f3 : n9 ≤ 20) (f4 : 0 ≤ n9) (f5 : n0 < n9) (f6 : n10 = w32 (n0 + 1)) : True ∧ ∀ q, some q0 = some q → mub_15_3 n1 n2 n3 n4 n5 n6 n7 n8 n10 H0 H2 < q := by
  have g5 := Option.some.inj f2.2.2
  unfold mub_15_3 at g5
  unfold mub_15_3
  unfold w32 at *
  refine ⟨?_, fun q hq => ?_⟩
  · trivial
  · have g6 := Option.some.inj hq
    subst g6
    omega
theorem c_15_3_1 {q0 : Nat} : vOkm T0 (eP e_15 L_15 A_15 mu_15 (some q0)) 4 ([(10, [14, 8], [], 1), (42, [8, 9], [], 0), (90, [9], [], 0), (91, [9], [], 20), (5000, [0, 1, 2, 3, 4, 5, 6, 7, 8], [0, 1], 3), (90, [8], [], -2147483648), (91, [8], [], 2147483647)], (4000, [4, 5, 6, 7, 14], [2], 3)) := vOk_in fun ρ η h => by
  obtain ⟨f0, f1, f2, f3, f4, f5, f6, _⟩ := h
  exact q_15_2 (q0 := q0) (n0 := ρ 8) (n1 := ρ 0) (n2 := ρ 1) (n3 := ρ 2) (n4 := ρ 3) (n5 := ρ 4) (n6 := ρ 5) (n7 := ρ 6) (n8 := ρ 7) (n9 := ρ 9) (n10 := ρ 14) (H0 := η 0) (H1 := η 1) (H2 := η 2) f6 f5 f4 f3 f2 f1 f0
theorem c_15_3_2 {q0 : Nat} : vOkm T0 (eP e_15 L_15 A_15 mu_15 (some q0)) 4 ([(10, [14, 8], [], 1), (42, [8, 9], [], 0), (90, [9], [], 0), (91, [9], [], 20), (5000, [0, 1, 2, 3, 4, 5, 6, 7, 8], [0, 1], 3), (90, [8], [], -2147483648), (91, [8], [], 2147483647)], (4000, [4, 5, 6, 7, 14], [2], 3)) := vOk_in fun ρ η h => by
  obtain ⟨f0, f1, f2, f3, f4, f5, f6, _⟩ := h
  exact q_15_2 (q0 := q0) (n0 := ρ 8) (n1 := ρ 0) (n2 := ρ 1) (n3 := ρ 2) (n4 := ρ 3) (n5 := ρ 4) (n6 := ρ 5) (n7 := ρ 6) (n8 := ρ 7) (n9 := ρ 9) (n10 := ρ 14) (H0 := η 0) (H1 := η 1) (H2 := η 2) f6 f5 f4 f3 f2 f1 f0
theorem c_15_3_3 {q0 : Nat} : vOkm T0 (eP e_15 L_15 A_15 mu_15 (some q0)) 4 ([(10, [16, 8], [], 1), (42, [8, 9], [], 0), (90, [9], [], 0), (91, [9], [], 20), (5000, [0, 1, 2, 3, 4, 5, 6, 7, 8], [0, 1], 3), (90, [8], [], -2147483648), (91, [8], [], 2147483647)], (4000, [4, 5, 6, 7, 16], [2], 3)) := vOk_in fun ρ η h => by
  obtain ⟨f0, f1, f2, f3, f4, f5, f6, _⟩ := h
  exact q_15_2 (q0 := q0) (n0 := ρ 8) (n1 := ρ 0) (n2 := ρ 1) (n3 := ρ 2) (n4 := ρ 3) (n5 := ρ 4) (n6 := ρ 5) (n7 := ρ 6) (n8 := ρ 7) (n9 := ρ 9) (n10 := ρ 16) (H0 := η 0) (H1 := η 1) (H2 := η 2) f6 f5 f4 f3 f2 f1 f0
def p_15_3 : List vG := [([(0, [10], [], 0), (43, [8, 9], [], 0), (90, [9], [], 0), (91, [9], [], 20), (5000, [0, 1, 2, 3, 4, 5, 6, 7, 8], [0, 1], 3), (90, [8], [], -2147483648), (91, [8], [], 2147483647)], (4000, [4, 5, 6, 7, 10], [1], 57)),
  ([(10, [14, 8], [], 1), (42, [8, 9], [], 0), (90, [9], [], 0), (91, [9], [], 20), (5000, [0, 1, 2, 3, 4, 5, 6, 7, 8], [0, 1], 3), (90, [8], [], -2147483648), (91, [8], [], 2147483647)], (4000, [4, 5, 6, 7, 14], [2], 3)),
  ([(10, [14, 8], [], 1), (42, [8, 9], [], 0), (90, [9], [], 0), (91, [9], [], 20), (5000, [0, 1, 2, 3, 4, 5, 6, 7, 8], [0, 1], 3), (90, [8], [], -2147483648), (91, [8], [], 2147483647)], (4000, [4, 5, 6, 7, 14], [2], 3)),
  ([(10, [16, 8], [], 1), (42, [8, 9], [], 0), (90, [9], [], 0), (91, [9], [], 20), (5000, [0, 1, 2, 3, 4, 5, 6, 7, 8], [0, 1], 3), (90, [8], [], -2147483648), (91, [8], [], 2147483647)], (4000, [4, 5, 6, 7, 16], [2], 3))]
theorem r_15_3 : vCovO true (eRc e_15 L_15 cs_15 2000 (3, [(0, (3, 0, 23, 0)), (1, (3, 7, -1, 0)), (2, (3, 6, -1, 0)), (3, (0, -2147483648, 2147483647, 0)), (4, (0, -2147483648, 2147483647, 0))])) p_15_3 = true := by decide +kernel
theorem q_15_3 {q0 : Nat} {n0 n1 n2 n3 n4 n5 n6 n7 n8 n9 n10 : Int} {H0 H1 : gH} (f0 : n0 ≤ 2147483647) (f1 : (-2147483648) ≤ n0) (f2 : (hLe T0 H0 H1 ∧ hFr s_15.2.2.2.2 H0 H1 ∧ hWt T0 H1) ∧ (True ∧ True) ∧ some q0 = some (mub_15_57 n1 n2 n3 n4 n5 n6 n7 n8 n0 H0 H1)) (f3 : n9 = 8) (f4 : n0 < n9) (f5 : n10 = w32 (n0 + 1)) : True ∧ ∀ q, some q0 = some q → mub_15_57 n1 n2 n3 n4 n5 n6 n7 n8 n10 H0 H1 < q := by
  have g5 := Option.some.inj f2.2.2
  unfold mub_15_57 at g5
  unfold mub_15_57
  unfold w32 at *
  refine ⟨?_, fun q hq => ?_⟩
  · trivial
  · have g6 := Option.some.inj hq
    subst g6
    omega
theorem c_15_57_0 {q0 : Nat} : vOkm T0 (eP e_15 L_15 A_15 mu_15 (some q0)) 4 ([(10, [14, 8], [], 1), (42, [8, 9], [], 0), (0, [9], [], 8), (5000, [0, 1, 2, 3, 4, 5, 6, 7, 8], [0, 1], 57), (90, [8], [], -2147483648), (91, [8], [], 2147483647)], (4000, [4, 5, 6, 7, 14], [1], 57)) := vOk_in fun ρ η h => by
  obtain ⟨f0, f1, f2, f3, f4, f5, _⟩ := h
  exact q_15_3 (q0 := q0) (n0 := ρ 8) (n1 := ρ 0) (n2 := ρ 1) (n3 := ρ 2) (n4 := ρ 3) (n5 := ρ 4) (n6 := ρ 5) (n7 := ρ 6) (n8 := ρ 7) (n9 := ρ 9) (n10 := ρ 14) (H0 := η 0) (H1 := η 1) f5 f4 f3 f2 f1 f0
theorem q_15_4 {q0 : Nat} {n0 n1 n2 n3 n4 n5 n6 n7 n8 n9 n10 : Int} {H0 H1 H2 : gH} (f0 : n0 ≤ 2147483647) (f1 : (-2147483648) ≤ n0) (f2 : (hLe T0 H0 H1 ∧ hFr s_15.2.2.2.2 H0 H1 ∧ hWt T0 H1) ∧ (True ∧ True) ∧ some q0 = some (mub_15_57 n1 n2 n3 n4 n5 n6 n7 n8 n0 H0 H1)) (f3 : n9 = 8) (f4 : n0 < n9) (f5 : n10 = w32 (n0 + 1)) : True ∧ ∀ q, some q0 = some q → mub_15_57 n1 n2 n3 n4 n5 n6 n7 n8 n10 H0 H2 < q := by
  have g5 := Option.some.inj f2.2.2
  unfold mub_15_57 at g5
  unfold mub_15_57
  unfold w32 at *
  refine ⟨?_, fun q hq => ?_⟩
  · trivial
  · have g6 := Option.some.inj hq
    subst g6
    omega
theorem c_15_57_1 {q0 : Nat} : vOkm T0 (eP e_15 L_15 A_15 mu_15 (some q0)) 4 ([(10, [17, 8], [], 1), (42, [8, 9], [], 0), (0, [9], [], 8), (5000, [0, 1, 2, 3, 4, 5, 6, 7, 8], [0, 1], 57), (90, [8], [], -2147483648), (91, [8], [], 2147483647)], (4000, [4, 5, 6, 7, 17], [2], 57)) := vOk_in fun ρ η h => by
  obtain ⟨f0, f1, f2, f3, f4, f5, _⟩ := h
  exact q_15_4 (q0 := q0) (n0 := ρ 8) (n1 := ρ 0) (n2 := ρ 1) (n3 := ρ 2) (n4 := ρ 3) (n5 := ρ 4) (n6 := ρ 5) (n7 := ρ 6) (n8 := ρ 7) (n9 := ρ 9) (n10 := ρ 17) (H0 := η 0) (H1 := η 1) (H2 := η 2) f5 f4 f3 f2 f1 f0
def p_15_57 : List vG := [([(10, [14, 8], [], 1), (42, [8, 9], [], 0), (0, [9], [], 8), (5000, [0, 1, 2, 3, 4, 5, 6, 7, 8], [0, 1], 57), (90, [8], [], -2147483648), (91, [8], [], 2147483647)], (4000, [4, 5, 6, 7, 14], [1], 57)),
  ([(10, [17, 8], [], 1), (42, [8, 9], [], 0), (0, [9], [], 8), (5000, [0, 1, 2, 3, 4, 5, 6, 7, 8], [0, 1], 57), (90, [8], [], -2147483648), (91, [8], [], 2147483647)], (4000, [4, 5, 6, 7, 17], [2], 57))]
theorem r_15_57 : vCovO true (eRc e_15 L_15 cs_15 2000 (57, [(0, (3, 0, 23, 0)), (1, (3, 7, -1, 0)), (2, (3, 6, -1, 0)), (3, (0, -2147483648, 2147483647, 0)), (4, (0, -2147483648, 2147483647, 0))])) p_15_57 = true := by decide +kernel
theorem m_15 (d : Nat) : eC e_15 (d + 2) := eC_ok (e := e_15) (L := L_15) (cs := cs_15) (n := 2000) (d := d + 1) (A := A_15) (μ := mu_15) (tp := true) (p0 := p_15_s) rfl ⟨m_2 d, ⟨m_199 d, trivial⟩⟩ rfl (.inr pre0_ok) (by decide +kernel) (fun _ => post0_ok) r_15_s (allC c_15_s_0 allN) (allC (.inl ⟨p_15_3, r_15_3, fun q0 => (allC c_15_3_0 (allC c_15_3_1 (allC c_15_3_2 (allC c_15_3_3 allN))))⟩) (allC (.inl ⟨p_15_57, r_15_57, fun q0 => (allC c_15_57_0 (allC c_15_57_1 allN))⟩) allN))
/- Bank.isNewlyStale (II)Z -/
noncomputable def s_16 : vM := ([(3, 0, 23, 0), (0, -2147483648, 2147483647, 0), (0, -2147483648, 2147483647, 0)], (0, 0, 1, 0), 0, 0, [])
noncomputable def e_16 : vE := (16, s_16, pre0, post0)
noncomputable def L_16 : List vE := [e_2, e_15, e_199]
def cs_16 : List vC := []
def A_16 : Int → List Int → gH → gH → Prop := fun c xs h0 h => True
def mu_16 : Int → List Int → gH → gH → Nat := fun c xs h0 h => 0
theorem q_16_0 {n0 n1 n2 n3 n4 n5 n6 n7 n8 : Int} {H0 H1 H2 : gH} (f0 : n0 ≤ 2147483647) (f1 : (-2147483648) ≤ n0) (f2 : n1 ≤ 2147483647) (f3 : (-2147483648) ≤ n1) (f4 : n2 = 23) (f5 : hWt T0 H0 ∧ True) (f6 : (hLe T0 H0 H1 ∧ hFr s_2.2.2.2.2 H0 H1 ∧ ((0 : Int) = 0 → H1.length = H0.length) ∧ hWt T0 H1) ∧ True) (f7 : 0 ≤ n3) (f8 : hK H1 (n3).toNat = 7) (f9 : n4 = hV H1 (n3).toNat 10) (f10 : 0 ≤ n4) (f11 : n5 = 28) (f12 : n5 = hV H1 (n2).toNat 6) (f13 : n6 ≤ 2147483647) (f14 : (-2147483648) ≤ n6) (f15 : (hLe T0 H1 H2 ∧ hFr s_199.2.2.2.2 H1 H2 ∧ ((0 : Int) = 0 → H2.length = H1.length) ∧ hWt T0 H2) ∧ True) (f16 : n7 = o32 (fun x y => x &&& y) n6 n0) (f17 : n7 = 0) (f18 : hK H2 (n3).toNat = 7) (f19 : n8 = hV H2 (n3).toNat 10) : 0 ≤ n8 := by
  have e0 : n4 = hV H1 (n3).toNat 10 := f9
  have e1 : hV H1 23 6 = hV H0 23 6 := f6.1.2.1.1 23 6 (by decide +kernel)
  have e2 : hV H2 (n3).toNat 10 = hV H1 (n3).toNat 10 := f15.1.2.1.2.2 _ _ f8 rfl 10 (by decide +kernel)
  have e3 : n8 = hV H1 (n3).toNat 10 := f19.trans (e2)
  omega
theorem c_16_s_0 : vOkm T0 (eP e_16 L_16 A_16 mu_16 none) 3 ([(20, [11, 3], [2], 10), (23, [3], [2], 7), (30, [10], [], 0), (4, [10, 9, 2], [], 0), (1199, [9, 8, 1], [1, 2], 0), (90, [9], [], -2147483648), (91, [9], [], 2147483647), (20, [8, 0], [1], 6), (0, [8], [], 28), (51, [4], [], 0), (20, [4, 3], [1], 10), (23, [3], [1], 7), (51, [3], [], 0), (1002, [3, 0, 1], [0, 1], 0), (6000, [0, 1, 2], [0], 0), (0, [0], [], 23), (90, [1], [], -2147483648), (91, [1], [], 2147483647), (90, [2], [], -2147483648), (91, [2], [], 2147483647)], (51, [11], [], 0)) := vOk_in fun ρ η h => by
  obtain ⟨f0, f1, f2, f3, f4, f5, f6, f7, f8, f9, f10, f11, f12, f13, f14, f15, f16, f17, f18, f19, _⟩ := h
  exact q_16_0 (n0 := ρ 2) (n1 := ρ 1) (n2 := ρ 0) (n3 := ρ 3) (n4 := ρ 4) (n5 := ρ 8) (n6 := ρ 9) (n7 := ρ 10) (n8 := ρ 11) (H0 := η 0) (H1 := η 1) (H2 := η 2) f19 f18 f17 f16 f15 f14 f13 f12 f11 f10 f9 f8 f7 f6 f5 f4 f3 f2 f1 f0
def p_16_s : List vG := [([(20, [11, 3], [2], 10), (23, [3], [2], 7), (30, [10], [], 0), (4, [10, 9, 2], [], 0), (1199, [9, 8, 1], [1, 2], 0), (90, [9], [], -2147483648), (91, [9], [], 2147483647), (20, [8, 0], [1], 6), (0, [8], [], 28), (51, [4], [], 0), (20, [4, 3], [1], 10), (23, [3], [1], 7), (51, [3], [], 0), (1002, [3, 0, 1], [0, 1], 0), (6000, [0, 1, 2], [0], 0), (0, [0], [], 23), (90, [1], [], -2147483648), (91, [1], [], 2147483647), (90, [2], [], -2147483648), (91, [2], [], 2147483647)], (51, [11], [], 0))]
theorem r_16_s : vCovO true (eR0 e_16 L_16 cs_16 2000) p_16_s = true := by decide +kernel
theorem m_16 (d : Nat) : eC e_16 (d + 3) := eC_ok (e := e_16) (L := L_16) (cs := cs_16) (n := 2000) (d := d + 2) (A := A_16) (μ := mu_16) (tp := true) (p0 := p_16_s) rfl ⟨m_2 (d + 1), ⟨m_15 d, ⟨m_199 (d + 1), trivial⟩⟩⟩ rfl (.inr pre0_ok) (by decide +kernel) (fun _ => post0_ok) r_16_s (allC c_16_s_0 allN) allN
/- Bank.staleMask ()I -/
noncomputable def s_17 : vM := ([(3, 0, 23, 0)], (0, -2147483648, 2147483647, 0), 0, 0, [(100, 0)])
noncomputable def e_17 : vE := (17, s_17, pre0, post0)
noncomputable def L_17 : List vE := [e_12, e_16]
def cs_17 : List vC := [(10, [(0, (3, 0, 23, 0)), (1, (0, -2147483648, 2147483647, 0)), (2, (0, -2147483648, 2147483647, 0)), (3, (0, -2147483648, 2147483647, 0))]), (26, [(0, (3, 0, 23, 0)), (1, (0, -2147483648, 2147483647, 0)), (2, (0, -2147483648, 2147483647, 0)), (3, (0, -2147483648, 2147483646, 0)), (4, (0, -2147483648, 2147483647, 0))])]
def mub_17_10 (a0 x0 x1 x2 x3 : Int) (h0 h : gH) : Nat := (8589934592 + (2147483648 - x3).toNat) * 1099511627776 + 1099511627775
def mub_17_26 (a0 x0 x1 x2 x3 x4 : Int) (h0 h : gH) : Nat := (8589934592 + (2147483648 - x3).toNat) * 1099511627776 + (8589934592 + (2147483648 - x4).toNat) * 1
def A_17 : Int → List Int → gH → gH → Prop := fun c xs h0 h => True
def mu_17 : Int → List Int → gH → gH → Nat := fun c xs h0 h => match c.toNat with
  | 10 => (match xs with
    | [a0, x0, x1, x2, x3] => mub_17_10 a0 x0 x1 x2 x3 h0 h
    | _ => 0)
  | 26 => (match xs with
    | [a0, x0, x1, x2, x3, x4] => mub_17_26 a0 x0 x1 x2 x3 x4 h0 h
    | _ => 0)
  | _ => 0
theorem q_17_0 {n0 n1 n2 n3 : Int} {H0 H1 : gH}  : True ∧ ∀ q, none = some q → mub_17_10 n0 n0 n1 n2 n3 H0 H1 < q := by
  exact ⟨trivial, fun q hq => nomatch hq⟩
theorem c_17_s_0 : vOkm T0 (eP e_17 L_17 A_17 mu_17 none) 1 ([], (4000, [0, 1, 2, 3], [1], 10)) := vOk_in fun ρ η h => by
  obtain ⟨_⟩ := h
  exact q_17_0 (n0 := ρ 0) (n1 := ρ 1) (n2 := ρ 2) (n3 := ρ 3) (H0 := η 0) (H1 := η 1) 
def p_17_s : List vG := [([], (4000, [0, 1, 2, 3], [1], 10))]
theorem r_17_s : vCovO true (eR0 e_17 L_17 cs_17 2000) p_17_s = true := by decide +kernel
theorem q_17_1 {q0 : Nat} {n0 n1 : Int} {H0 : gH} (f0 : n0 ≤ 2147483647) (f1 : (-2147483648) ≤ n0) (f2 : n1 = 20) (f3 : n0 ≤ n1) : n0 ≤ 2147483646 := by
  omega
theorem c_17_10_0 {q0 : Nat} : vOkm T0 (eP e_17 L_17 A_17 mu_17 (some q0)) 1 ([(45, [4, 5], [], 0), (0, [5], [], 20), (90, [4], [], -2147483648), (91, [4], [], 2147483647)], (91, [4], [], 2147483646)) := vOk_in fun ρ η h => by
  obtain ⟨f0, f1, f2, f3, _⟩ := h
  exact q_17_1 (q0 := q0) (n0 := ρ 4) (n1 := ρ 5) (H0 := η 0) f3 f2 f1 f0
theorem q_17_2 {q0 : Nat} {n0 n1 n2 n3 n4 n5 n6 : Int} {H0 H1 : gH} (f0 : n0 ≤ 2147483647) (f1 : (-2147483648) ≤ n0) (f2 : (hLe T0 H0 H1 ∧ hFr s_17.2.2.2.2 H0 H1 ∧ hWt T0 H1) ∧ (True ∧ True) ∧ some q0 = some (mub_17_10 n1 n2 n3 n4 n0 H0 H1)) (f3 : n5 = 20) (f4 : n0 ≤ n5) (f5 : n6 = 0) : True ∧ ∀ q, some q0 = some q → mub_17_26 n1 n2 n3 n3 n0 n6 H0 H1 < q := by
  have g5 := Option.some.inj f2.2.2
  unfold mub_17_10 at g5
  unfold mub_17_26
  refine ⟨?_, fun q hq => ?_⟩
  · trivial
  · have g6 := Option.some.inj hq
    subst g6
    omega
theorem c_17_10_1 {q0 : Nat} : vOkm T0 (eP e_17 L_17 A_17 mu_17 (some q0)) 1 ([(0, [6], [], 0), (45, [4, 5], [], 0), (0, [5], [], 20), (5000, [0, 1, 2, 3, 4], [0, 1], 10), (90, [4], [], -2147483648), (91, [4], [], 2147483647)], (4000, [1, 2, 2, 4, 6], [1], 26)) := vOk_in fun ρ η h => by
  obtain ⟨f0, f1, f2, f3, f4, f5, _⟩ := h
  exact q_17_2 (q0 := q0) (n0 := ρ 4) (n1 := ρ 0) (n2 := ρ 1) (n3 := ρ 2) (n4 := ρ 3) (n5 := ρ 5) (n6 := ρ 6) (H0 := η 0) (H1 := η 1) f5 f4 f3 f2 f1 f0
def p_17_10 : List vG := [([(45, [4, 5], [], 0), (0, [5], [], 20), (90, [4], [], -2147483648), (91, [4], [], 2147483647)], (91, [4], [], 2147483646)),
  ([(0, [6], [], 0), (45, [4, 5], [], 0), (0, [5], [], 20), (5000, [0, 1, 2, 3, 4], [0, 1], 10), (90, [4], [], -2147483648), (91, [4], [], 2147483647)], (4000, [1, 2, 2, 4, 6], [1], 26))]
theorem r_17_10 : vCovO true (eRc e_17 L_17 cs_17 2000 (10, [(0, (3, 0, 23, 0)), (1, (0, -2147483648, 2147483647, 0)), (2, (0, -2147483648, 2147483647, 0)), (3, (0, -2147483648, 2147483647, 0))])) p_17_10 = true := by decide +kernel
theorem q_17_3 {q0 : Nat} {n0 n1 n2 n3 n4 n5 n6 n7 : Int} {H0 H1 : gH} (f0 : n0 ≤ 2147483647) (f1 : (-2147483648) ≤ n0) (f2 : n1 ≤ 2147483646) (f3 : (-2147483648) ≤ n1) (f4 : (hLe T0 H0 H1 ∧ hFr s_17.2.2.2.2 H0 H1 ∧ hWt T0 H1) ∧ (True ∧ True) ∧ some q0 = some (mub_17_26 n2 n3 n4 n5 n1 n0 H0 H1)) (f5 : n6 ≤ 20) (f6 : 0 ≤ n6) (f7 : n6 ≤ n0) (f8 : n7 = w32 (n1 + 1)) : True ∧ ∀ q, some q0 = some q → mub_17_10 n2 n3 n4 n5 n7 H0 H1 < q := by
  have g5 := Option.some.inj f4.2.2
  unfold mub_17_26 at g5
  unfold mub_17_10
  unfold w32 at *
  refine ⟨?_, fun q hq => ?_⟩
  · trivial
  · have g6 := Option.some.inj hq
    subst g6
    omega
theorem c_17_26_0 {q0 : Nat} : vOkm T0 (eP e_17 L_17 A_17 mu_17 (some q0)) 1 ([(10, [7, 4], [], 1), (43, [5, 6], [], 0), (90, [6], [], 0), (91, [6], [], 20), (5000, [0, 1, 2, 3, 4, 5], [0, 1], 26), (90, [4], [], -2147483648), (91, [4], [], 2147483646), (90, [5], [], -2147483648), (91, [5], [], 2147483647)], (4000, [1, 2, 3, 7], [1], 10)) := vOk_in fun ρ η h => by
  obtain ⟨f0, f1, f2, f3, f4, f5, f6, f7, f8, _⟩ := h
  exact q_17_3 (q0 := q0) (n0 := ρ 5) (n1 := ρ 4) (n2 := ρ 0) (n3 := ρ 1) (n4 := ρ 2) (n5 := ρ 3) (n6 := ρ 6) (n7 := ρ 7) (H0 := η 0) (H1 := η 1) f8 f7 f6 f5 f4 f3 f2 f1 f0
theorem q_17_4 {q0 : Nat} {n0 n1 n2 n3 n4 n5 n6 n7 n8 : Int} {H0 H1 H2 : gH} (f0 : n0 ≤ 2147483647) (f1 : (-2147483648) ≤ n0) (f2 : n1 ≤ 2147483646) (f3 : (-2147483648) ≤ n1) (f4 : (hLe T0 H0 H1 ∧ hFr s_17.2.2.2.2 H0 H1 ∧ hWt T0 H1) ∧ (True ∧ True) ∧ some q0 = some (mub_17_26 n2 n3 n4 n5 n1 n0 H0 H1)) (f5 : n6 ≤ 20) (f6 : 0 ≤ n6) (f7 : n0 < n6) (f8 : n7 = w32 (n0 + 1)) : True ∧ ∀ q, some q0 = some q → mub_17_26 n2 n3 n8 n5 n1 n7 H0 H2 < q := by
  have g5 := Option.some.inj f4.2.2
  unfold mub_17_26 at g5
  unfold mub_17_26
  unfold w32 at *
  refine ⟨?_, fun q hq => ?_⟩
  · trivial
  · have g6 := Option.some.inj hq
    subst g6
    omega
theorem c_17_26_1 {q0 : Nat} : vOkm T0 (eP e_17 L_17 A_17 mu_17 (some q0)) 1 ([(10, [10, 5], [], 1), (42, [5, 6], [], 0), (90, [6], [], 0), (91, [6], [], 20), (5000, [0, 1, 2, 3, 4, 5], [0, 1], 26), (90, [4], [], -2147483648), (91, [4], [], 2147483646), (90, [5], [], -2147483648), (91, [5], [], 2147483647)], (4000, [1, 9, 3, 4, 10], [2], 26)) := vOk_in fun ρ η h => by
  obtain ⟨f0, f1, f2, f3, f4, f5, f6, f7, f8, _⟩ := h
  exact q_17_4 (q0 := q0) (n0 := ρ 5) (n1 := ρ 4) (n2 := ρ 0) (n3 := ρ 1) (n4 := ρ 2) (n5 := ρ 3) (n6 := ρ 6) (n7 := ρ 10) (n8 := ρ 9) (H0 := η 0) (H1 := η 1) (H2 := η 2) f8 f7 f6 f5 f4 f3 f2 f1 f0
theorem c_17_26_2 {q0 : Nat} : vOkm T0 (eP e_17 L_17 A_17 mu_17 (some q0)) 1 ([(10, [11, 5], [], 1), (42, [5, 6], [], 0), (90, [6], [], 0), (91, [6], [], 20), (5000, [0, 1, 2, 3, 4, 5], [0, 1], 26), (90, [4], [], -2147483648), (91, [4], [], 2147483646), (90, [5], [], -2147483648), (91, [5], [], 2147483647)], (4000, [1, 10, 3, 4, 11], [2], 26)) := vOk_in fun ρ η h => by
  obtain ⟨f0, f1, f2, f3, f4, f5, f6, f7, f8, _⟩ := h
  exact q_17_4 (q0 := q0) (n0 := ρ 5) (n1 := ρ 4) (n2 := ρ 0) (n3 := ρ 1) (n4 := ρ 2) (n5 := ρ 3) (n6 := ρ 6) (n7 := ρ 11) (n8 := ρ 10) (H0 := η 0) (H1 := η 1) (H2 := η 2) f8 f7 f6 f5 f4 f3 f2 f1 f0
def p_17_26 : List vG := [([(10, [7, 4], [], 1), (43, [5, 6], [], 0), (90, [6], [], 0), (91, [6], [], 20), (5000, [0, 1, 2, 3, 4, 5], [0, 1], 26), (90, [4], [], -2147483648), (91, [4], [], 2147483646), (90, [5], [], -2147483648), (91, [5], [], 2147483647)], (4000, [1, 2, 3, 7], [1], 10)),
  ([(10, [10, 5], [], 1), (42, [5, 6], [], 0), (90, [6], [], 0), (91, [6], [], 20), (5000, [0, 1, 2, 3, 4, 5], [0, 1], 26), (90, [4], [], -2147483648), (91, [4], [], 2147483646), (90, [5], [], -2147483648), (91, [5], [], 2147483647)], (4000, [1, 9, 3, 4, 10], [2], 26)),
  ([(10, [11, 5], [], 1), (42, [5, 6], [], 0), (90, [6], [], 0), (91, [6], [], 20), (5000, [0, 1, 2, 3, 4, 5], [0, 1], 26), (90, [4], [], -2147483648), (91, [4], [], 2147483646), (90, [5], [], -2147483648), (91, [5], [], 2147483647)], (4000, [1, 10, 3, 4, 11], [2], 26))]
theorem r_17_26 : vCovO true (eRc e_17 L_17 cs_17 2000 (26, [(0, (3, 0, 23, 0)), (1, (0, -2147483648, 2147483647, 0)), (2, (0, -2147483648, 2147483647, 0)), (3, (0, -2147483648, 2147483646, 0)), (4, (0, -2147483648, 2147483647, 0))])) p_17_26 = true := by decide +kernel
theorem m_17 (d : Nat) : eC e_17 (d + 4) := eC_ok (e := e_17) (L := L_17) (cs := cs_17) (n := 2000) (d := d + 3) (A := A_17) (μ := mu_17) (tp := true) (p0 := p_17_s) rfl ⟨m_12 d, ⟨m_16 d, trivial⟩⟩ rfl (.inr pre0_ok) (by decide +kernel) (fun _ => post0_ok) r_17_s (allC c_17_s_0 allN) (allC (.inl ⟨p_17_10, r_17_10, fun q0 => (allC c_17_10_0 (allC c_17_10_1 allN))⟩) (allC (.inl ⟨p_17_26, r_17_26, fun q0 => (allC c_17_26_0 (allC c_17_26_1 (allC c_17_26_2 allN)))⟩) allN))
/- Bank.firstFree (I)I -/
noncomputable def s_18 : vM := ([(3, 0, 23, 0), (0, -2147483648, 2147483647, 0)], (0, -2147483648, 2147483647, 0), 0, 0, [])
noncomputable def e_18 : vE := (18, s_18, pre0, post0)
noncomputable def L_18 : List vE := [e_199]
def cs_18 : List vC := [(2, [(0, (3, 0, 23, 0)), (1, (0, -2147483648, 2147483647, 0)), (2, (0, -2147483648, 2147483647, 0))])]
def mub_18_2 (a0 a1 x0 x1 x2 : Int) (h0 h : gH) : Nat := (2147483648 - x2).toNat
def A_18 : Int → List Int → gH → gH → Prop := fun c xs h0 h => True
def mu_18 : Int → List Int → gH → gH → Nat := fun c xs h0 h => match c.toNat with
  | 2 => (match xs with
    | [a0, a1, x0, x1, x2] => mub_18_2 a0 a1 x0 x1 x2 h0 h
    | _ => 0)
  | _ => 0
theorem q_18_0 {n0 n1 n2 : Int} {H0 : gH}  : True ∧ ∀ q, none = some q → mub_18_2 n0 n1 n0 n1 n2 H0 H0 < q := by
  exact ⟨trivial, fun q hq => nomatch hq⟩
theorem c_18_s_0 : vOkm T0 (eP e_18 L_18 A_18 mu_18 none) 2 ([], (4000, [0, 1, 2], [0], 2)) := vOk_in fun ρ η h => by
  obtain ⟨_⟩ := h
  exact q_18_0 (n0 := ρ 0) (n1 := ρ 1) (n2 := ρ 2) (H0 := η 0) 
def p_18_s : List vG := [([], (4000, [0, 1, 2], [0], 2))]
theorem r_18_s : vCovO true (eR0 e_18 L_18 cs_18 2000) p_18_s = true := by decide +kernel
theorem q_18_1 {q0 : Nat} {n0 n1 n2 n3 n4 n5 n6 : Int} {H0 H1 : gH} (f0 : n0 ≤ 2147483647) (f1 : (-2147483648) ≤ n0) (f2 : (hLe T0 H0 H1 ∧ hFr s_18.2.2.2.2 H0 H1 ∧ hWt T0 H1) ∧ (True ∧ True) ∧ some q0 = some (mub_18_2 n1 n2 n3 n4 n0 H0 H1)) (f3 : n5 ≤ 20) (f4 : 0 ≤ n5) (f5 : n0 < n5) (f6 : n6 = w32 (n0 + 1)) : True ∧ ∀ q, some q0 = some q → mub_18_2 n1 n2 n3 n4 n6 H0 H1 < q := by
  have g5 := Option.some.inj f2.2.2
  unfold mub_18_2 at g5
  unfold mub_18_2
  unfold w32 at *
  refine ⟨?_, fun q hq => ?_⟩
  · trivial
  · have g6 := Option.some.inj hq
    subst g6
    omega
theorem c_18_2_0 {q0 : Nat} : vOkm T0 (eP e_18 L_18 A_18 mu_18 (some q0)) 2 ([(10, [9, 4], [], 1), (42, [4, 5], [], 0), (90, [5], [], 0), (91, [5], [], 20), (5000, [0, 1, 2, 3, 4], [0, 1], 2), (90, [4], [], -2147483648), (91, [4], [], 2147483647)], (4000, [2, 3, 9], [1], 2)) := vOk_in fun ρ η h => by
  obtain ⟨f0, f1, f2, f3, f4, f5, f6, _⟩ := h
  exact q_18_1 (q0 := q0) (n0 := ρ 4) (n1 := ρ 0) (n2 := ρ 1) (n3 := ρ 2) (n4 := ρ 3) (n5 := ρ 5) (n6 := ρ 9) (H0 := η 0) (H1 := η 1) f6 f5 f4 f3 f2 f1 f0
theorem q_18_2 {q0 : Nat} {n0 n1 n2 n3 n4 n5 n6 : Int} {H0 H1 H2 : gH} (f0 : n0 ≤ 2147483647) (f1 : (-2147483648) ≤ n0) (f2 : (hLe T0 H0 H1 ∧ hFr s_18.2.2.2.2 H0 H1 ∧ hWt T0 H1) ∧ (True ∧ True) ∧ some q0 = some (mub_18_2 n1 n2 n3 n4 n0 H0 H1)) (f3 : n5 ≤ 20) (f4 : 0 ≤ n5) (f5 : n0 < n5) (f6 : n6 = w32 (n0 + 1)) : True ∧ ∀ q, some q0 = some q → mub_18_2 n1 n2 n3 n4 n6 H0 H2 < q := by
  have g5 := Option.some.inj f2.2.2
  unfold mub_18_2 at g5
  unfold mub_18_2
  unfold w32 at *
  refine ⟨?_, fun q hq => ?_⟩
  · trivial
  · have g6 := Option.some.inj hq
    subst g6
    omega
theorem c_18_2_1 {q0 : Nat} : vOkm T0 (eP e_18 L_18 A_18 mu_18 (some q0)) 2 ([(10, [12, 4], [], 1), (42, [4, 5], [], 0), (90, [5], [], 0), (91, [5], [], 20), (5000, [0, 1, 2, 3, 4], [0, 1], 2), (90, [4], [], -2147483648), (91, [4], [], 2147483647)], (4000, [2, 3, 12], [2], 2)) := vOk_in fun ρ η h => by
  obtain ⟨f0, f1, f2, f3, f4, f5, f6, _⟩ := h
  exact q_18_2 (q0 := q0) (n0 := ρ 4) (n1 := ρ 0) (n2 := ρ 1) (n3 := ρ 2) (n4 := ρ 3) (n5 := ρ 5) (n6 := ρ 12) (H0 := η 0) (H1 := η 1) (H2 := η 2) f6 f5 f4 f3 f2 f1 f0
def p_18_2 : List vG := [([(10, [9, 4], [], 1), (42, [4, 5], [], 0), (90, [5], [], 0), (91, [5], [], 20), (5000, [0, 1, 2, 3, 4], [0, 1], 2), (90, [4], [], -2147483648), (91, [4], [], 2147483647)], (4000, [2, 3, 9], [1], 2)),
  ([(10, [12, 4], [], 1), (42, [4, 5], [], 0), (90, [5], [], 0), (91, [5], [], 20), (5000, [0, 1, 2, 3, 4], [0, 1], 2), (90, [4], [], -2147483648), (91, [4], [], 2147483647)], (4000, [2, 3, 12], [2], 2))]
theorem r_18_2 : vCovO true (eRc e_18 L_18 cs_18 2000 (2, [(0, (3, 0, 23, 0)), (1, (0, -2147483648, 2147483647, 0)), (2, (0, -2147483648, 2147483647, 0))])) p_18_2 = true := by decide +kernel
theorem m_18 (d : Nat) : eC e_18 (d + 2) := eC_ok (e := e_18) (L := L_18) (cs := cs_18) (n := 2000) (d := d + 1) (A := A_18) (μ := mu_18) (tp := true) (p0 := p_18_s) rfl ⟨m_199 d, trivial⟩ rfl (.inr pre0_ok) (by decide +kernel) (fun _ => post0_ok) r_18_s (allC c_18_s_0 allN) (allC (.inl ⟨p_18_2, r_18_2, fun q0 => (allC c_18_2_0 (allC c_18_2_1 allN))⟩) allN)
/- java/lang/Math.max (II)I -/
noncomputable def s_317 : vM := ([(0, -2147483648, 2147483647, 0), (0, -2147483648, 2147483647, 0)], (0, -2147483648, 2147483647, 0), 0, 0, [])
def postb_317 (r a0 a1 : Int) (h0 h : gH) : Prop := a0 ≤ r ∧ a1 ≤ r ∧ (r = a0 ∨ r = a1)
def post_317 : List Int → gH → gH → Prop := fun xs h0 h => match xs with
  | [r, a0, a1] => postb_317 r a0 a1 h0 h
  | _ => True
noncomputable def e_317 : vE := (317, s_317, pre0, post_317)
noncomputable def L_317 : List vE := []
def cs_317 : List vC := []
def A_317 : Int → List Int → gH → gH → Prop := fun c xs h0 h => True
def mu_317 : Int → List Int → gH → gH → Nat := fun c xs h0 h => 0
theorem q_317_0 {n0 n1 : Int} {H0 : gH} (f0 : n0 ≤ 2147483647) (f1 : (-2147483648) ≤ n0) (f2 : n1 ≤ 2147483647) (f3 : (-2147483648) ≤ n1) (f4 : hWt T0 H0 ∧ True) (f5 : n1 < n0) : postb_317 n0 n1 n0 H0 H0 := by
  unfold postb_317
  omega
theorem c_317_s_0 : vOkm T0 (eP e_317 L_317 A_317 mu_317 none) 2 ([(42, [0, 1], [], 0), (6000, [0, 1], [0], 0), (90, [0], [], -2147483648), (91, [0], [], 2147483647), (90, [1], [], -2147483648), (91, [1], [], 2147483647)], (3000, [1], [0], 10)) := vOk_in fun ρ η h => by
  obtain ⟨f0, f1, f2, f3, f4, f5, _⟩ := h
  exact q_317_0 (n0 := ρ 1) (n1 := ρ 0) (H0 := η 0) f5 f4 f3 f2 f1 f0
theorem q_317_1 {n0 n1 : Int} {H0 : gH} (f0 : n0 ≤ 2147483647) (f1 : (-2147483648) ≤ n0) (f2 : n1 ≤ 2147483647) (f3 : (-2147483648) ≤ n1) (f4 : hWt T0 H0 ∧ True) (f5 : n0 ≤ n1) : postb_317 n1 n1 n0 H0 H0 := by
  unfold postb_317
  omega
theorem c_317_s_1 : vOkm T0 (eP e_317 L_317 A_317 mu_317 none) 2 ([(43, [0, 1], [], 0), (6000, [0, 1], [0], 0), (90, [0], [], -2147483648), (91, [0], [], 2147483647), (90, [1], [], -2147483648), (91, [1], [], 2147483647)], (3000, [0], [0], 10)) := vOk_in fun ρ η h => by
  obtain ⟨f0, f1, f2, f3, f4, f5, _⟩ := h
  exact q_317_1 (n0 := ρ 1) (n1 := ρ 0) (H0 := η 0) f5 f4 f3 f2 f1 f0
def p_317_s : List vG := [([(42, [0, 1], [], 0), (6000, [0, 1], [0], 0), (90, [0], [], -2147483648), (91, [0], [], 2147483647), (90, [1], [], -2147483648), (91, [1], [], 2147483647)], (3000, [1], [0], 10)),
  ([(43, [0, 1], [], 0), (6000, [0, 1], [0], 0), (90, [0], [], -2147483648), (91, [0], [], 2147483647), (90, [1], [], -2147483648), (91, [1], [], 2147483647)], (3000, [0], [0], 10))]
theorem r_317_s : vCovO false (eR0 e_317 L_317 cs_317 2000) p_317_s = true := by decide +kernel
theorem m_317 (d : Nat) : eC e_317 (d + 1) := eC_ok (e := e_317) (L := L_317) (cs := cs_317) (n := 2000) (d := d + 0) (A := A_317) (μ := mu_317) (tp := false) (p0 := p_317_s) rfl trivial rfl (.inr pre0_ok) (by decide +kernel) (fun z => nomatch z) r_317_s (allC c_317_s_0 (allC c_317_s_1 allN)) allN
/- Bank.generationBy (LMixStage$Sheet;)I -/
noncomputable def s_19 : vM := ([(3, 0, 23, 0), (3, 6, -1, 0)], (0, -2147483648, 2147483647, 0), 0, 0, [])
noncomputable def e_19 : vE := (19, s_19, pre0, post0)
noncomputable def L_19 : List vE := [e_2, e_317]
def cs_19 : List vC := [(4, [(0, (3, 0, 23, 0)), (1, (3, 6, -1, 0)), (2, (0, -2147483648, 2147483647, 0)), (3, (0, -2147483648, 2147483647, 0))])]
def mub_19_4 (a0 a1 x0 x1 x2 x3 : Int) (h0 h : gH) : Nat := (2147483648 - x3).toNat
def A_19 : Int → List Int → gH → gH → Prop := fun c xs h0 h => True
def mu_19 : Int → List Int → gH → gH → Nat := fun c xs h0 h => match c.toNat with
  | 4 => (match xs with
    | [a0, a1, x0, x1, x2, x3] => mub_19_4 a0 a1 x0 x1 x2 x3 h0 h
    | _ => 0)
  | _ => 0
theorem q_19_0 {n0 n1 n2 n3 : Int} {H0 : gH}  : True ∧ ∀ q, none = some q → mub_19_4 n0 n1 n0 n1 n2 n3 H0 H0 < q := by
  exact ⟨trivial, fun q hq => nomatch hq⟩
theorem c_19_s_0 : vOkm T0 (eP e_19 L_19 A_19 mu_19 none) 2 ([], (4000, [0, 1, 2, 3], [0], 4)) := vOk_in fun ρ η h => by
  obtain ⟨_⟩ := h
  exact q_19_0 (n0 := ρ 0) (n1 := ρ 1) (n2 := ρ 2) (n3 := ρ 3) (H0 := η 0) 
def p_19_s : List vG := [([], (4000, [0, 1, 2, 3], [0], 4))]
theorem r_19_s : vCovO true (eR0 e_19 L_19 cs_19 2000) p_19_s = true := by decide +kernel
theorem q_19_1 {q0 : Nat} {n0 n1 n2 n3 n4 n5 n6 n7 : Int} {H0 H1 H2 : gH} (f0 : n0 ≤ 2147483647) (f1 : (-2147483648) ≤ n0) (f2 : (hLe T0 H0 H1 ∧ hFr s_19.2.2.2.2 H0 H1 ∧ hWt T0 H1) ∧ (True ∧ True) ∧ some q0 = some (mub_19_4 n1 n2 n3 n4 n5 n0 H0 H1)) (f3 : n6 ≤ 20) (f4 : 0 ≤ n6) (f5 : n0 < n6) (f6 : n7 = w32 (n0 + 1)) : True ∧ ∀ q, some q0 = some q → mub_19_4 n1 n2 n3 n4 n5 n7 H0 H2 < q := by
  have g5 := Option.some.inj f2.2.2
  unfold mub_19_4 at g5
  unfold mub_19_4
  unfold w32 at *
  refine ⟨?_, fun q hq => ?_⟩
  · trivial
  · have g6 := Option.some.inj hq
    subst g6
    omega
theorem c_19_4_0 {q0 : Nat} : vOkm T0 (eP e_19 L_19 A_19 mu_19 (some q0)) 2 ([(10, [12, 5], [], 1), (42, [5, 6], [], 0), (90, [6], [], 0), (91, [6], [], 20), (5000, [0, 1, 2, 3, 4, 5], [0, 1], 4), (90, [5], [], -2147483648), (91, [5], [], 2147483647)], (4000, [2, 3, 4, 12], [2], 4)) := vOk_in fun ρ η h => by
  obtain ⟨f0, f1, f2, f3, f4, f5, f6, _⟩ := h
  exact q_19_1 (q0 := q0) (n0 := ρ 5) (n1 := ρ 0) (n2 := ρ 1) (n3 := ρ 2) (n4 := ρ 3) (n5 := ρ 4) (n6 := ρ 6) (n7 := ρ 12) (H0 := η 0) (H1 := η 1) (H2 := η 2) f6 f5 f4 f3 f2 f1 f0
theorem c_19_4_1 {q0 : Nat} : vOkm T0 (eP e_19 L_19 A_19 mu_19 (some q0)) 2 ([(10, [12, 5], [], 1), (42, [5, 6], [], 0), (90, [6], [], 0), (91, [6], [], 20), (5000, [0, 1, 2, 3, 4, 5], [0, 1], 4), (90, [5], [], -2147483648), (91, [5], [], 2147483647)], (4000, [2, 3, 4, 12], [2], 4)) := vOk_in fun ρ η h => by
  obtain ⟨f0, f1, f2, f3, f4, f5, f6, _⟩ := h
  exact q_19_1 (q0 := q0) (n0 := ρ 5) (n1 := ρ 0) (n2 := ρ 1) (n3 := ρ 2) (n4 := ρ 3) (n5 := ρ 4) (n6 := ρ 6) (n7 := ρ 12) (H0 := η 0) (H1 := η 1) (H2 := η 2) f6 f5 f4 f3 f2 f1 f0
theorem q_19_2 {q0 : Nat} {n0 n1 n2 n3 n4 n5 n6 n7 n8 : Int} {H0 H1 H2 : gH} (f0 : n0 ≤ 2147483647) (f1 : (-2147483648) ≤ n0) (f2 : (hLe T0 H0 H1 ∧ hFr s_19.2.2.2.2 H0 H1 ∧ hWt T0 H1) ∧ (True ∧ True) ∧ some q0 = some (mub_19_4 n1 n2 n3 n4 n5 n0 H0 H1)) (f3 : n6 ≤ 20) (f4 : 0 ≤ n6) (f5 : n0 < n6) (f6 : n7 = w32 (n0 + 1)) : True ∧ ∀ q, some q0 = some q → mub_19_4 n1 n2 n3 n4 n8 n7 H0 H2 < q := by
  have g5 := Option.some.inj f2.2.2
  unfold mub_19_4 at g5
  unfold mub_19_4
  unfold w32 at *
  refine ⟨?_, fun q hq => ?_⟩
  · trivial
  · have g6 := Option.some.inj hq
    subst g6
    omega
theorem c_19_4_2 {q0 : Nat} : vOkm T0 (eP e_19 L_19 A_19 mu_19 (some q0)) 2 ([(10, [14, 5], [], 1), (42, [5, 6], [], 0), (90, [6], [], 0), (91, [6], [], 20), (5000, [0, 1, 2, 3, 4, 5], [0, 1], 4), (90, [5], [], -2147483648), (91, [5], [], 2147483647)], (4000, [2, 3, 13, 14], [3], 4)) := vOk_in fun ρ η h => by
  obtain ⟨f0, f1, f2, f3, f4, f5, f6, _⟩ := h
  exact q_19_2 (q0 := q0) (n0 := ρ 5) (n1 := ρ 0) (n2 := ρ 1) (n3 := ρ 2) (n4 := ρ 3) (n5 := ρ 4) (n6 := ρ 6) (n7 := ρ 14) (n8 := ρ 13) (H0 := η 0) (H1 := η 1) (H2 := η 3) f6 f5 f4 f3 f2 f1 f0
def p_19_4 : List vG := [([(10, [12, 5], [], 1), (42, [5, 6], [], 0), (90, [6], [], 0), (91, [6], [], 20), (5000, [0, 1, 2, 3, 4, 5], [0, 1], 4), (90, [5], [], -2147483648), (91, [5], [], 2147483647)], (4000, [2, 3, 4, 12], [2], 4)),
  ([(10, [12, 5], [], 1), (42, [5, 6], [], 0), (90, [6], [], 0), (91, [6], [], 20), (5000, [0, 1, 2, 3, 4, 5], [0, 1], 4), (90, [5], [], -2147483648), (91, [5], [], 2147483647)], (4000, [2, 3, 4, 12], [2], 4)),
  ([(10, [14, 5], [], 1), (42, [5, 6], [], 0), (90, [6], [], 0), (91, [6], [], 20), (5000, [0, 1, 2, 3, 4, 5], [0, 1], 4), (90, [5], [], -2147483648), (91, [5], [], 2147483647)], (4000, [2, 3, 13, 14], [3], 4))]
theorem r_19_4 : vCovO true (eRc e_19 L_19 cs_19 2000 (4, [(0, (3, 0, 23, 0)), (1, (3, 6, -1, 0)), (2, (0, -2147483648, 2147483647, 0)), (3, (0, -2147483648, 2147483647, 0))])) p_19_4 = true := by decide +kernel
theorem m_19 (d : Nat) : eC e_19 (d + 2) := eC_ok (e := e_19) (L := L_19) (cs := cs_19) (n := 2000) (d := d + 1) (A := A_19) (μ := mu_19) (tp := true) (p0 := p_19_s) rfl ⟨m_2 d, ⟨m_317 d, trivial⟩⟩ rfl (.inr pre0_ok) (by decide +kernel) (fun _ => post0_ok) r_19_s (allC c_19_s_0 allN) (allC (.inl ⟨p_19_4, r_19_4, fun q0 => (allC c_19_4_0 (allC c_19_4_1 (allC c_19_4_2 allN)))⟩) allN)
/- java/lang/Math.min (II)I -/
noncomputable def s_319 : vM := ([(0, -2147483648, 2147483647, 0), (0, -2147483648, 2147483647, 0)], (0, -2147483648, 2147483647, 0), 0, 0, [])
def postb_319 (r a0 a1 : Int) (h0 h : gH) : Prop := r ≤ a0 ∧ r ≤ a1 ∧ (r = a0 ∨ r = a1)
def post_319 : List Int → gH → gH → Prop := fun xs h0 h => match xs with
  | [r, a0, a1] => postb_319 r a0 a1 h0 h
  | _ => True
noncomputable def e_319 : vE := (319, s_319, pre0, post_319)
noncomputable def L_319 : List vE := []
def cs_319 : List vC := []
def A_319 : Int → List Int → gH → gH → Prop := fun c xs h0 h => True
def mu_319 : Int → List Int → gH → gH → Nat := fun c xs h0 h => 0
theorem q_319_0 {n0 n1 : Int} {H0 : gH} (f0 : n0 ≤ 2147483647) (f1 : (-2147483648) ≤ n0) (f2 : n1 ≤ 2147483647) (f3 : (-2147483648) ≤ n1) (f4 : hWt T0 H0 ∧ True) (f5 : n0 < n1) : postb_319 n0 n1 n0 H0 H0 := by
  unfold postb_319
  omega
theorem c_319_s_0 : vOkm T0 (eP e_319 L_319 A_319 mu_319 none) 2 ([(44, [0, 1], [], 0), (6000, [0, 1], [0], 0), (90, [0], [], -2147483648), (91, [0], [], 2147483647), (90, [1], [], -2147483648), (91, [1], [], 2147483647)], (3000, [1], [0], 10)) := vOk_in fun ρ η h => by
  obtain ⟨f0, f1, f2, f3, f4, f5, _⟩ := h
  exact q_319_0 (n0 := ρ 1) (n1 := ρ 0) (H0 := η 0) f5 f4 f3 f2 f1 f0
theorem q_319_1 {n0 n1 : Int} {H0 : gH} (f0 : n0 ≤ 2147483647) (f1 : (-2147483648) ≤ n0) (f2 : n1 ≤ 2147483647) (f3 : (-2147483648) ≤ n1) (f4 : hWt T0 H0 ∧ True) (f5 : n1 ≤ n0) : postb_319 n1 n1 n0 H0 H0 := by
  unfold postb_319
  omega
theorem c_319_s_1 : vOkm T0 (eP e_319 L_319 A_319 mu_319 none) 2 ([(45, [0, 1], [], 0), (6000, [0, 1], [0], 0), (90, [0], [], -2147483648), (91, [0], [], 2147483647), (90, [1], [], -2147483648), (91, [1], [], 2147483647)], (3000, [0], [0], 10)) := vOk_in fun ρ η h => by
  obtain ⟨f0, f1, f2, f3, f4, f5, _⟩ := h
  exact q_319_1 (n0 := ρ 1) (n1 := ρ 0) (H0 := η 0) f5 f4 f3 f2 f1 f0
def p_319_s : List vG := [([(44, [0, 1], [], 0), (6000, [0, 1], [0], 0), (90, [0], [], -2147483648), (91, [0], [], 2147483647), (90, [1], [], -2147483648), (91, [1], [], 2147483647)], (3000, [1], [0], 10)),
  ([(45, [0, 1], [], 0), (6000, [0, 1], [0], 0), (90, [0], [], -2147483648), (91, [0], [], 2147483647), (90, [1], [], -2147483648), (91, [1], [], 2147483647)], (3000, [0], [0], 10))]
theorem r_319_s : vCovO false (eR0 e_319 L_319 cs_319 2000) p_319_s = true := by decide +kernel
theorem m_319 (d : Nat) : eC e_319 (d + 1) := eC_ok (e := e_319) (L := L_319) (cs := cs_319) (n := 2000) (d := d + 0) (A := A_319) (μ := mu_319) (tp := false) (p0 := p_319_s) rfl trivial rfl (.inr pre0_ok) (by decide +kernel) (fun z => nomatch z) r_319_s (allC c_319_s_0 (allC c_319_s_1 allN)) allN
/- Bank.ownHiss (LMixStage$Sound;)I -/
noncomputable def s_21 : vM := ([(3, 0, 23, 0), (2, 7, -1, 0)], (0, -2147483648, 2147483647, 0), 0, 0, [])
noncomputable def e_21 : vE := (21, s_21, pre0, post0)
noncomputable def L_21 : List vE := [e_199, e_317, e_319]
def cs_21 : List vC := [(30, [(0, (3, 0, 23, 0)), (1, (3, 7, -1, 0)), (2, (0, -2147483648, 2147483647, 0)), (3, (0, -2147483648, 2147483647, 0)), (4, (0, -2147483648, 2147483647, 0))])]
def mub_21_30 (a0 a1 x0 x1 x2 x3 x4 : Int) (h0 h : gH) : Nat := (2147483648 - x4).toNat
def A_21 : Int → List Int → gH → gH → Prop := fun c xs h0 h => True
def mu_21 : Int → List Int → gH → gH → Nat := fun c xs h0 h => match c.toNat with
  | 30 => (match xs with
    | [a0, a1, x0, x1, x2, x3, x4] => mub_21_30 a0 a1 x0 x1 x2 x3 x4 h0 h
    | _ => 0)
  | _ => 0
theorem q_21_0 {n0 n1 n2 n3 n4 : Int} {H0 : gH}  : True ∧ ∀ q, none = some q → mub_21_30 n0 n1 n0 n1 n2 n3 n4 H0 H0 < q := by
  exact ⟨trivial, fun q hq => nomatch hq⟩
theorem c_21_s_0 : vOkm T0 (eP e_21 L_21 A_21 mu_21 none) 2 ([], (4000, [0, 1, 2, 4, 5], [0], 30)) := vOk_in fun ρ η h => by
  obtain ⟨_⟩ := h
  exact q_21_0 (n0 := ρ 0) (n1 := ρ 1) (n2 := ρ 2) (n3 := ρ 4) (n4 := ρ 5) (H0 := η 0) 
theorem q_21_1 {n0 n1 n2 n3 : Int} {H0 : gH} (f0 : n0 = 23) (f1 : hWt T0 H0 ∧ True) (f2 : 0 ≤ n1) (f3 : hK H0 (n1).toNat = 7) (f4 : n2 = hV H0 (n1).toNat 10) (f5 : 0 ≤ n2) (f6 : hK H0 (n1).toNat = 7) (f7 : n3 = hV H0 (n1).toNat 10) : 0 ≤ n3 := by
  have e0 : n2 = hV H0 (n1).toNat 10 := f4
  have e1 : n3 = hV H0 (n1).toNat 10 := f7
  omega
theorem c_21_s_1 : vOkm T0 (eP e_21 L_21 A_21 mu_21 none) 2 ([(20, [4, 1], [0], 10), (23, [1], [0], 7), (51, [3], [], 0), (20, [3, 1], [0], 10), (23, [1], [0], 7), (51, [1], [], 0), (6000, [0, 1], [0], 0), (0, [0], [], 23)], (51, [4], [], 0)) := vOk_in fun ρ η h => by
  obtain ⟨f0, f1, f2, f3, f4, f5, f6, f7, _⟩ := h
  exact q_21_1 (n0 := ρ 0) (n1 := ρ 1) (n2 := ρ 3) (n3 := ρ 4) (H0 := η 0) f7 f6 f5 f4 f3 f2 f1 f0
theorem c_21_s_2 : vOkm T0 (eP e_21 L_21 A_21 mu_21 none) 2 ([], (4000, [0, 1, 2, 5, 6], [0], 30)) := vOk_in fun ρ η h => by
  obtain ⟨_⟩ := h
  exact q_21_0 (n0 := ρ 0) (n1 := ρ 1) (n2 := ρ 2) (n3 := ρ 5) (n4 := ρ 6) (H0 := η 0) 
def p_21_s : List vG := [([], (4000, [0, 1, 2, 4, 5], [0], 30)),
  ([(20, [4, 1], [0], 10), (23, [1], [0], 7), (51, [3], [], 0), (20, [3, 1], [0], 10), (23, [1], [0], 7), (51, [1], [], 0), (6000, [0, 1], [0], 0), (0, [0], [], 23)], (51, [4], [], 0)),
  ([], (4000, [0, 1, 2, 5, 6], [0], 30))]
theorem r_21_s : vCovO true (eR0 e_21 L_21 cs_21 2000) p_21_s = true := by decide +kernel
theorem q_21_2 {q0 : Nat} {n0 n1 n2 n3 n4 n5 n6 n7 n8 : Int} {H0 H1 : gH} (f0 : n0 ≤ 2147483647) (f1 : (-2147483648) ≤ n0) (f2 : (hLe T0 H0 H1 ∧ hFr s_21.2.2.2.2 H0 H1 ∧ hWt T0 H1) ∧ (True ∧ True) ∧ some q0 = some (mub_21_30 n1 n2 n3 n4 n5 n6 n0 H0 H1)) (f3 : n7 ≤ 20) (f4 : 0 ≤ n7) (f5 : n0 < n7) (f6 : n8 = w32 (n0 + 1)) : True ∧ ∀ q, some q0 = some q → mub_21_30 n1 n2 n3 n4 n5 n6 n8 H0 H1 < q := by
  have g5 := Option.some.inj f2.2.2
  unfold mub_21_30 at g5
  unfold mub_21_30
  unfold w32 at *
  refine ⟨?_, fun q hq => ?_⟩
  · trivial
  · have g6 := Option.some.inj hq
    subst g6
    omega
theorem c_21_30_0 {q0 : Nat} : vOkm T0 (eP e_21 L_21 A_21 mu_21 (some q0)) 2 ([(10, [11, 6], [], 1), (42, [6, 7], [], 0), (90, [7], [], 0), (91, [7], [], 20), (5000, [0, 1, 2, 3, 4, 5, 6], [0, 1], 30), (90, [6], [], -2147483648), (91, [6], [], 2147483647)], (4000, [2, 3, 4, 5, 11], [1], 30)) := vOk_in fun ρ η h => by
  obtain ⟨f0, f1, f2, f3, f4, f5, f6, _⟩ := h
  exact q_21_2 (q0 := q0) (n0 := ρ 6) (n1 := ρ 0) (n2 := ρ 1) (n3 := ρ 2) (n4 := ρ 3) (n5 := ρ 4) (n6 := ρ 5) (n7 := ρ 7) (n8 := ρ 11) (H0 := η 0) (H1 := η 1) f6 f5 f4 f3 f2 f1 f0
theorem q_21_3 {q0 : Nat} {n0 n1 n2 n3 n4 n5 n6 n7 n8 n9 : Int} {H0 H1 H2 : gH} (f0 : n0 ≤ 2147483647) (f1 : (-2147483648) ≤ n0) (f2 : (hLe T0 H0 H1 ∧ hFr s_21.2.2.2.2 H0 H1 ∧ hWt T0 H1) ∧ (True ∧ True) ∧ some q0 = some (mub_21_30 n1 n2 n3 n4 n5 n6 n0 H0 H1)) (f3 : n7 ≤ 20) (f4 : 0 ≤ n7) (f5 : n0 < n7) (f6 : n8 = w32 (n0 + 1)) : True ∧ ∀ q, some q0 = some q → mub_21_30 n1 n2 n3 n4 n9 n6 n8 H0 H2 < q := by
  have g5 := Option.some.inj f2.2.2
  unfold mub_21_30 at g5
  unfold mub_21_30
  unfold w32 at *
  refine ⟨?_, fun q hq => ?_⟩
  · trivial
  · have g6 := Option.some.inj hq
    subst g6
    omega
theorem c_21_30_1 {q0 : Nat} : vOkm T0 (eP e_21 L_21 A_21 mu_21 (some q0)) 2 ([(10, [14, 6], [], 1), (42, [6, 7], [], 0), (90, [7], [], 0), (91, [7], [], 20), (5000, [0, 1, 2, 3, 4, 5, 6], [0, 1], 30), (90, [6], [], -2147483648), (91, [6], [], 2147483647)], (4000, [2, 3, 13, 5, 14], [3], 30)) := vOk_in fun ρ η h => by
  obtain ⟨f0, f1, f2, f3, f4, f5, f6, _⟩ := h
  exact q_21_3 (q0 := q0) (n0 := ρ 6) (n1 := ρ 0) (n2 := ρ 1) (n3 := ρ 2) (n4 := ρ 3) (n5 := ρ 4) (n6 := ρ 5) (n7 := ρ 7) (n8 := ρ 14) (n9 := ρ 13) (H0 := η 0) (H1 := η 1) (H2 := η 3) f6 f5 f4 f3 f2 f1 f0
def p_21_30 : List vG := [([(10, [11, 6], [], 1), (42, [6, 7], [], 0), (90, [7], [], 0), (91, [7], [], 20), (5000, [0, 1, 2, 3, 4, 5, 6], [0, 1], 30), (90, [6], [], -2147483648), (91, [6], [], 2147483647)], (4000, [2, 3, 4, 5, 11], [1], 30)),
  ([(10, [14, 6], [], 1), (42, [6, 7], [], 0), (90, [7], [], 0), (91, [7], [], 20), (5000, [0, 1, 2, 3, 4, 5, 6], [0, 1], 30), (90, [6], [], -2147483648), (91, [6], [], 2147483647)], (4000, [2, 3, 13, 5, 14], [3], 30))]
theorem r_21_30 : vCovO true (eRc e_21 L_21 cs_21 2000 (30, [(0, (3, 0, 23, 0)), (1, (3, 7, -1, 0)), (2, (0, -2147483648, 2147483647, 0)), (3, (0, -2147483648, 2147483647, 0)), (4, (0, -2147483648, 2147483647, 0))])) p_21_30 = true := by decide +kernel
theorem m_21 (d : Nat) : eC e_21 (d + 2) := eC_ok (e := e_21) (L := L_21) (cs := cs_21) (n := 2000) (d := d + 1) (A := A_21) (μ := mu_21) (tp := true) (p0 := p_21_s) rfl ⟨m_199 d, ⟨m_317 d, ⟨m_319 d, trivial⟩⟩⟩ rfl (.inr pre0_ok) (by decide +kernel) (fun _ => post0_ok) r_21_s (allC c_21_s_0 (allC c_21_s_1 (allC c_21_s_2 allN))) (allC (.inl ⟨p_21_30, r_21_30, fun q0 => (allC c_21_30_0 (allC c_21_30_1 allN))⟩) allN)
/- Bank.hissOf (I)I -/
noncomputable def s_20 : vM := ([(3, 0, 23, 0), (0, -2147483648, 2147483647, 0)], (0, -2147483648, 2147483647, 0), 0, 0, [(100, 0)])
noncomputable def e_20 : vE := (20, s_20, pre0, post0)
noncomputable def L_20 : List vE := [e_2, e_21, e_199, e_201, e_203]
def cs_20 : List vC := [(12, [(0, (3, 0, 23, 0)), (1, (0, -2147483648, 2147483647, 0)), (2, (0, -2147483648, 2147483647, 0)), (3, (0, -2147483648, 2147483647, 0))]), (27, [(0, (3, 0, 23, 0)), (1, (0, -2147483648, 2147483647, 0)), (2, (0, -2147483648, 2147483647, 0)), (3, (0, -2147483648, 2147483646, 0)), (4, (0, -2147483648, 2147483647, 0))])]
def mub_20_12 (a0 a1 x0 x1 x2 x3 : Int) (h0 h : gH) : Nat := (8589934592 + (2147483648 - x3).toNat) * 1099511627776 + 1099511627775
def mub_20_27 (a0 a1 x0 x1 x2 x3 x4 : Int) (h0 h : gH) : Nat := (8589934592 + (2147483648 - x3).toNat) * 1099511627776 + (8589934592 + (2147483648 - x4).toNat) * 1
def A_20 : Int → List Int → gH → gH → Prop := fun c xs h0 h => True
def mu_20 : Int → List Int → gH → gH → Nat := fun c xs h0 h => match c.toNat with
  | 12 => (match xs with
    | [a0, a1, x0, x1, x2, x3] => mub_20_12 a0 a1 x0 x1 x2 x3 h0 h
    | _ => 0)
  | 27 => (match xs with
    | [a0, a1, x0, x1, x2, x3, x4] => mub_20_27 a0 a1 x0 x1 x2 x3 x4 h0 h
    | _ => 0)
  | _ => 0
theorem q_20_0 {n0 n1 n2 n3 : Int} {H0 H1 : gH}  : True ∧ ∀ q, none = some q → mub_20_12 n0 n1 n0 n1 n2 n3 H0 H1 < q := by
  exact ⟨trivial, fun q hq => nomatch hq⟩
theorem c_20_s_0 : vOkm T0 (eP e_20 L_20 A_20 mu_20 none) 2 ([], (4000, [0, 1, 4, 5], [1], 12)) := vOk_in fun ρ η h => by
  obtain ⟨_⟩ := h
  exact q_20_0 (n0 := ρ 0) (n1 := ρ 1) (n2 := ρ 4) (n3 := ρ 5) (H0 := η 0) (H1 := η 1) 
def p_20_s : List vG := [([], (4000, [0, 1, 4, 5], [1], 12))]
theorem r_20_s : vCovO true (eR0 e_20 L_20 cs_20 2000) p_20_s = true := by decide +kernel
theorem q_20_1 {q0 : Nat} {n0 n1 : Int} {H0 : gH} (f0 : n0 ≤ 2147483647) (f1 : (-2147483648) ≤ n0) (f2 : n1 = 20) (f3 : n0 ≤ n1) : n0 ≤ 2147483646 := by
  omega
theorem c_20_12_0 {q0 : Nat} : vOkm T0 (eP e_20 L_20 A_20 mu_20 (some q0)) 2 ([(45, [5, 6], [], 0), (0, [6], [], 20), (90, [5], [], -2147483648), (91, [5], [], 2147483647)], (91, [5], [], 2147483646)) := vOk_in fun ρ η h => by
  obtain ⟨f0, f1, f2, f3, _⟩ := h
  exact q_20_1 (q0 := q0) (n0 := ρ 5) (n1 := ρ 6) (H0 := η 0) f3 f2 f1 f0
theorem q_20_2 {q0 : Nat} {n0 n1 n2 n3 n4 n5 n6 n7 n8 : Int} {H0 H1 : gH} (f0 : n0 ≤ 2147483647) (f1 : (-2147483648) ≤ n0) (f2 : (hLe T0 H0 H1 ∧ hFr s_20.2.2.2.2 H0 H1 ∧ hWt T0 H1) ∧ (True ∧ True) ∧ some q0 = some (mub_20_12 n1 n2 n3 n4 n5 n0 H0 H1)) (f3 : n6 = 20) (f4 : n0 ≤ n6) (f5 : n7 = 0) : True ∧ ∀ q, some q0 = some q → mub_20_27 n1 n2 n3 n4 n8 n0 n7 H0 H1 < q := by
  have g5 := Option.some.inj f2.2.2
  unfold mub_20_12 at g5
  unfold mub_20_27
  refine ⟨?_, fun q hq => ?_⟩
  · trivial
  · have g6 := Option.some.inj hq
    subst g6
    omega
theorem c_20_12_1 {q0 : Nat} : vOkm T0 (eP e_20 L_20 A_20 mu_20 (some q0)) 2 ([(0, [8], [], 0), (45, [5, 6], [], 0), (0, [6], [], 20), (5000, [0, 1, 2, 3, 4, 5], [0, 1], 12), (90, [5], [], -2147483648), (91, [5], [], 2147483647)], (4000, [2, 3, 7, 5, 8], [1], 27)) := vOk_in fun ρ η h => by
  obtain ⟨f0, f1, f2, f3, f4, f5, _⟩ := h
  exact q_20_2 (q0 := q0) (n0 := ρ 5) (n1 := ρ 0) (n2 := ρ 1) (n3 := ρ 2) (n4 := ρ 3) (n5 := ρ 4) (n6 := ρ 6) (n7 := ρ 8) (n8 := ρ 7) (H0 := η 0) (H1 := η 1) f5 f4 f3 f2 f1 f0
def p_20_12 : List vG := [([(45, [5, 6], [], 0), (0, [6], [], 20), (90, [5], [], -2147483648), (91, [5], [], 2147483647)], (91, [5], [], 2147483646)),
  ([(0, [8], [], 0), (45, [5, 6], [], 0), (0, [6], [], 20), (5000, [0, 1, 2, 3, 4, 5], [0, 1], 12), (90, [5], [], -2147483648), (91, [5], [], 2147483647)], (4000, [2, 3, 7, 5, 8], [1], 27))]
theorem r_20_12 : vCovO true (eRc e_20 L_20 cs_20 2000 (12, [(0, (3, 0, 23, 0)), (1, (0, -2147483648, 2147483647, 0)), (2, (0, -2147483648, 2147483647, 0)), (3, (0, -2147483648, 2147483647, 0))])) p_20_12 = true := by decide +kernel
theorem q_20_3 {q0 : Nat} {n0 n1 n2 n3 n4 n5 n6 n7 n8 : Int} {H0 H1 : gH} (f0 : n0 ≤ 2147483647) (f1 : (-2147483648) ≤ n0) (f2 : n1 ≤ 2147483646) (f3 : (-2147483648) ≤ n1) (f4 : (hLe T0 H0 H1 ∧ hFr s_20.2.2.2.2 H0 H1 ∧ hWt T0 H1) ∧ (True ∧ True) ∧ some q0 = some (mub_20_27 n2 n3 n4 n5 n6 n1 n0 H0 H1)) (f5 : n7 ≤ 20) (f6 : 0 ≤ n7) (f7 : n7 ≤ n0) (f8 : n8 = w32 (n1 + 1)) : True ∧ ∀ q, some q0 = some q → mub_20_12 n2 n3 n4 n5 n6 n8 H0 H1 < q := by
  have g5 := Option.some.inj f4.2.2
  unfold mub_20_27 at g5
  unfold mub_20_12
  unfold w32 at *
  refine ⟨?_, fun q hq => ?_⟩
  · trivial
  · have g6 := Option.some.inj hq
    subst g6
    omega
theorem c_20_27_0 {q0 : Nat} : vOkm T0 (eP e_20 L_20 A_20 mu_20 (some q0)) 2 ([(10, [8, 5], [], 1), (43, [6, 7], [], 0), (90, [7], [], 0), (91, [7], [], 20), (5000, [0, 1, 2, 3, 4, 5, 6], [0, 1], 27), (90, [5], [], -2147483648), (91, [5], [], 2147483646), (90, [6], [], -2147483648), (91, [6], [], 2147483647)], (4000, [2, 3, 4, 8], [1], 12)) := vOk_in fun ρ η h => by
  obtain ⟨f0, f1, f2, f3, f4, f5, f6, f7, f8, _⟩ := h
  exact q_20_3 (q0 := q0) (n0 := ρ 6) (n1 := ρ 5) (n2 := ρ 0) (n3 := ρ 1) (n4 := ρ 2) (n5 := ρ 3) (n6 := ρ 4) (n7 := ρ 7) (n8 := ρ 8) (H0 := η 0) (H1 := η 1) f8 f7 f6 f5 f4 f3 f2 f1 f0
theorem q_20_4 {q0 : Nat} {n0 n1 n2 n3 n4 n5 n6 n7 n8 n9 : Int} {H0 H1 H2 : gH} (f0 : n0 ≤ 2147483647) (f1 : (-2147483648) ≤ n0) (f2 : n1 ≤ 2147483646) (f3 : (-2147483648) ≤ n1) (f4 : (hLe T0 H0 H1 ∧ hFr s_20.2.2.2.2 H0 H1 ∧ hWt T0 H1) ∧ (True ∧ True) ∧ some q0 = some (mub_20_27 n2 n3 n4 n5 n6 n1 n0 H0 H1)) (f5 : n7 ≤ 20) (f6 : 0 ≤ n7) (f7 : n0 < n7) (f8 : n8 = w32 (n0 + 1)) : True ∧ ∀ q, some q0 = some q → mub_20_27 n2 n3 n4 n5 n9 n1 n8 H0 H2 < q := by
  have g5 := Option.some.inj f4.2.2
  unfold mub_20_27 at g5
  unfold mub_20_27
  unfold w32 at *
  refine ⟨?_, fun q hq => ?_⟩
  · trivial
  · have g6 := Option.some.inj hq
    subst g6
    omega
theorem c_20_27_1 {q0 : Nat} : vOkm T0 (eP e_20 L_20 A_20 mu_20 (some q0)) 2 ([(10, [15, 6], [], 1), (42, [6, 7], [], 0), (90, [7], [], 0), (91, [7], [], 20), (5000, [0, 1, 2, 3, 4, 5, 6], [0, 1], 27), (90, [5], [], -2147483648), (91, [5], [], 2147483646), (90, [6], [], -2147483648), (91, [6], [], 2147483647)], (4000, [2, 3, 13, 5, 15], [5], 27)) := vOk_in fun ρ η h => by
  obtain ⟨f0, f1, f2, f3, f4, f5, f6, f7, f8, _⟩ := h
  exact q_20_4 (q0 := q0) (n0 := ρ 6) (n1 := ρ 5) (n2 := ρ 0) (n3 := ρ 1) (n4 := ρ 2) (n5 := ρ 3) (n6 := ρ 4) (n7 := ρ 7) (n8 := ρ 15) (n9 := ρ 13) (H0 := η 0) (H1 := η 1) (H2 := η 5) f8 f7 f6 f5 f4 f3 f2 f1 f0
theorem c_20_27_2 {q0 : Nat} : vOkm T0 (eP e_20 L_20 A_20 mu_20 (some q0)) 2 ([(10, [15, 6], [], 1), (42, [6, 7], [], 0), (90, [7], [], 0), (91, [7], [], 20), (5000, [0, 1, 2, 3, 4, 5, 6], [0, 1], 27), (90, [5], [], -2147483648), (91, [5], [], 2147483646), (90, [6], [], -2147483648), (91, [6], [], 2147483647)], (4000, [2, 3, 13, 5, 15], [5], 27)) := vOk_in fun ρ η h => by
  obtain ⟨f0, f1, f2, f3, f4, f5, f6, f7, f8, _⟩ := h
  exact q_20_4 (q0 := q0) (n0 := ρ 6) (n1 := ρ 5) (n2 := ρ 0) (n3 := ρ 1) (n4 := ρ 2) (n5 := ρ 3) (n6 := ρ 4) (n7 := ρ 7) (n8 := ρ 15) (n9 := ρ 13) (H0 := η 0) (H1 := η 1) (H2 := η 5) f8 f7 f6 f5 f4 f3 f2 f1 f0
def p_20_27 : List vG := [([(10, [8, 5], [], 1), (43, [6, 7], [], 0), (90, [7], [], 0), (91, [7], [], 20), (5000, [0, 1, 2, 3, 4, 5, 6], [0, 1], 27), (90, [5], [], -2147483648), (91, [5], [], 2147483646), (90, [6], [], -2147483648), (91, [6], [], 2147483647)], (4000, [2, 3, 4, 8], [1], 12)),
  ([(10, [15, 6], [], 1), (42, [6, 7], [], 0), (90, [7], [], 0), (91, [7], [], 20), (5000, [0, 1, 2, 3, 4, 5, 6], [0, 1], 27), (90, [5], [], -2147483648), (91, [5], [], 2147483646), (90, [6], [], -2147483648), (91, [6], [], 2147483647)], (4000, [2, 3, 13, 5, 15], [5], 27)),
  ([(10, [15, 6], [], 1), (42, [6, 7], [], 0), (90, [7], [], 0), (91, [7], [], 20), (5000, [0, 1, 2, 3, 4, 5, 6], [0, 1], 27), (90, [5], [], -2147483648), (91, [5], [], 2147483646), (90, [6], [], -2147483648), (91, [6], [], 2147483647)], (4000, [2, 3, 13, 5, 15], [5], 27))]
theorem r_20_27 : vCovO true (eRc e_20 L_20 cs_20 2000 (27, [(0, (3, 0, 23, 0)), (1, (0, -2147483648, 2147483647, 0)), (2, (0, -2147483648, 2147483647, 0)), (3, (0, -2147483648, 2147483646, 0)), (4, (0, -2147483648, 2147483647, 0))])) p_20_27 = true := by decide +kernel
theorem m_20 (d : Nat) : eC e_20 (d + 3) := eC_ok (e := e_20) (L := L_20) (cs := cs_20) (n := 2000) (d := d + 2) (A := A_20) (μ := mu_20) (tp := true) (p0 := p_20_s) rfl ⟨m_2 (d + 1), ⟨m_21 d, ⟨m_199 (d + 1), ⟨m_201 (d + 1), ⟨m_203 d, trivial⟩⟩⟩⟩⟩ rfl (.inr pre0_ok) (by decide +kernel) (fun _ => post0_ok) r_20_s (allC c_20_s_0 allN) (allC (.inl ⟨p_20_12, r_20_12, fun q0 => (allC c_20_12_0 (allC c_20_12_1 allN))⟩) (allC (.inl ⟨p_20_27, r_20_27, fun q0 => (allC c_20_27_0 (allC c_20_27_1 (allC c_20_27_2 allN)))⟩) allN))
/- Cue.<init> ()V -/
noncomputable def s_22 : vM := ([(3, 1, -1, 0)], (9, 0, 0, 0), 0, 0, [])
noncomputable def e_22 : vE := (22, s_22, pre0, post0)
theorem m_22 (d : Nat) : eC e_22 (d + 1) := sorry
/- Cue.hasTime ()Z -/
noncomputable def s_23 : vM := ([(3, 1, -1, 0)], (0, 0, 1, 0), 0, 0, [])
noncomputable def e_23 : vE := (23, s_23, pre0, post0)
noncomputable def L_23 : List vE := []
def cs_23 : List vC := []
def A_23 : Int → List Int → gH → gH → Prop := fun c xs h0 h => True
def mu_23 : Int → List Int → gH → gH → Nat := fun c xs h0 h => 0
def p_23_s : List vG := []
theorem r_23_s : vCovO true (eR0 e_23 L_23 cs_23 2000) p_23_s = true := by decide +kernel
theorem m_23 (d : Nat) : eC e_23 (d + 1) := eC_ok (e := e_23) (L := L_23) (cs := cs_23) (n := 2000) (d := d + 0) (A := A_23) (μ := mu_23) (tp := true) (p0 := p_23_s) rfl trivial rfl (.inr pre0_ok) (by decide +kernel) (fun _ => post0_ok) r_23_s allN allN
/- Cue.reset (II)V -/
noncomputable def s_24 : vM := ([(3, 1, -1, 0), (0, -2147483648, 2147483647, 0), (0, -2147483648, 2147483647, 0)], (9, 0, 0, 0), 0, 0, [(1, 0), (1, 1), (1, 2), (1, 3), (1, 4), (1, 5), (1, 6), (1, 7), (1, 8), (1, 9), (1, 10), (1, 11), (1, 12), (1, 13), (1, 14), (1, 15), (1, 16), (1, 18)])
noncomputable def e_24 : vE := (24, s_24, pre0, post0)
noncomputable def L_24 : List vE := []
def cs_24 : List vC := []
def A_24 : Int → List Int → gH → gH → Prop := fun c xs h0 h => True
def mu_24 : Int → List Int → gH → gH → Nat := fun c xs h0 h => 0
def p_24_s : List vG := []
theorem r_24_s : vCovO true (eR0 e_24 L_24 cs_24 2000) p_24_s = true := by decide +kernel
theorem m_24 (d : Nat) : eC e_24 (d + 1) := eC_ok (e := e_24) (L := L_24) (cs := cs_24) (n := 2000) (d := d + 0) (A := A_24) (μ := mu_24) (tp := true) (p0 := p_24_s) rfl trivial rfl (.inr pre0_ok) (by decide +kernel) (fun _ => post0_ok) r_24_s allN allN
/- Cue.copy (LMixStage$Cue;)V -/
noncomputable def s_25 : vM := ([(3, 1, -1, 0), (3, 1, -1, 0)], (9, 0, 0, 0), 0, 0, [(1, 0), (1, 1), (1, 2), (1, 3), (1, 4), (1, 5), (1, 6), (1, 7), (1, 8), (1, 9), (1, 10), (1, 11), (1, 12), (1, 13), (1, 14), (1, 15), (1, 16), (1, 18), (100, 0)])
noncomputable def e_25 : vE := (25, s_25, pre0, post0)
noncomputable def L_25 : List vE := [e_24, e_199, e_201]
def cs_25 : List vC := [(142, [(0, (3, 1, -1, 0)), (1, (3, 1, -1, 0)), (2, (0, -2147483648, 2147483647, 0))])]
def mub_25_142 (a0 a1 x0 x1 x2 : Int) (h0 h : gH) : Nat := (2147483648 - x2).toNat
def A_25 : Int → List Int → gH → gH → Prop := fun c xs h0 h => True
def mu_25 : Int → List Int → gH → gH → Nat := fun c xs h0 h => match c.toNat with
  | 142 => (match xs with
    | [a0, a1, x0, x1, x2] => mub_25_142 a0 a1 x0 x1 x2 h0 h
    | _ => 0)
  | _ => 0
theorem q_25_0 {n0 n1 n2 : Int} {H0 H1 : gH}  : True ∧ ∀ q, none = some q → mub_25_142 n0 n1 n0 n1 n2 H0 H1 < q := by
  exact ⟨trivial, fun q hq => nomatch hq⟩
theorem c_25_s_0 : vOkm T0 (eP e_25 L_25 A_25 mu_25 none) 2 ([], (4000, [0, 1, 36], [17], 142)) := vOk_in fun ρ η h => by
  obtain ⟨_⟩ := h
  exact q_25_0 (n0 := ρ 0) (n1 := ρ 1) (n2 := ρ 36) (H0 := η 0) (H1 := η 17) 
def p_25_s : List vG := [([], (4000, [0, 1, 36], [17], 142))]
theorem r_25_s : vCovO true (eR0 e_25 L_25 cs_25 2000) p_25_s = true := by decide +kernel
theorem q_25_1 {q0 : Nat} {n0 n1 n2 n3 n4 n5 n6 : Int} {H0 H1 H2 : gH} (f0 : n0 ≤ 2147483647) (f1 : (-2147483648) ≤ n0) (f2 : (hLe T0 H0 H1 ∧ hFr s_25.2.2.2.2 H0 H1 ∧ hWt T0 H1) ∧ (True ∧ True) ∧ some q0 = some (mub_25_142 n1 n2 n3 n4 n0 H0 H1)) (f3 : n5 = 4) (f4 : n0 < n5) (f5 : n6 = w32 (n0 + 1)) : True ∧ ∀ q, some q0 = some q → mub_25_142 n1 n2 n3 n4 n6 H0 H2 < q := by
  have g5 := Option.some.inj f2.2.2
  unfold mub_25_142 at g5
  unfold mub_25_142
  unfold w32 at *
  refine ⟨?_, fun q hq => ?_⟩
  · trivial
  · have g6 := Option.some.inj hq
    subst g6
    omega
theorem c_25_142_0 {q0 : Nat} : vOkm T0 (eP e_25 L_25 A_25 mu_25 (some q0)) 2 ([(10, [9, 4], [], 1), (42, [4, 5], [], 0), (0, [5], [], 4), (5000, [0, 1, 2, 3, 4], [0, 1], 142), (90, [4], [], -2147483648), (91, [4], [], 2147483647)], (4000, [2, 3, 9], [3], 142)) := vOk_in fun ρ η h => by
  obtain ⟨f0, f1, f2, f3, f4, f5, _⟩ := h
  exact q_25_1 (q0 := q0) (n0 := ρ 4) (n1 := ρ 0) (n2 := ρ 1) (n3 := ρ 2) (n4 := ρ 3) (n5 := ρ 5) (n6 := ρ 9) (H0 := η 0) (H1 := η 1) (H2 := η 3) f5 f4 f3 f2 f1 f0
def p_25_142 : List vG := [([(10, [9, 4], [], 1), (42, [4, 5], [], 0), (0, [5], [], 4), (5000, [0, 1, 2, 3, 4], [0, 1], 142), (90, [4], [], -2147483648), (91, [4], [], 2147483647)], (4000, [2, 3, 9], [3], 142))]
theorem r_25_142 : vCovO true (eRc e_25 L_25 cs_25 2000 (142, [(0, (3, 1, -1, 0)), (1, (3, 1, -1, 0)), (2, (0, -2147483648, 2147483647, 0))])) p_25_142 = true := by decide +kernel
theorem m_25 (d : Nat) : eC e_25 (d + 2) := eC_ok (e := e_25) (L := L_25) (cs := cs_25) (n := 2000) (d := d + 1) (A := A_25) (μ := mu_25) (tp := true) (p0 := p_25_s) rfl ⟨m_24 d, ⟨m_199 d, ⟨m_201 d, trivial⟩⟩⟩ rfl (.inr pre0_ok) (by decide +kernel) (fun _ => post0_ok) r_25_s (allC c_25_s_0 allN) (allC (.inl ⟨p_25_142, r_25_142, fun q0 => (allC c_25_142_0 allN)⟩) allN)
/- Cue.shift (II)V -/
noncomputable def s_26 : vM := ([(3, 1, -1, 0), (0, -2147483648, 2147483647, 0), (0, -2147483648, 2147483647, 0)], (9, 0, 0, 0), 0, 0, [(1, 4), (1, 5), (1, 6), (1, 7)])
noncomputable def e_26 : vE := (26, s_26, pre0, post0)
noncomputable def L_26 : List vE := []
def cs_26 : List vC := []
def A_26 : Int → List Int → gH → gH → Prop := fun c xs h0 h => True
def mu_26 : Int → List Int → gH → gH → Nat := fun c xs h0 h => 0
def p_26_s : List vG := []
theorem r_26_s : vCovO true (eR0 e_26 L_26 cs_26 2000) p_26_s = true := by decide +kernel
theorem m_26 (d : Nat) : eC e_26 (d + 1) := eC_ok (e := e_26) (L := L_26) (cs := cs_26) (n := 2000) (d := d + 0) (A := A_26) (μ := mu_26) (tp := true) (p0 := p_26_s) rfl trivial rfl (.inr pre0_ok) (by decide +kernel) (fun _ => post0_ok) r_26_s allN allN
/- Picture.sizeOf (I)I -/
noncomputable def s_53 : vM := ([(3, 3, 19, 0), (0, -2147483648, 2147483647, 0)], (0, -2147483648, 2147483647, 0), 0, 0, [])
noncomputable def e_53 : vE := (53, s_53, pre0, post0)
noncomputable def L_53 : List vE := [e_199]
def cs_53 : List vC := []
def A_53 : Int → List Int → gH → gH → Prop := fun c xs h0 h => True
def mu_53 : Int → List Int → gH → gH → Nat := fun c xs h0 h => 0
def p_53_s : List vG := []
theorem r_53_s : vCovO true (eR0 e_53 L_53 cs_53 2000) p_53_s = true := by decide +kernel
theorem m_53 (d : Nat) : eC e_53 (d + 2) := eC_ok (e := e_53) (L := L_53) (cs := cs_53) (n := 2000) (d := d + 1) (A := A_53) (μ := mu_53) (tp := true) (p0 := p_53_s) rfl ⟨m_199 d, trivial⟩ rfl (.inr pre0_ok) (by decide +kernel) (fun _ => post0_ok) r_53_s allN allN
/- Sheet.cueAt (I)LMixStage$Cue; -/
noncomputable def s_115 : vM := ([(3, 6, -1, 0), (0, -2147483648, 2147483647, 0)], (2, 1, -1, 0), 0, 0, [])
noncomputable def e_115 : vE := (115, s_115, pre0, post0)
noncomputable def L_115 : List vE := []
def cs_115 : List vC := []
def A_115 : Int → List Int → gH → gH → Prop := fun c xs h0 h => True
def mu_115 : Int → List Int → gH → gH → Nat := fun c xs h0 h => 0
theorem q_115_0 {n0 n1 n2 n3 n4 n5 : Int} {H0 : gH} (f0 : n0 ≤ 2147483647) (f1 : (-2147483648) ≤ n0) (f2 : 0 ≤ n1) (f3 : hWt T0 H0 ∧ True) (f4 : 0 ≤ n0) (f5 : n2 ≤ 40) (f6 : 0 ≤ n2) (f7 : hK H0 (n1).toNat = 6) (f8 : n2 = hV H0 (n1).toNat 2) (f9 : n0 < n2) (f10 : 0 ≤ n3) (f11 : hK H0 (n1).toNat = 6) (f12 : n3 = hV H0 (n1).toNat 1) (f13 : n4 = (hN H0 (n3).toNat : Int)) (f14 : n4 = 40) (f15 : n0 < n4) (f16 : 0 ≤ n5) (f17 : hK H0 (n1).toNat = 6) (f18 : n5 = hV H0 (n1).toNat 1) : 0 ≤ n0 ∧ n0 < 40 := by
  have e0 : n2 = hV H0 (n1).toNat 2 := f8
  have e1 : n3 = hV H0 (n1).toNat 1 := f12
  have e2 : n5 = hV H0 (n1).toNat 1 := f18
  omega
theorem c_115_s_0 : vOkm T0 (eP e_115 L_115 A_115 mu_115 none) 2 ([(20, [5, 0], [0], 1), (23, [0], [0], 6), (51, [5], [], 0), (42, [1, 4], [], 0), (0, [4], [], 40), (21, [4, 3], [0], 0), (20, [3, 0], [0], 1), (23, [0], [0], 6), (51, [3], [], 0), (42, [1, 2], [], 0), (20, [2, 0], [0], 2), (23, [0], [0], 6), (90, [2], [], 0), (91, [2], [], 40), (33, [1], [], 0), (6000, [0, 1], [0], 0), (51, [0], [], 0), (90, [1], [], -2147483648), (91, [1], [], 2147483647)], (70, [1], [], 40)) := vOk_in fun ρ η h => by
  obtain ⟨f0, f1, f2, f3, f4, f5, f6, f7, f8, f9, f10, f11, f12, f13, f14, f15, f16, f17, f18, _⟩ := h
  exact q_115_0 (n0 := ρ 1) (n1 := ρ 0) (n2 := ρ 2) (n3 := ρ 3) (n4 := ρ 4) (n5 := ρ 5) (H0 := η 0) f18 f17 f16 f15 f14 f13 f12 f11 f10 f9 f8 f7 f6 f5 f4 f3 f2 f1 f0
def p_115_s : List vG := [([(20, [5, 0], [0], 1), (23, [0], [0], 6), (51, [5], [], 0), (42, [1, 4], [], 0), (0, [4], [], 40), (21, [4, 3], [0], 0), (20, [3, 0], [0], 1), (23, [0], [0], 6), (51, [3], [], 0), (42, [1, 2], [], 0), (20, [2, 0], [0], 2), (23, [0], [0], 6), (90, [2], [], 0), (91, [2], [], 40), (33, [1], [], 0), (6000, [0, 1], [0], 0), (51, [0], [], 0), (90, [1], [], -2147483648), (91, [1], [], 2147483647)], (70, [1], [], 40))]
theorem r_115_s : vCovO true (eR0 e_115 L_115 cs_115 2000) p_115_s = true := by decide +kernel
theorem m_115 (d : Nat) : eC e_115 (d + 1) := eC_ok (e := e_115) (L := L_115) (cs := cs_115) (n := 2000) (d := d + 0) (A := A_115) (μ := mu_115) (tp := true) (p0 := p_115_s) rfl trivial rfl (.inr pre0_ok) (by decide +kernel) (fun _ => post0_ok) r_115_s (allC c_115_s_0 allN) allN
/- View.aim (LMixStage$Bank;I)V -/
noncomputable def s_152 : vM := ([(3, 10, -1, 0), (3, 0, 23, 0), (0, -2147483648, 2147483647, 0)], (9, 0, 0, 0), 0, 0, [(10, 0), (10, 1), (10, 2)])
noncomputable def e_152 : vE := (152, s_152, pre0, post0)
noncomputable def L_152 : List vE := [e_2, e_9, e_317, e_319]
def cs_152 : List vC := [(25, [(0, (3, 10, -1, 0)), (1, (3, 0, 23, 0)), (2, (0, -2147483648, 2147483647, 0)), (3, (0, -2147483648, 2147483647, 0)), (4, (0, -2147483648, 2147483647, 0))])]
def mub_152_25 (a0 a1 a2 x0 x1 x2 x3 x4 : Int) (h0 h : gH) : Nat := (2147483648 - x4).toNat
def A_152 : Int → List Int → gH → gH → Prop := fun c xs h0 h => True
def mu_152 : Int → List Int → gH → gH → Nat := fun c xs h0 h => match c.toNat with
  | 25 => (match xs with
    | [a0, a1, a2, x0, x1, x2, x3, x4] => mub_152_25 a0 a1 a2 x0 x1 x2 x3 x4 h0 h
    | _ => 0)
  | _ => 0
theorem q_152_0 {n0 n1 n2 n3 n4 : Int} {H0 H1 : gH}  : True ∧ ∀ q, none = some q → mub_152_25 n0 n1 n2 n0 n1 n2 n3 n4 H0 H1 < q := by
  exact ⟨trivial, fun q hq => nomatch hq⟩
theorem c_152_s_0 : vOkm T0 (eP e_152 L_152 A_152 mu_152 none) 3 ([], (4000, [0, 1, 2, 3, 10], [4], 25)) := vOk_in fun ρ η h => by
  obtain ⟨_⟩ := h
  exact q_152_0 (n0 := ρ 0) (n1 := ρ 1) (n2 := ρ 2) (n3 := ρ 3) (n4 := ρ 10) (H0 := η 0) (H1 := η 4) 
def p_152_s : List vG := [([], (4000, [0, 1, 2, 3, 10], [4], 25))]
theorem r_152_s : vCovO true (eR0 e_152 L_152 cs_152 2000) p_152_s = true := by decide +kernel
theorem q_152_1 {q0 : Nat} {n0 n1 n2 n3 n4 n5 n6 n7 n8 n9 n10 : Int} {H0 H1 : gH} (f0 : n0 ≤ 2147483647) (f1 : (-2147483648) ≤ n0) (f2 : n1 ≤ 2147483647) (f3 : (-2147483648) ≤ n1) (f4 : n2 ≤ 2147483647) (f5 : (-2147483648) ≤ n2) (f6 : n3 = 23) (f7 : 0 ≤ n4) (f8 : n5 ≤ 2147483647) (f9 : (-2147483648) ≤ n5) (f10 : n6 = 23) (f11 : 0 ≤ n7) (f12 : (hLe T0 H0 H1 ∧ hFr s_152.2.2.2.2 H0 H1 ∧ hWt T0 H1) ∧ (True ∧ True) ∧ some q0 = some (mub_152_25 n7 n6 n5 n4 n3 n2 n1 n0 H0 H1)) (f13 : n8 = 20) (f14 : n8 ≤ n0) (f15 : hK H1 (n4).toNat = 10) (f16 : n9 = hV H1 (n4).toNat 0) (f17 : 0 ≤ n9) (f18 : hK H1 (n4).toNat = 10) (f19 : n10 = hV H1 (n4).toNat 0) : 0 ≤ n10 := by
  have g5 := Option.some.inj f12.2.2
  unfold mub_152_25 at g5
  have e0 : n9 = hV H1 (n4).toNat 0 := f16
  have e1 : n10 = hV H1 (n4).toNat 0 := f19
  omega
theorem c_152_25_0 {q0 : Nat} : vOkm T0 (eP e_152 L_152 A_152 mu_152 (some q0)) 3 ([(20, [11, 3], [1], 0), (23, [3], [1], 10), (51, [9], [], 0), (20, [9, 3], [1], 0), (23, [3], [1], 10), (43, [7, 8], [], 0), (0, [8], [], 20), (5000, [0, 1, 2, 3, 4, 5, 6, 7], [0, 1], 25), (51, [0], [], 0), (0, [1], [], 23), (90, [2], [], -2147483648), (91, [2], [], 2147483647), (51, [3], [], 0), (0, [4], [], 23), (90, [5], [], -2147483648), (91, [5], [], 2147483647), (90, [6], [], -2147483648), (91, [6], [], 2147483647), (90, [7], [], -2147483648), (91, [7], [], 2147483647)], (51, [11], [], 0)) := vOk_in fun ρ η h => by
  obtain ⟨f0, f1, f2, f3, f4, f5, f6, f7, f8, f9, f10, f11, f12, f13, f14, f15, f16, f17, f18, f19, _⟩ := h
  exact q_152_1 (q0 := q0) (n0 := ρ 7) (n1 := ρ 6) (n2 := ρ 5) (n3 := ρ 4) (n4 := ρ 3) (n5 := ρ 2) (n6 := ρ 1) (n7 := ρ 0) (n8 := ρ 8) (n9 := ρ 9) (n10 := ρ 11) (H0 := η 0) (H1 := η 1) f19 f18 f17 f16 f15 f14 f13 f12 f11 f10 f9 f8 f7 f6 f5 f4 f3 f2 f1 f0
theorem q_152_2 {q0 : Nat} {n0 n1 n2 n3 n4 n5 n6 n7 n8 n9 n10 n11 : Int} {H0 H1 : gH} (f0 : n0 ≤ 2147483647) (f1 : (-2147483648) ≤ n0) (f2 : n1 ≤ 2147483647) (f3 : (-2147483648) ≤ n1) (f4 : n2 ≤ 2147483647) (f5 : (-2147483648) ≤ n2) (f6 : n3 = 23) (f7 : 0 ≤ n4) (f8 : n5 ≤ 2147483647) (f9 : (-2147483648) ≤ n5) (f10 : n6 = 23) (f11 : 0 ≤ n7) (f12 : (hLe T0 H0 H1 ∧ hFr s_152.2.2.2.2 H0 H1 ∧ hWt T0 H1) ∧ (True ∧ True) ∧ some q0 = some (mub_152_25 n7 n6 n5 n4 n3 n2 n1 n0 H0 H1)) (f13 : n8 = 20) (f14 : n0 < n8) (f15 : hK H1 (n4).toNat = 10) (f16 : n9 = hV H1 (n4).toNat 0) (f17 : n9 = -1) (f18 : hK H1 (n4).toNat = 10) (f19 : n10 = hV H1 (n4).toNat 0) (f20 : 0 ≤ n10) (f21 : hK H1 (n4).toNat = 10) (f22 : n11 = hV H1 (n4).toNat 0) : 0 ≤ n11 := by
  have g5 := Option.some.inj f12.2.2
  unfold mub_152_25 at g5
  have e0 : n9 = hV H1 (n4).toNat 0 := f16
  have e1 : n10 = hV H1 (n4).toNat 0 := f19
  have e2 : n11 = hV H1 (n4).toNat 0 := f22
  omega
theorem c_152_25_1 {q0 : Nat} : vOkm T0 (eP e_152 L_152 A_152 mu_152 (some q0)) 3 ([(20, [12, 3], [1], 0), (23, [3], [1], 10), (51, [10], [], 0), (20, [10, 3], [1], 0), (23, [3], [1], 10), (50, [9], [], 0), (20, [9, 3], [1], 0), (23, [3], [1], 10), (42, [7, 8], [], 0), (0, [8], [], 20), (5000, [0, 1, 2, 3, 4, 5, 6, 7], [0, 1], 25), (51, [0], [], 0), (0, [1], [], 23), (90, [2], [], -2147483648), (91, [2], [], 2147483647), (51, [3], [], 0), (0, [4], [], 23), (90, [5], [], -2147483648), (91, [5], [], 2147483647), (90, [6], [], -2147483648), (91, [6], [], 2147483647), (90, [7], [], -2147483648), (91, [7], [], 2147483647)], (51, [12], [], 0)) := vOk_in fun ρ η h => by
  obtain ⟨f0, f1, f2, f3, f4, f5, f6, f7, f8, f9, f10, f11, f12, f13, f14, f15, f16, f17, f18, f19, f20, f21, f22, _⟩ := h
  exact q_152_2 (q0 := q0) (n0 := ρ 7) (n1 := ρ 6) (n2 := ρ 5) (n3 := ρ 4) (n4 := ρ 3) (n5 := ρ 2) (n6 := ρ 1) (n7 := ρ 0) (n8 := ρ 8) (n9 := ρ 9) (n10 := ρ 10) (n11 := ρ 12) (H0 := η 0) (H1 := η 1) f22 f21 f20 f19 f18 f17 f16 f15 f14 f13 f12 f11 f10 f9 f8 f7 f6 f5 f4 f3 f2 f1 f0
theorem q_152_3 {q0 : Nat} {n0 n1 n2 n3 n4 n5 n6 n7 n8 n9 n10 : Int} {H0 H1 : gH} (f0 : n0 ≤ 2147483647) (f1 : (-2147483648) ≤ n0) (f2 : n1 ≤ 2147483647) (f3 : (-2147483648) ≤ n1) (f4 : n2 ≤ 2147483647) (f5 : (-2147483648) ≤ n2) (f6 : n3 = 23) (f7 : 0 ≤ n4) (f8 : n5 ≤ 2147483647) (f9 : (-2147483648) ≤ n5) (f10 : n6 = 23) (f11 : 0 ≤ n7) (f12 : (hLe T0 H0 H1 ∧ hFr s_152.2.2.2.2 H0 H1 ∧ hWt T0 H1) ∧ (True ∧ True) ∧ some q0 = some (mub_152_25 n7 n6 n5 n4 n3 n2 n1 n0 H0 H1)) (f13 : n8 = 20) (f14 : n0 < n8) (f15 : hK H1 (n4).toNat = 10) (f16 : n9 = hV H1 (n4).toNat 0) (f17 : 0 ≤ n9) (f18 : hK H1 (n4).toNat = 10) (f19 : n10 = hV H1 (n4).toNat 0) : 0 ≤ n10 := by
  have g5 := Option.some.inj f12.2.2
  unfold mub_152_25 at g5
  have e0 : n9 = hV H1 (n4).toNat 0 := f16
  have e1 : n10 = hV H1 (n4).toNat 0 := f19
  omega
theorem c_152_25_2 {q0 : Nat} : vOkm T0 (eP e_152 L_152 A_152 mu_152 (some q0)) 3 ([(20, [10, 3], [1], 0), (23, [3], [1], 10), (51, [9], [], 0), (20, [9, 3], [1], 0), (23, [3], [1], 10), (42, [7, 8], [], 0), (0, [8], [], 20), (5000, [0, 1, 2, 3, 4, 5, 6, 7], [0, 1], 25), (51, [0], [], 0), (0, [1], [], 23), (90, [2], [], -2147483648), (91, [2], [], 2147483647), (51, [3], [], 0), (0, [4], [], 23), (90, [5], [], -2147483648), (91, [5], [], 2147483647), (90, [6], [], -2147483648), (91, [6], [], 2147483647), (90, [7], [], -2147483648), (91, [7], [], 2147483647)], (51, [10], [], 0)) := vOk_in fun ρ η h => by
  obtain ⟨f0, f1, f2, f3, f4, f5, f6, f7, f8, f9, f10, f11, f12, f13, f14, f15, f16, f17, f18, f19, _⟩ := h
  exact q_152_3 (q0 := q0) (n0 := ρ 7) (n1 := ρ 6) (n2 := ρ 5) (n3 := ρ 4) (n4 := ρ 3) (n5 := ρ 2) (n6 := ρ 1) (n7 := ρ 0) (n8 := ρ 8) (n9 := ρ 9) (n10 := ρ 10) (H0 := η 0) (H1 := η 1) f19 f18 f17 f16 f15 f14 f13 f12 f11 f10 f9 f8 f7 f6 f5 f4 f3 f2 f1 f0
theorem q_152_4 {q0 : Nat} {n0 n1 n2 n3 n4 n5 n6 n7 n8 n9 n10 n11 n12 : Int} {H0 H1 : gH} (f0 : n0 ≤ 2147483647) (f1 : (-2147483648) ≤ n0) (f2 : n1 ≤ 2147483647) (f3 : (-2147483648) ≤ n1) (f4 : n2 ≤ 2147483647) (f5 : (-2147483648) ≤ n2) (f6 : n3 = 23) (f7 : 0 ≤ n4) (f8 : n5 ≤ 2147483647) (f9 : (-2147483648) ≤ n5) (f10 : n6 = 23) (f11 : 0 ≤ n7) (f12 : (hLe T0 H0 H1 ∧ hFr s_152.2.2.2.2 H0 H1 ∧ hWt T0 H1) ∧ (True ∧ True) ∧ some q0 = some (mub_152_25 n7 n6 n5 n4 n3 n2 n1 n0 H0 H1)) (f13 : n8 = 20) (f14 : n0 < n8) (f15 : hK H1 (n4).toNat = 10) (f16 : n9 = hV H1 (n4).toNat 0) (f17 : 0 ≤ n9) (f18 : hK H1 (n4).toNat = 10) (f19 : n10 = hV H1 (n4).toNat 0) (f20 : hK H1 (n10).toNat = 7) (f21 : hK H1 (n4).toNat = 10) (f22 : n11 = hV H1 (n4).toNat 0) (f23 : 0 ≤ n11) (f24 : hK H1 (n4).toNat = 10) (f25 : n12 = hV H1 (n4).toNat 0) : 0 ≤ n12 := by
  have g5 := Option.some.inj f12.2.2
  unfold mub_152_25 at g5
  have e0 : n9 = hV H1 (n4).toNat 0 := f16
  have e1 : n10 = hV H1 (n4).toNat 0 := f19
  have e2 : n11 = hV H1 (n4).toNat 0 := f22
  have e3 : n12 = hV H1 (n4).toNat 0 := f25
  omega
theorem c_152_25_3 {q0 : Nat} : vOkm T0 (eP e_152 L_152 A_152 mu_152 (some q0)) 3 ([(20, [15, 3], [1], 0), (23, [3], [1], 10), (51, [13], [], 0), (20, [13, 3], [1], 0), (23, [3], [1], 10), (23, [10], [1], 7), (20, [10, 3], [1], 0), (23, [3], [1], 10), (51, [9], [], 0), (20, [9, 3], [1], 0), (23, [3], [1], 10), (42, [7, 8], [], 0), (0, [8], [], 20), (5000, [0, 1, 2, 3, 4, 5, 6, 7], [0, 1], 25), (51, [0], [], 0), (0, [1], [], 23), (90, [2], [], -2147483648), (91, [2], [], 2147483647), (51, [3], [], 0), (0, [4], [], 23), (90, [5], [], -2147483648), (91, [5], [], 2147483647), (90, [6], [], -2147483648), (91, [6], [], 2147483647), (90, [7], [], -2147483648), (91, [7], [], 2147483647)], (51, [15], [], 0)) := vOk_in fun ρ η h => by
  obtain ⟨f0, f1, f2, f3, f4, f5, f6, f7, f8, f9, f10, f11, f12, f13, f14, f15, f16, f17, f18, f19, f20, f21, f22, f23, f24, f25, _⟩ := h
  exact q_152_4 (q0 := q0) (n0 := ρ 7) (n1 := ρ 6) (n2 := ρ 5) (n3 := ρ 4) (n4 := ρ 3) (n5 := ρ 2) (n6 := ρ 1) (n7 := ρ 0) (n8 := ρ 8) (n9 := ρ 9) (n10 := ρ 10) (n11 := ρ 13) (n12 := ρ 15) (H0 := η 0) (H1 := η 1) f25 f24 f23 f22 f21 f20 f19 f18 f17 f16 f15 f14 f13 f12 f11 f10 f9 f8 f7 f6 f5 f4 f3 f2 f1 f0
theorem q_152_5 {q0 : Nat} {n0 n1 n2 n3 n4 n5 n6 n7 n8 n9 n10 n11 : Int} {H0 H1 : gH} (f0 : n0 ≤ 2147483647) (f1 : (-2147483648) ≤ n0) (f2 : n1 ≤ 2147483647) (f3 : (-2147483648) ≤ n1) (f4 : n2 ≤ 2147483647) (f5 : (-2147483648) ≤ n2) (f6 : n3 = 23) (f7 : 0 ≤ n4) (f8 : n5 ≤ 2147483647) (f9 : (-2147483648) ≤ n5) (f10 : n6 = 23) (f11 : 0 ≤ n7) (f12 : (hLe T0 H0 H1 ∧ hFr s_152.2.2.2.2 H0 H1 ∧ hWt T0 H1) ∧ (True ∧ True) ∧ some q0 = some (mub_152_25 n7 n6 n5 n4 n3 n2 n1 n0 H0 H1)) (f13 : n8 = 20) (f14 : n0 < n8) (f15 : hK H1 (n4).toNat = 10) (f16 : n9 = hV H1 (n4).toNat 0) (f17 : 0 ≤ n9) (f18 : hK H1 (n4).toNat = 10) (f19 : n10 = hV H1 (n4).toNat 0) (f20 : hK H1 (n10).toNat = 7) (f21 : hK H1 (n4).toNat = 10) (f22 : hK H1 (n4).toNat = 10) (f23 : n11 = hV H1 (n4).toNat 0) : 0 ≤ n11 := by
  have g5 := Option.some.inj f12.2.2
  unfold mub_152_25 at g5
  have e0 : n9 = hV H1 (n4).toNat 0 := f16
  have e1 : n10 = hV H1 (n4).toNat 0 := f19
  have e2 : n11 = hV H1 (n4).toNat 0 := f23
  omega
theorem c_152_25_4 {q0 : Nat} : vOkm T0 (eP e_152 L_152 A_152 mu_152 (some q0)) 3 ([(20, [14, 3], [1], 0), (23, [3], [1], 10), (23, [3], [1], 10), (23, [10], [1], 7), (20, [10, 3], [1], 0), (23, [3], [1], 10), (51, [9], [], 0), (20, [9, 3], [1], 0), (23, [3], [1], 10), (42, [7, 8], [], 0), (0, [8], [], 20), (5000, [0, 1, 2, 3, 4, 5, 6, 7], [0, 1], 25), (51, [0], [], 0), (0, [1], [], 23), (90, [2], [], -2147483648), (91, [2], [], 2147483647), (51, [3], [], 0), (0, [4], [], 23), (90, [5], [], -2147483648), (91, [5], [], 2147483647), (90, [6], [], -2147483648), (91, [6], [], 2147483647), (90, [7], [], -2147483648), (91, [7], [], 2147483647)], (51, [14], [], 0)) := vOk_in fun ρ η h => by
  obtain ⟨f0, f1, f2, f3, f4, f5, f6, f7, f8, f9, f10, f11, f12, f13, f14, f15, f16, f17, f18, f19, f20, f21, f22, f23, _⟩ := h
  exact q_152_5 (q0 := q0) (n0 := ρ 7) (n1 := ρ 6) (n2 := ρ 5) (n3 := ρ 4) (n4 := ρ 3) (n5 := ρ 2) (n6 := ρ 1) (n7 := ρ 0) (n8 := ρ 8) (n9 := ρ 9) (n10 := ρ 10) (n11 := ρ 14) (H0 := η 0) (H1 := η 1) f23 f22 f21 f20 f19 f18 f17 f16 f15 f14 f13 f12 f11 f10 f9 f8 f7 f6 f5 f4 f3 f2 f1 f0
theorem q_152_6 {q0 : Nat} {n0 n1 n2 n3 n4 n5 n6 n7 n8 n9 n10 n11 n12 n13 n14 n15 n16 : Int} {H0 H1 H2 : gH} (f0 : n0 ≤ 2147483647) (f1 : (-2147483648) ≤ n0) (f2 : n1 ≤ 2147483647) (f3 : (-2147483648) ≤ n1) (f4 : n2 ≤ 2147483647) (f5 : (-2147483648) ≤ n2) (f6 : n3 = 23) (f7 : 0 ≤ n4) (f8 : n5 ≤ 2147483647) (f9 : (-2147483648) ≤ n5) (f10 : n6 = 23) (f11 : 0 ≤ n7) (f12 : (hLe T0 H0 H1 ∧ hFr s_152.2.2.2.2 H0 H1 ∧ hWt T0 H1) ∧ (True ∧ True) ∧ some q0 = some (mub_152_25 n7 n6 n5 n4 n3 n2 n1 n0 H0 H1)) (f13 : n8 = 20) (f14 : n0 < n8) (f15 : hK H1 (n4).toNat = 10) (f16 : n9 = hV H1 (n4).toNat 0) (f17 : 0 ≤ n9) (f18 : hK H1 (n4).toNat = 10) (f19 : n10 = hV H1 (n4).toNat 0) (f20 : hK H1 (n10).toNat = 7) (f21 : n11 ≤ 2147483647) (f22 : (-2147483648) ≤ n11) (f23 : hK H1 (n4).toNat = 10) (f24 : n11 = hV H1 (n4).toNat 1) (f25 : hK H1 (n4).toNat = 10) (f26 : n12 = hV H1 (n4).toNat 0) (f27 : n13 ≤ 2147483647) (f28 : (-2147483648) ≤ n13) (f29 : hK H1 (n12).toNat = 7) (f30 : n13 = hV H1 (n12).toNat 1) (f31 : n14 = w32 (n11 + n13)) (f32 : hK H1 (n4).toNat = 10) (f33 : n15 = 1) (f34 : hUpd H2 H1 n4 n15 n14) (f35 : hK H2 (n4).toNat = 10) (f36 : n16 = hV H2 (n4).toNat 0) : 0 ≤ n16 := by
  have g5 := Option.some.inj f12.2.2
  unfold mub_152_25 at g5
  have e0 : n9 = hV H1 (n4).toNat 0 := f16
  have e1 : n10 = hV H1 (n4).toNat 0 := f19
  have e2 : n11 = hV H1 (n4).toNat 1 := f24
  have e3 : n12 = hV H1 (n4).toNat 0 := f26
  have e4 : n13 = hV H1 (n12).toNat 1 := f30
  have e5 : hV H2 (n4).toNat 0 = hV H1 (n4).toNat 0 := uSlot f34 _ _ (iS (show n15 = ((1 : Nat) : Int) from f33) rfl)
  have e6 : n16 = hV H1 (n4).toNat 0 := f36.trans (e5)
  unfold w32 at *
  omega
theorem c_152_25_5 {q0 : Nat} : vOkm T0 (eP e_152 L_152 A_152 mu_152 (some q0)) 3 ([(20, [18, 3], [2], 0), (23, [3], [2], 10), (80, [3, 17, 16], [2, 1], 0), (0, [17], [], 1), (23, [3], [1], 10), (1, [16, 13, 15], [], 0), (20, [15, 14], [1], 1), (23, [14], [1], 7), (90, [15], [], -2147483648), (91, [15], [], 2147483647), (20, [14, 3], [1], 0), (23, [3], [1], 10), (20, [13, 3], [1], 1), (23, [3], [1], 10), (90, [13], [], -2147483648), (91, [13], [], 2147483647), (23, [10], [1], 7), (20, [10, 3], [1], 0), (23, [3], [1], 10), (51, [9], [], 0), (20, [9, 3], [1], 0), (23, [3], [1], 10), (42, [7, 8], [], 0), (0, [8], [], 20), (5000, [0, 1, 2, 3, 4, 5, 6, 7], [0, 1], 25), (51, [0], [], 0), (0, [1], [], 23), (90, [2], [], -2147483648), (91, [2], [], 2147483647), (51, [3], [], 0), (0, [4], [], 23), (90, [5], [], -2147483648), (91, [5], [], 2147483647), (90, [6], [], -2147483648), (91, [6], [], 2147483647), (90, [7], [], -2147483648), (91, [7], [], 2147483647)], (51, [18], [], 0)) := vOk_in fun ρ η h => by
  obtain ⟨f0, f1, f2, f3, f4, f5, f6, f7, f8, f9, f10, f11, f12, f13, f14, f15, f16, f17, f18, f19, f20, f21, f22, f23, f24, f25, f26, f27, f28, f29, f30, f31, f32, f33, f34, f35, f36, _⟩ := h
  exact q_152_6 (q0 := q0) (n0 := ρ 7) (n1 := ρ 6) (n2 := ρ 5) (n3 := ρ 4) (n4 := ρ 3) (n5 := ρ 2) (n6 := ρ 1) (n7 := ρ 0) (n8 := ρ 8) (n9 := ρ 9) (n10 := ρ 10) (n11 := ρ 13) (n12 := ρ 14) (n13 := ρ 15) (n14 := ρ 16) (n15 := ρ 17) (n16 := ρ 18) (H0 := η 0) (H1 := η 1) (H2 := η 2) f36 f35 f34 f33 f32 f31 f30 f29 f28 f27 f26 f25 f24 f23 f22 f21 f20 f19 f18 f17 f16 f15 f14 f13 f12 f11 f10 f9 f8 f7 f6 f5 f4 f3 f2 f1 f0
theorem q_152_7 {q0 : Nat} {n0 n1 n2 n3 n4 n5 n6 n7 n8 n9 n10 n11 n12 n13 n14 n15 n16 n17 : Int} {H0 H1 H2 : gH} (f0 : n0 ≤ 2147483647) (f1 : (-2147483648) ≤ n0) (f2 : n1 ≤ 2147483647) (f3 : (-2147483648) ≤ n1) (f4 : n2 ≤ 2147483647) (f5 : (-2147483648) ≤ n2) (f6 : n3 = 23) (f7 : 0 ≤ n4) (f8 : n5 ≤ 2147483647) (f9 : (-2147483648) ≤ n5) (f10 : n6 = 23) (f11 : 0 ≤ n7) (f12 : (hLe T0 H0 H1 ∧ hFr s_152.2.2.2.2 H0 H1 ∧ hWt T0 H1) ∧ (True ∧ True) ∧ some q0 = some (mub_152_25 n7 n6 n5 n4 n3 n2 n1 n0 H0 H1)) (f13 : n8 = 20) (f14 : n0 < n8) (f15 : hK H1 (n4).toNat = 10) (f16 : n9 = hV H1 (n4).toNat 0) (f17 : 0 ≤ n9) (f18 : hK H1 (n4).toNat = 10) (f19 : n10 = hV H1 (n4).toNat 0) (f20 : hK H1 (n10).toNat = 7) (f21 : n11 ≤ 2147483647) (f22 : (-2147483648) ≤ n11) (f23 : hK H1 (n4).toNat = 10) (f24 : n11 = hV H1 (n4).toNat 1) (f25 : hK H1 (n4).toNat = 10) (f26 : n12 = hV H1 (n4).toNat 0) (f27 : n13 ≤ 2147483647) (f28 : (-2147483648) ≤ n13) (f29 : hK H1 (n12).toNat = 7) (f30 : n13 = hV H1 (n12).toNat 1) (f31 : n14 = w32 (n11 + n13)) (f32 : hK H1 (n4).toNat = 10) (f33 : n15 = 1) (f34 : hUpd H2 H1 n4 n15 n14) (f35 : hK H2 (n4).toNat = 10) (f36 : n16 = hV H2 (n4).toNat 0) (f37 : hK H2 (n16).toNat = 7) (f38 : hK H2 (n4).toNat = 10) (f39 : n17 = hV H2 (n4).toNat 0) : 0 ≤ n17 := by
  have g5 := Option.some.inj f12.2.2
  unfold mub_152_25 at g5
  have e0 : n9 = hV H1 (n4).toNat 0 := f16
  have e1 : n10 = hV H1 (n4).toNat 0 := f19
  have e2 : n11 = hV H1 (n4).toNat 1 := f24
  have e3 : n12 = hV H1 (n4).toNat 0 := f26
  have e4 : n13 = hV H1 (n12).toNat 1 := f30
  have e5 : hV H2 (n4).toNat 0 = hV H1 (n4).toNat 0 := uSlot f34 _ _ (iS (show n15 = ((1 : Nat) : Int) from f33) rfl)
  have e6 : n16 = hV H1 (n4).toNat 0 := f36.trans (e5)
  have e7 : n17 = hV H1 (n4).toNat 0 := f39.trans (e5)
  unfold w32 at *
  omega
theorem c_152_25_6 {q0 : Nat} : vOkm T0 (eP e_152 L_152 A_152 mu_152 (some q0)) 3 ([(20, [21, 3], [2], 0), (23, [3], [2], 10), (23, [18], [2], 7), (20, [18, 3], [2], 0), (23, [3], [2], 10), (80, [3, 17, 16], [2, 1], 0), (0, [17], [], 1), (23, [3], [1], 10), (1, [16, 13, 15], [], 0), (20, [15, 14], [1], 1), (23, [14], [1], 7), (90, [15], [], -2147483648), (91, [15], [], 2147483647), (20, [14, 3], [1], 0), (23, [3], [1], 10), (20, [13, 3], [1], 1), (23, [3], [1], 10), (90, [13], [], -2147483648), (91, [13], [], 2147483647), (23, [10], [1], 7), (20, [10, 3], [1], 0), (23, [3], [1], 10), (51, [9], [], 0), (20, [9, 3], [1], 0), (23, [3], [1], 10), (42, [7, 8], [], 0), (0, [8], [], 20), (5000, [0, 1, 2, 3, 4, 5, 6, 7], [0, 1], 25), (51, [0], [], 0), (0, [1], [], 23), (90, [2], [], -2147483648), (91, [2], [], 2147483647), (51, [3], [], 0), (0, [4], [], 23), (90, [5], [], -2147483648), (91, [5], [], 2147483647), (90, [6], [], -2147483648), (91, [6], [], 2147483647), (90, [7], [], -2147483648), (91, [7], [], 2147483647)], (51, [21], [], 0)) := vOk_in fun ρ η h => by
  obtain ⟨f0, f1, f2, f3, f4, f5, f6, f7, f8, f9, f10, f11, f12, f13, f14, f15, f16, f17, f18, f19, f20, f21, f22, f23, f24, f25, f26, f27, f28, f29, f30, f31, f32, f33, f34, f35, f36, f37, f38, f39, _⟩ := h
  exact q_152_7 (q0 := q0) (n0 := ρ 7) (n1 := ρ 6) (n2 := ρ 5) (n3 := ρ 4) (n4 := ρ 3) (n5 := ρ 2) (n6 := ρ 1) (n7 := ρ 0) (n8 := ρ 8) (n9 := ρ 9) (n10 := ρ 10) (n11 := ρ 13) (n12 := ρ 14) (n13 := ρ 15) (n14 := ρ 16) (n15 := ρ 17) (n16 := ρ 18) (n17 := ρ 21) (H0 := η 0) (H1 := η 1) (H2 := η 2) f39 f38 f37 f36 f35 f34 f33 f32 f31 f30 f29 f28 f27 f26 f25 f24 f23 f22 f21 f20 f19 f18 f17 f16 f15 f14 f13 f12 f11 f10 f9 f8 f7 f6 f5 f4 f3 f2 f1 f0
theorem q_152_8 {q0 : Nat} {n0 n1 n2 n3 n4 n5 n6 n7 n8 n9 n10 n11 n12 n13 n14 n15 n16 n17 n18 n19 n20 n21 n22 : Int} {H0 H1 H2 H3 : gH} (f0 : n0 ≤ 2147483647) (f1 : (-2147483648) ≤ n0) (f2 : n1 ≤ 2147483647) (f3 : (-2147483648) ≤ n1) (f4 : n2 ≤ 2147483647) (f5 : (-2147483648) ≤ n2) (f6 : n3 = 23) (f7 : 0 ≤ n4) (f8 : n5 ≤ 2147483647) (f9 : (-2147483648) ≤ n5) (f10 : n6 = 23) (f11 : 0 ≤ n7) (f12 : (hLe T0 H0 H1 ∧ hFr s_152.2.2.2.2 H0 H1 ∧ hWt T0 H1) ∧ (True ∧ True) ∧ some q0 = some (mub_152_25 n7 n6 n5 n4 n3 n2 n1 n0 H0 H1)) (f13 : n8 = 20) (f14 : n0 < n8) (f15 : hK H1 (n4).toNat = 10) (f16 : n9 = hV H1 (n4).toNat 0) (f17 : 0 ≤ n9) (f18 : hK H1 (n4).toNat = 10) (f19 : n10 = hV H1 (n4).toNat 0) (f20 : hK H1 (n10).toNat = 7) (f21 : n11 ≤ 2147483647) (f22 : (-2147483648) ≤ n11) (f23 : hK H1 (n4).toNat = 10) (f24 : n11 = hV H1 (n4).toNat 1) (f25 : hK H1 (n4).toNat = 10) (f26 : n12 = hV H1 (n4).toNat 0) (f27 : n13 ≤ 2147483647) (f28 : (-2147483648) ≤ n13) (f29 : hK H1 (n12).toNat = 7) (f30 : n13 = hV H1 (n12).toNat 1) (f31 : n14 = w32 (n11 + n13)) (f32 : hK H1 (n4).toNat = 10) (f33 : n15 = 1) (f34 : hUpd H2 H1 n4 n15 n14) (f35 : hK H2 (n4).toNat = 10) (f36 : n16 = hV H2 (n4).toNat 0) (f37 : n17 ≤ 2147483647) (f38 : (-2147483648) ≤ n17) (f39 : hK H2 (n16).toNat = 7) (f40 : n17 = hV H2 (n16).toNat 1) (f41 : n18 = w32 (n1 + n17)) (f42 : hK H2 (n4).toNat = 10) (f43 : n19 = hV H2 (n4).toNat 0) (f44 : n20 ≤ 2147483647) (f45 : (-2147483648) ≤ n20) (f46 : hK H2 (n19).toNat = 7) (f47 : n20 = hV H2 (n19).toNat 2) (f48 : n21 ≤ 2147483647) (f49 : (-2147483648) ≤ n21) (f50 : (hLe T0 H2 H3 ∧ hFr s_319.2.2.2.2 H2 H3 ∧ ((0 : Int) = 0 → H3.length = H2.length) ∧ hWt T0 H3) ∧ postb_319 n21 n18 n20 H2 H3) (f51 : hK H3 (n4).toNat = 10) (f52 : n22 = hV H3 (n4).toNat 0) : 0 ≤ n22 := by
  have g5 := Option.some.inj f12.2.2
  unfold mub_152_25 at g5
  unfold postb_319 at f50
  have e0 : n9 = hV H1 (n4).toNat 0 := f16
  have e1 : n10 = hV H1 (n4).toNat 0 := f19
  have e2 : n11 = hV H1 (n4).toNat 1 := f24
  have e3 : n12 = hV H1 (n4).toNat 0 := f26
  have e4 : n13 = hV H1 (n12).toNat 1 := f30
  have e5 : hV H2 (n4).toNat 0 = hV H1 (n4).toNat 0 := uSlot f34 _ _ (iS (show n15 = ((1 : Nat) : Int) from f33) rfl)
  have e6 : n16 = hV H1 (n4).toNat 0 := f36.trans (e5)
  have e7 : n17 = hV H2 (n16).toNat 1 := f40
  have e8 : n19 = hV H1 (n4).toNat 0 := f43.trans (e5)
  have e9 : hV H2 (n19).toNat 2 = hV H1 (n19).toNat 2 := uSlot f34 _ _ (iS (show n15 = ((1 : Nat) : Int) from f33) rfl)
  have e10 : n20 = hV H1 (n19).toNat 2 := f47.trans (e9)
  have e11 : hV H3 (n4).toNat 0 = hV H2 (n4).toNat 0 := f50.1.2.1.2.2 _ _ f35 rfl 0 (by decide +kernel)
  have e12 : n22 = hV H1 (n4).toNat 0 := f52.trans ((e11).trans e5)
  unfold w32 at *
  omega
theorem c_152_25_7 {q0 : Nat} : vOkm T0 (eP e_152 L_152 A_152 mu_152 (some q0)) 3 ([(20, [24, 3], [3], 0), (23, [3], [3], 10), (1319, [23, 20, 22], [2, 3], 0), (90, [23], [], -2147483648), (91, [23], [], 2147483647), (20, [22, 21], [2], 2), (23, [21], [2], 7), (90, [22], [], -2147483648), (91, [22], [], 2147483647), (20, [21, 3], [2], 0), (23, [3], [2], 10), (1, [20, 6, 19], [], 0), (20, [19, 18], [2], 1), (23, [18], [2], 7), (90, [19], [], -2147483648), (91, [19], [], 2147483647), (20, [18, 3], [2], 0), (23, [3], [2], 10), (80, [3, 17, 16], [2, 1], 0), (0, [17], [], 1), (23, [3], [1], 10), (1, [16, 13, 15], [], 0), (20, [15, 14], [1], 1), (23, [14], [1], 7), (90, [15], [], -2147483648), (91, [15], [], 2147483647), (20, [14, 3], [1], 0), (23, [3], [1], 10), (20, [13, 3], [1], 1), (23, [3], [1], 10), (90, [13], [], -2147483648), (91, [13], [], 2147483647), (23, [10], [1], 7), (20, [10, 3], [1], 0), (23, [3], [1], 10), (51, [9], [], 0), (20, [9, 3], [1], 0), (23, [3], [1], 10), (42, [7, 8], [], 0), (0, [8], [], 20), (5000, [0, 1, 2, 3, 4, 5, 6, 7], [0, 1], 25), (51, [0], [], 0), (0, [1], [], 23), (90, [2], [], -2147483648), (91, [2], [], 2147483647), (51, [3], [], 0), (0, [4], [], 23), (90, [5], [], -2147483648), (91, [5], [], 2147483647), (90, [6], [], -2147483648), (91, [6], [], 2147483647), (90, [7], [], -2147483648), (91, [7], [], 2147483647)], (51, [24], [], 0)) := vOk_in fun ρ η h => by
  obtain ⟨f0, f1, f2, f3, f4, f5, f6, f7, f8, f9, f10, f11, f12, f13, f14, f15, f16, f17, f18, f19, f20, f21, f22, f23, f24, f25, f26, f27, f28, f29, f30, f31, f32, f33, f34, f35, f36, f37, f38, f39, f40, f41, f42, f43, f44, f45, f46, f47, f48, f49, f50, f51, f52, _⟩ := h
  exact q_152_8 (q0 := q0) (n0 := ρ 7) (n1 := ρ 6) (n2 := ρ 5) (n3 := ρ 4) (n4 := ρ 3) (n5 := ρ 2) (n6 := ρ 1) (n7 := ρ 0) (n8 := ρ 8) (n9 := ρ 9) (n10 := ρ 10) (n11 := ρ 13) (n12 := ρ 14) (n13 := ρ 15) (n14 := ρ 16) (n15 := ρ 17) (n16 := ρ 18) (n17 := ρ 19) (n18 := ρ 20) (n19 := ρ 21) (n20 := ρ 22) (n21 := ρ 23) (n22 := ρ 24) (H0 := η 0) (H1 := η 1) (H2 := η 2) (H3 := η 3) f52 f51 f50 f49 f48 f47 f46 f45 f44 f43 f42 f41 f40 f39 f38 f37 f36 f35 f34 f33 f32 f31 f30 f29 f28 f27 f26 f25 f24 f23 f22 f21 f20 f19 f18 f17 f16 f15 f14 f13 f12 f11 f10 f9 f8 f7 f6 f5 f4 f3 f2 f1 f0
theorem q_152_9 {q0 : Nat} {n0 n1 n2 n3 n4 n5 n6 n7 n8 n9 n10 : Int} {H0 H1 H2 : gH} (f0 : n0 ≤ 2147483647) (f1 : (-2147483648) ≤ n0) (f2 : (hLe T0 H0 H1 ∧ hFr s_152.2.2.2.2 H0 H1 ∧ hWt T0 H1) ∧ (True ∧ True) ∧ some q0 = some (mub_152_25 n1 n2 n3 n4 n5 n6 n7 n0 H0 H1)) (f3 : n8 = 20) (f4 : n0 < n8) (f5 : n9 = w32 (n0 + 1)) : True ∧ ∀ q, some q0 = some q → mub_152_25 n1 n2 n3 n4 n5 n6 n10 n9 H0 H2 < q := by
  have g5 := Option.some.inj f2.2.2
  unfold mub_152_25 at g5
  unfold mub_152_25
  unfold w32 at *
  refine ⟨?_, fun q hq => ?_⟩
  · trivial
  · have g6 := Option.some.inj hq
    subst g6
    omega
theorem c_152_25_8 {q0 : Nat} : vOkm T0 (eP e_152 L_152 A_152 mu_152 (some q0)) 3 ([(10, [28, 7], [], 1), (42, [7, 8], [], 0), (0, [8], [], 20), (5000, [0, 1, 2, 3, 4, 5, 6, 7], [0, 1], 25), (90, [7], [], -2147483648), (91, [7], [], 2147483647)], (4000, [3, 4, 5, 23, 28], [5], 25)) := vOk_in fun ρ η h => by
  obtain ⟨f0, f1, f2, f3, f4, f5, _⟩ := h
  exact q_152_9 (q0 := q0) (n0 := ρ 7) (n1 := ρ 0) (n2 := ρ 1) (n3 := ρ 2) (n4 := ρ 3) (n5 := ρ 4) (n6 := ρ 5) (n7 := ρ 6) (n8 := ρ 8) (n9 := ρ 28) (n10 := ρ 23) (H0 := η 0) (H1 := η 1) (H2 := η 5) f5 f4 f3 f2 f1 f0
def p_152_25 : List vG := [([(20, [11, 3], [1], 0), (23, [3], [1], 10), (51, [9], [], 0), (20, [9, 3], [1], 0), (23, [3], [1], 10), (43, [7, 8], [], 0), (0, [8], [], 20), (5000, [0, 1, 2, 3, 4, 5, 6, 7], [0, 1], 25), (51, [0], [], 0), (0, [1], [], 23), (90, [2], [], -2147483648), (91, [2], [], 2147483647), (51, [3], [], 0), (0, [4], [], 23), (90, [5], [], -2147483648), (91, [5], [], 2147483647), (90, [6], [], -2147483648), (91, [6], [], 2147483647), (90, [7], [], -2147483648), (91, [7], [], 2147483647)], (51, [11], [], 0)),
  ([(20, [12, 3], [1], 0), (23, [3], [1], 10), (51, [10], [], 0), (20, [10, 3], [1], 0), (23, [3], [1], 10), (50, [9], [], 0), (20, [9, 3], [1], 0), (23, [3], [1], 10), (42, [7, 8], [], 0), (0, [8], [], 20), (5000, [0, 1, 2, 3, 4, 5, 6, 7], [0, 1], 25), (51, [0], [], 0), (0, [1], [], 23), (90, [2], [], -2147483648), (91, [2], [], 2147483647), (51, [3], [], 0), (0, [4], [], 23), (90, [5], [], -2147483648), (91, [5], [], 2147483647), (90, [6], [], -2147483648), (91, [6], [], 2147483647), (90, [7], [], -2147483648), (91, [7], [], 2147483647)], (51, [12], [], 0)),
  ([(20, [10, 3], [1], 0), (23, [3], [1], 10), (51, [9], [], 0), (20, [9, 3], [1], 0), (23, [3], [1], 10), (42, [7, 8], [], 0), (0, [8], [], 20), (5000, [0, 1, 2, 3, 4, 5, 6, 7], [0, 1], 25), (51, [0], [], 0), (0, [1], [], 23), (90, [2], [], -2147483648), (91, [2], [], 2147483647), (51, [3], [], 0), (0, [4], [], 23), (90, [5], [], -2147483648), (91, [5], [], 2147483647), (90, [6], [], -2147483648), (91, [6], [], 2147483647), (90, [7], [], -2147483648), (91, [7], [], 2147483647)], (51, [10], [], 0)),
  ([(20, [15, 3], [1], 0), (23, [3], [1], 10), (51, [13], [], 0), (20, [13, 3], [1], 0), (23, [3], [1], 10), (23, [10], [1], 7), (20, [10, 3], [1], 0), (23, [3], [1], 10), (51, [9], [], 0), (20, [9, 3], [1], 0), (23, [3], [1], 10), (42, [7, 8], [], 0), (0, [8], [], 20), (5000, [0, 1, 2, 3, 4, 5, 6, 7], [0, 1], 25), (51, [0], [], 0), (0, [1], [], 23), (90, [2], [], -2147483648), (91, [2], [], 2147483647), (51, [3], [], 0), (0, [4], [], 23), (90, [5], [], -2147483648), (91, [5], [], 2147483647), (90, [6], [], -2147483648), (91, [6], [], 2147483647), (90, [7], [], -2147483648), (91, [7], [], 2147483647)], (51, [15], [], 0)),
  ([(20, [14, 3], [1], 0), (23, [3], [1], 10), (23, [3], [1], 10), (23, [10], [1], 7), (20, [10, 3], [1], 0), (23, [3], [1], 10), (51, [9], [], 0), (20, [9, 3], [1], 0), (23, [3], [1], 10), (42, [7, 8], [], 0), (0, [8], [], 20), (5000, [0, 1, 2, 3, 4, 5, 6, 7], [0, 1], 25), (51, [0], [], 0), (0, [1], [], 23), (90, [2], [], -2147483648), (91, [2], [], 2147483647), (51, [3], [], 0), (0, [4], [], 23), (90, [5], [], -2147483648), (91, [5], [], 2147483647), (90, [6], [], -2147483648), (91, [6], [], 2147483647), (90, [7], [], -2147483648), (91, [7], [], 2147483647)], (51, [14], [], 0)),
  ([(20, [18, 3], [2], 0), (23, [3], [2], 10), (80, [3, 17, 16], [2, 1], 0), (0, [17], [], 1), (23, [3], [1], 10), (1, [16, 13, 15], [], 0), (20, [15, 14], [1], 1), (23, [14], [1], 7), (90, [15], [], -2147483648), (91, [15], [], 2147483647), (20, [14, 3], [1], 0), (23, [3], [1], 10), (20, [13, 3], [1], 1), (23, [3], [1], 10), (90, [13], [], -2147483648), (91, [13], [], 2147483647), (23, [10], [1], 7), (20, [10, 3], [1], 0), (23, [3], [1], 10), (51, [9], [], 0), (20, [9, 3], [1], 0), (23, [3], [1], 10), (42, [7, 8], [], 0), (0, [8], [], 20), (5000, [0, 1, 2, 3, 4, 5, 6, 7], [0, 1], 25), (51, [0], [], 0), (0, [1], [], 23), (90, [2], [], -2147483648), (91, [2], [], 2147483647), (51, [3], [], 0), (0, [4], [], 23), (90, [5], [], -2147483648), (91, [5], [], 2147483647), (90, [6], [], -2147483648), (91, [6], [], 2147483647), (90, [7], [], -2147483648), (91, [7], [], 2147483647)], (51, [18], [], 0)),
  ([(20, [21, 3], [2], 0), (23, [3], [2], 10), (23, [18], [2], 7), (20, [18, 3], [2], 0), (23, [3], [2], 10), (80, [3, 17, 16], [2, 1], 0), (0, [17], [], 1), (23, [3], [1], 10), (1, [16, 13, 15], [], 0), (20, [15, 14], [1], 1), (23, [14], [1], 7), (90, [15], [], -2147483648), (91, [15], [], 2147483647), (20, [14, 3], [1], 0), (23, [3], [1], 10), (20, [13, 3], [1], 1), (23, [3], [1], 10), (90, [13], [], -2147483648), (91, [13], [], 2147483647), (23, [10], [1], 7), (20, [10, 3], [1], 0), (23, [3], [1], 10), (51, [9], [], 0), (20, [9, 3], [1], 0), (23, [3], [1], 10), (42, [7, 8], [], 0), (0, [8], [], 20), (5000, [0, 1, 2, 3, 4, 5, 6, 7], [0, 1], 25), (51, [0], [], 0), (0, [1], [], 23), (90, [2], [], -2147483648), (91, [2], [], 2147483647), (51, [3], [], 0), (0, [4], [], 23), (90, [5], [], -2147483648), (91, [5], [], 2147483647), (90, [6], [], -2147483648), (91, [6], [], 2147483647), (90, [7], [], -2147483648), (91, [7], [], 2147483647)], (51, [21], [], 0)),
  ([(20, [24, 3], [3], 0), (23, [3], [3], 10), (1319, [23, 20, 22], [2, 3], 0), (90, [23], [], -2147483648), (91, [23], [], 2147483647), (20, [22, 21], [2], 2), (23, [21], [2], 7), (90, [22], [], -2147483648), (91, [22], [], 2147483647), (20, [21, 3], [2], 0), (23, [3], [2], 10), (1, [20, 6, 19], [], 0), (20, [19, 18], [2], 1), (23, [18], [2], 7), (90, [19], [], -2147483648), (91, [19], [], 2147483647), (20, [18, 3], [2], 0), (23, [3], [2], 10), (80, [3, 17, 16], [2, 1], 0), (0, [17], [], 1), (23, [3], [1], 10), (1, [16, 13, 15], [], 0), (20, [15, 14], [1], 1), (23, [14], [1], 7), (90, [15], [], -2147483648), (91, [15], [], 2147483647), (20, [14, 3], [1], 0), (23, [3], [1], 10), (20, [13, 3], [1], 1), (23, [3], [1], 10), (90, [13], [], -2147483648), (91, [13], [], 2147483647), (23, [10], [1], 7), (20, [10, 3], [1], 0), (23, [3], [1], 10), (51, [9], [], 0), (20, [9, 3], [1], 0), (23, [3], [1], 10), (42, [7, 8], [], 0), (0, [8], [], 20), (5000, [0, 1, 2, 3, 4, 5, 6, 7], [0, 1], 25), (51, [0], [], 0), (0, [1], [], 23), (90, [2], [], -2147483648), (91, [2], [], 2147483647), (51, [3], [], 0), (0, [4], [], 23), (90, [5], [], -2147483648), (91, [5], [], 2147483647), (90, [6], [], -2147483648), (91, [6], [], 2147483647), (90, [7], [], -2147483648), (91, [7], [], 2147483647)], (51, [24], [], 0)),
  ([(10, [28, 7], [], 1), (42, [7, 8], [], 0), (0, [8], [], 20), (5000, [0, 1, 2, 3, 4, 5, 6, 7], [0, 1], 25), (90, [7], [], -2147483648), (91, [7], [], 2147483647)], (4000, [3, 4, 5, 23, 28], [5], 25))]
theorem r_152_25 : vCovO true (eRc e_152 L_152 cs_152 2000 (25, [(0, (3, 10, -1, 0)), (1, (3, 0, 23, 0)), (2, (0, -2147483648, 2147483647, 0)), (3, (0, -2147483648, 2147483647, 0)), (4, (0, -2147483648, 2147483647, 0))])) p_152_25 = true := by decide +kernel
theorem m_152 (d : Nat) : eC e_152 (d + 3) := eC_ok (e := e_152) (L := L_152) (cs := cs_152) (n := 2000) (d := d + 2) (A := A_152) (μ := mu_152) (tp := true) (p0 := p_152_s) rfl ⟨m_2 (d + 1), ⟨m_9 d, ⟨m_317 (d + 1), ⟨m_319 (d + 1), trivial⟩⟩⟩⟩ rfl (.inr pre0_ok) (by decide +kernel) (fun _ => post0_ok) r_152_s (allC c_152_s_0 allN) (allC (.inl ⟨p_152_25, r_152_25, fun q0 => (allC c_152_25_0 (allC c_152_25_1 (allC c_152_25_2 (allC c_152_25_3 (allC c_152_25_4 (allC c_152_25_5 (allC c_152_25_6 (allC c_152_25_7 (allC c_152_25_8 allN)))))))))⟩) allN)
/- Mixer.aroundLoop (LMixStage$Sound;I)I -/
noncomputable def s_38 : vM := ([(3, 7, -1, 0), (0, -2147483648, 2147483647, 0)], (0, -2147483648, 2147483647, 0), 0, 0, [])
noncomputable def e_38 : vE := (38, s_38, pre0, post0)
noncomputable def L_38 : List vE := []
def cs_38 : List vC := []
def A_38 : Int → List Int → gH → gH → Prop := fun c xs h0 h => True
def mu_38 : Int → List Int → gH → gH → Nat := fun c xs h0 h => 0
theorem q_38_0 {n0 n1 n2 n3 n4 n5 n6 n7 n8 : Int} {H0 : gH} (f0 : n0 ≤ 2147483647) (f1 : (-2147483648) ≤ n0) (f2 : 0 ≤ n1) (f3 : hWt T0 H0 ∧ True) (f4 : n2 ≤ 2147483647) (f5 : (-2147483648) ≤ n2) (f6 : hK H0 (n1).toNat = 7) (f7 : n2 = hV H0 (n1).toNat 2) (f8 : n3 ≤ 2147483647) (f9 : (-2147483648) ≤ n3) (f10 : hK H0 (n1).toNat = 7) (f11 : n3 = hV H0 (n1).toNat 1) (f12 : n4 = w32 (n2 - n3)) (f13 : n5 ≤ 2147483647) (f14 : (-2147483648) ≤ n5) (f15 : hK H0 (n1).toNat = 7) (f16 : n5 = hV H0 (n1).toNat 2) (f17 : n5 ≤ n0) (f18 : 0 < n4) (f19 : n6 ≤ 2147483647) (f20 : (-2147483648) ≤ n6) (f21 : hK H0 (n1).toNat = 7) (f22 : n6 = hV H0 (n1).toNat 1) (f23 : n7 ≤ 2147483647) (f24 : (-2147483648) ≤ n7) (f25 : hK H0 (n1).toNat = 7) (f26 : n7 = hV H0 (n1).toNat 1) (f27 : n8 = w32 (n0 - n7)) : n4 ≠ 0 := by
  have e0 : n2 = hV H0 (n1).toNat 2 := f7
  have e1 : n3 = hV H0 (n1).toNat 1 := f11
  have e2 : n5 = hV H0 (n1).toNat 2 := f16
  have e3 : n6 = hV H0 (n1).toNat 1 := f22
  have e4 : n7 = hV H0 (n1).toNat 1 := f26
  unfold w32 at *
  omega
theorem c_38_s_0 : vOkm T0 (eP e_38 L_38 A_38 mu_38 none) 2 ([(2, [8, 1, 7], [], 0), (20, [7, 0], [0], 1), (23, [0], [0], 7), (90, [7], [], -2147483648), (91, [7], [], 2147483647), (20, [6, 0], [0], 1), (23, [0], [0], 7), (90, [6], [], -2147483648), (91, [6], [], 2147483647), (34, [4], [], 0), (43, [1, 5], [], 0), (20, [5, 0], [0], 2), (23, [0], [0], 7), (90, [5], [], -2147483648), (91, [5], [], 2147483647), (2, [4, 2, 3], [], 0), (20, [3, 0], [0], 1), (23, [0], [0], 7), (90, [3], [], -2147483648), (91, [3], [], 2147483647), (20, [2, 0], [0], 2), (23, [0], [0], 7), (90, [2], [], -2147483648), (91, [2], [], 2147483647), (6000, [0, 1], [0], 0), (51, [0], [], 0), (90, [1], [], -2147483648), (91, [1], [], 2147483647)], (72, [4], [], 0)) := vOk_in fun ρ η h => by
  obtain ⟨f0, f1, f2, f3, f4, f5, f6, f7, f8, f9, f10, f11, f12, f13, f14, f15, f16, f17, f18, f19, f20, f21, f22, f23, f24, f25, f26, f27, _⟩ := h
  exact q_38_0 (n0 := ρ 1) (n1 := ρ 0) (n2 := ρ 2) (n3 := ρ 3) (n4 := ρ 4) (n5 := ρ 5) (n6 := ρ 6) (n7 := ρ 7) (n8 := ρ 8) (H0 := η 0) f27 f26 f25 f24 f23 f22 f21 f20 f19 f18 f17 f16 f15 f14 f13 f12 f11 f10 f9 f8 f7 f6 f5 f4 f3 f2 f1 f0
def p_38_s : List vG := [([(2, [8, 1, 7], [], 0), (20, [7, 0], [0], 1), (23, [0], [0], 7), (90, [7], [], -2147483648), (91, [7], [], 2147483647), (20, [6, 0], [0], 1), (23, [0], [0], 7), (90, [6], [], -2147483648), (91, [6], [], 2147483647), (34, [4], [], 0), (43, [1, 5], [], 0), (20, [5, 0], [0], 2), (23, [0], [0], 7), (90, [5], [], -2147483648), (91, [5], [], 2147483647), (2, [4, 2, 3], [], 0), (20, [3, 0], [0], 1), (23, [0], [0], 7), (90, [3], [], -2147483648), (91, [3], [], 2147483647), (20, [2, 0], [0], 2), (23, [0], [0], 7), (90, [2], [], -2147483648), (91, [2], [], 2147483647), (6000, [0, 1], [0], 0), (51, [0], [], 0), (90, [1], [], -2147483648), (91, [1], [], 2147483647)], (72, [4], [], 0))]
theorem r_38_s : vCovO true (eR0 e_38 L_38 cs_38 2000) p_38_s = true := by decide +kernel
theorem m_38 (d : Nat) : eC e_38 (d + 1) := eC_ok (e := e_38) (L := L_38) (cs := cs_38) (n := 2000) (d := d + 0) (A := A_38) (μ := mu_38) (tp := true) (p0 := p_38_s) rfl trivial rfl (.inr pre0_ok) (by decide +kernel) (fun _ => post0_ok) r_38_s (allC c_38_s_0 allN) allN
/- View.sampleAt (I)I -/
noncomputable def s_153 : vM := ([(3, 10, -1, 0), (0, -2147483648, 2147483647, 0)], (0, -2147483648, 2147483647, 0), 0, 0, [])
noncomputable def e_153 : vE := (153, s_153, pre0, post0)
noncomputable def L_153 : List vE := [e_199]
def cs_153 : List vC := []
def A_153 : Int → List Int → gH → gH → Prop := fun c xs h0 h => True
def mu_153 : Int → List Int → gH → gH → Nat := fun c xs h0 h => 0
theorem q_153_0 {n0 n1 n2 n3 : Int} {H0 : gH} (f0 : n0 ≤ 2147483647) (f1 : (-2147483648) ≤ n0) (f2 : 0 ≤ n1) (f3 : hWt T0 H0 ∧ True) (f4 : hK H0 (n1).toNat = 10) (f5 : n2 = hV H0 (n1).toNat 0) (f6 : 0 ≤ n2) (f7 : hK H0 (n1).toNat = 10) (f8 : n3 = hV H0 (n1).toNat 0) : 0 ≤ n3 := by
  have e0 : n2 = hV H0 (n1).toNat 0 := f5
  have e1 : n3 = hV H0 (n1).toNat 0 := f8
  omega
theorem c_153_s_0 : vOkm T0 (eP e_153 L_153 A_153 mu_153 none) 2 ([(20, [3, 0], [0], 0), (23, [0], [0], 10), (51, [2], [], 0), (20, [2, 0], [0], 0), (23, [0], [0], 10), (6000, [0, 1], [0], 0), (51, [0], [], 0), (90, [1], [], -2147483648), (91, [1], [], 2147483647)], (51, [3], [], 0)) := vOk_in fun ρ η h => by
  obtain ⟨f0, f1, f2, f3, f4, f5, f6, f7, f8, _⟩ := h
  exact q_153_0 (n0 := ρ 1) (n1 := ρ 0) (n2 := ρ 2) (n3 := ρ 3) (H0 := η 0) f8 f7 f6 f5 f4 f3 f2 f1 f0
theorem q_153_1 {n0 n1 n2 n3 n4 n5 : Int} {H0 : gH} (f0 : n0 ≤ 2147483647) (f1 : (-2147483648) ≤ n0) (f2 : 0 ≤ n1) (f3 : hWt T0 H0 ∧ True) (f4 : hK H0 (n1).toNat = 10) (f5 : n2 = hV H0 (n1).toNat 0) (f6 : 0 ≤ n2) (f7 : hK H0 (n1).toNat = 10) (f8 : n3 = hV H0 (n1).toNat 0) (f9 : hK H0 (n3).toNat = 7) (f10 : 0 ≤ n0) (f11 : n4 ≤ 2147483647) (f12 : (-2147483648) ≤ n4) (f13 : hK H0 (n1).toNat = 10) (f14 : n4 = hV H0 (n1).toNat 2) (f15 : n0 < n4) (f16 : hK H0 (n1).toNat = 10) (f17 : n5 = hV H0 (n1).toNat 0) : 0 ≤ n5 := by
  have e0 : n2 = hV H0 (n1).toNat 0 := f5
  have e1 : n3 = hV H0 (n1).toNat 0 := f8
  have e2 : n4 = hV H0 (n1).toNat 2 := f14
  have e3 : n5 = hV H0 (n1).toNat 0 := f17
  omega
theorem c_153_s_1 : vOkm T0 (eP e_153 L_153 A_153 mu_153 none) 2 ([(20, [7, 0], [0], 0), (23, [0], [0], 10), (42, [1, 6], [], 0), (20, [6, 0], [0], 2), (23, [0], [0], 10), (90, [6], [], -2147483648), (91, [6], [], 2147483647), (33, [1], [], 0), (23, [3], [0], 7), (20, [3, 0], [0], 0), (23, [0], [0], 10), (51, [2], [], 0), (20, [2, 0], [0], 0), (23, [0], [0], 10), (6000, [0, 1], [0], 0), (51, [0], [], 0), (90, [1], [], -2147483648), (91, [1], [], 2147483647)], (51, [7], [], 0)) := vOk_in fun ρ η h => by
  obtain ⟨f0, f1, f2, f3, f4, f5, f6, f7, f8, f9, f10, f11, f12, f13, f14, f15, f16, f17, _⟩ := h
  exact q_153_1 (n0 := ρ 1) (n1 := ρ 0) (n2 := ρ 2) (n3 := ρ 3) (n4 := ρ 6) (n5 := ρ 7) (H0 := η 0) f17 f16 f15 f14 f13 f12 f11 f10 f9 f8 f7 f6 f5 f4 f3 f2 f1 f0
def p_153_s : List vG := [([(20, [3, 0], [0], 0), (23, [0], [0], 10), (51, [2], [], 0), (20, [2, 0], [0], 0), (23, [0], [0], 10), (6000, [0, 1], [0], 0), (51, [0], [], 0), (90, [1], [], -2147483648), (91, [1], [], 2147483647)], (51, [3], [], 0)),
  ([(20, [7, 0], [0], 0), (23, [0], [0], 10), (42, [1, 6], [], 0), (20, [6, 0], [0], 2), (23, [0], [0], 10), (90, [6], [], -2147483648), (91, [6], [], 2147483647), (33, [1], [], 0), (23, [3], [0], 7), (20, [3, 0], [0], 0), (23, [0], [0], 10), (51, [2], [], 0), (20, [2, 0], [0], 0), (23, [0], [0], 10), (6000, [0, 1], [0], 0), (51, [0], [], 0), (90, [1], [], -2147483648), (91, [1], [], 2147483647)], (51, [7], [], 0))]
theorem r_153_s : vCovO true (eR0 e_153 L_153 cs_153 2000) p_153_s = true := by decide +kernel
theorem m_153 (d : Nat) : eC e_153 (d + 2) := eC_ok (e := e_153) (L := L_153) (cs := cs_153) (n := 2000) (d := d + 1) (A := A_153) (μ := mu_153) (tp := true) (p0 := p_153_s) rfl ⟨m_199 d, trivial⟩ rfl (.inr pre0_ok) (by decide +kernel) (fun _ => post0_ok) r_153_s (allC c_153_s_0 (allC c_153_s_1 allN)) allN
/- Mixer.spread (LMixStage$Cue;II)V -/
noncomputable def s_37 : vM := ([(3, 2, 274, 0), (3, 1, -1, 0), (0, -2147483648, 2147483647, 0), (0, -2147483648, 2147483647, 0)], (9, 0, 0, 0), 0, 0, [(10, 0), (10, 1), (10, 2), (100, 0)])
noncomputable def e_37 : vE := (37, s_37, pre0, post0)
noncomputable def L_37 : List vE := [e_2, e_8, e_38, e_152, e_153, e_201]
def cs_37 : List vC := [(92, [(0, (3, 2, 274, 0)), (1, (3, 1, -1, 0)), (2, (0, -2147483648, 2147483647, 0)), (3, (0, -2147483648, 2147483647, 0)), (4, (2, 7, -1, 0)), (5, (0, -2147483648, 2147483647, 0)), (6, (0, -2147483648, 2147483647, 0)), (7, (0, -2147483648, 2147483647, 0)), (8, (0, -2147483648, 2147483647, 0))])]
def Ab_37_92 (a0 a1 a2 a3 x0 x1 x2 x3 x4 x5 x6 x7 x8 : Int) (h0 h : gH) : Prop := x5 ≠ 0 → 0 ≤ x4
def mub_37_92 (a0 a1 a2 a3 x0 x1 x2 x3 x4 x5 x6 x7 x8 : Int) (h0 h : gH) : Nat := (2147483648 - x8).toNat
def A_37 : Int → List Int → gH → gH → Prop := fun c xs h0 h => match c.toNat with
  | 92 => (match xs with
    | [a0, a1, a2, a3, x0, x1, x2, x3, x4, x5, x6, x7, x8] => Ab_37_92 a0 a1 a2 a3 x0 x1 x2 x3 x4 x5 x6 x7 x8 h0 h
    | _ => False)
  | _ => True
def mu_37 : Int → List Int → gH → gH → Nat := fun c xs h0 h => match c.toNat with
  | 92 => (match xs with
    | [a0, a1, a2, a3, x0, x1, x2, x3, x4, x5, x6, x7, x8] => mub_37_92 a0 a1 a2 a3 x0 x1 x2 x3 x4 x5 x6 x7 x8 h0 h
    | _ => 0)
  | _ => 0
theorem q_37_0 {n0 n1 n2 n3 n4 n5 n6 n7 n8 : Int} {H0 H1 : gH} (f0 : n0 = -1) (f1 : n1 = 0) (f2 : n2 = 0) : Ab_37_92 n3 n4 n5 n6 n3 n4 n5 n6 n0 n1 n7 n8 n2 H0 H1 ∧ ∀ q, none = some q → mub_37_92 n3 n4 n5 n6 n3 n4 n5 n6 n0 n1 n7 n8 n2 H0 H1 < q := by
  unfold Ab_37_92
  refine ⟨?_, fun q hq => ?_⟩
  · omega
  · exact nomatch hq
theorem c_37_s_0 : vOkm T0 (eP e_37 L_37 A_37 mu_37 none) 4 ([(0, [22], [], 0), (0, [10], [], 0), (50, [6], [], 0)], (4000, [0, 1, 2, 3, 6, 10, 16, 21, 22], [3], 92)) := vOk_in fun ρ η h => by
  obtain ⟨f0, f1, f2, _⟩ := h
  exact q_37_0 (n0 := ρ 6) (n1 := ρ 10) (n2 := ρ 22) (n3 := ρ 0) (n4 := ρ 1) (n5 := ρ 2) (n6 := ρ 3) (n7 := ρ 16) (n8 := ρ 21) (H0 := η 0) (H1 := η 3) f2 f1 f0
theorem c_37_s_1 : vOkm T0 (eP e_37 L_37 A_37 mu_37 none) 4 ([(0, [20], [], 0), (0, [10], [], 0), (50, [6], [], 0)], (4000, [0, 1, 2, 3, 6, 10, 16, 19, 20], [3], 92)) := vOk_in fun ρ η h => by
  obtain ⟨f0, f1, f2, _⟩ := h
  exact q_37_0 (n0 := ρ 6) (n1 := ρ 10) (n2 := ρ 20) (n3 := ρ 0) (n4 := ρ 1) (n5 := ρ 2) (n6 := ρ 3) (n7 := ρ 16) (n8 := ρ 19) (H0 := η 0) (H1 := η 3) f2 f1 f0
theorem q_37_1 {n0 n1 n2 n3 n4 n5 n6 n7 n8 : Int} {H0 H1 : gH} (f0 : 0 ≤ n0) (f1 : n1 = 0) (f2 : n2 = 0) : Ab_37_92 n3 n4 n5 n6 n3 n4 n5 n6 n0 n1 n7 n8 n2 H0 H1 ∧ ∀ q, none = some q → mub_37_92 n3 n4 n5 n6 n3 n4 n5 n6 n0 n1 n7 n8 n2 H0 H1 < q := by
  unfold Ab_37_92
  refine ⟨?_, fun q hq => ?_⟩
  · omega
  · exact nomatch hq
theorem c_37_s_2 : vOkm T0 (eP e_37 L_37 A_37 mu_37 none) 4 ([(0, [24], [], 0), (0, [12], [], 0), (51, [6], [], 0)], (4000, [0, 1, 2, 3, 6, 12, 18, 23, 24], [3], 92)) := vOk_in fun ρ η h => by
  obtain ⟨f0, f1, f2, _⟩ := h
  exact q_37_1 (n0 := ρ 6) (n1 := ρ 12) (n2 := ρ 24) (n3 := ρ 0) (n4 := ρ 1) (n5 := ρ 2) (n6 := ρ 3) (n7 := ρ 18) (n8 := ρ 23) (H0 := η 0) (H1 := η 3) f2 f1 f0
theorem c_37_s_3 : vOkm T0 (eP e_37 L_37 A_37 mu_37 none) 4 ([(0, [22], [], 0), (0, [12], [], 0), (51, [6], [], 0)], (4000, [0, 1, 2, 3, 6, 12, 18, 21, 22], [3], 92)) := vOk_in fun ρ η h => by
  obtain ⟨f0, f1, f2, _⟩ := h
  exact q_37_1 (n0 := ρ 6) (n1 := ρ 12) (n2 := ρ 22) (n3 := ρ 0) (n4 := ρ 1) (n5 := ρ 2) (n6 := ρ 3) (n7 := ρ 18) (n8 := ρ 21) (H0 := η 0) (H1 := η 3) f2 f1 f0
theorem q_37_2 {n0 n1 n2 n3 n4 n5 n6 n7 n8 : Int} {H0 H1 : gH} (f0 : 0 ≤ n0) (f1 : n1 = 1) (f2 : n2 = 0) : Ab_37_92 n3 n4 n5 n6 n3 n4 n5 n6 n0 n1 n7 n8 n2 H0 H1 ∧ ∀ q, none = some q → mub_37_92 n3 n4 n5 n6 n3 n4 n5 n6 n0 n1 n7 n8 n2 H0 H1 < q := by
  unfold Ab_37_92
  refine ⟨?_, fun q hq => ?_⟩
  · omega
  · exact nomatch hq
theorem c_37_s_4 : vOkm T0 (eP e_37 L_37 A_37 mu_37 none) 4 ([(0, [24], [], 0), (0, [12], [], 1), (51, [6], [], 0)], (4000, [0, 1, 2, 3, 6, 12, 18, 23, 24], [3], 92)) := vOk_in fun ρ η h => by
  obtain ⟨f0, f1, f2, _⟩ := h
  exact q_37_2 (n0 := ρ 6) (n1 := ρ 12) (n2 := ρ 24) (n3 := ρ 0) (n4 := ρ 1) (n5 := ρ 2) (n6 := ρ 3) (n7 := ρ 18) (n8 := ρ 23) (H0 := η 0) (H1 := η 3) f2 f1 f0
theorem c_37_s_5 : vOkm T0 (eP e_37 L_37 A_37 mu_37 none) 4 ([(0, [22], [], 0), (0, [12], [], 1), (51, [6], [], 0)], (4000, [0, 1, 2, 3, 6, 12, 18, 21, 22], [3], 92)) := vOk_in fun ρ η h => by
  obtain ⟨f0, f1, f2, _⟩ := h
  exact q_37_2 (n0 := ρ 6) (n1 := ρ 12) (n2 := ρ 22) (n3 := ρ 0) (n4 := ρ 1) (n5 := ρ 2) (n6 := ρ 3) (n7 := ρ 18) (n8 := ρ 21) (H0 := η 0) (H1 := η 3) f2 f1 f0
def p_37_s : List vG := [([(0, [22], [], 0), (0, [10], [], 0), (50, [6], [], 0)], (4000, [0, 1, 2, 3, 6, 10, 16, 21, 22], [3], 92)),
  ([(0, [20], [], 0), (0, [10], [], 0), (50, [6], [], 0)], (4000, [0, 1, 2, 3, 6, 10, 16, 19, 20], [3], 92)),
  ([(0, [24], [], 0), (0, [12], [], 0), (51, [6], [], 0)], (4000, [0, 1, 2, 3, 6, 12, 18, 23, 24], [3], 92)),
  ([(0, [22], [], 0), (0, [12], [], 0), (51, [6], [], 0)], (4000, [0, 1, 2, 3, 6, 12, 18, 21, 22], [3], 92)),
  ([(0, [24], [], 0), (0, [12], [], 1), (51, [6], [], 0)], (4000, [0, 1, 2, 3, 6, 12, 18, 23, 24], [3], 92)),
  ([(0, [22], [], 0), (0, [12], [], 1), (51, [6], [], 0)], (4000, [0, 1, 2, 3, 6, 12, 18, 21, 22], [3], 92))]
theorem r_37_s : vCovO true (eR0 e_37 L_37 cs_37 2000) p_37_s = true := by decide +kernel
theorem q_37_3 {q0 : Nat} {n0 n1 n2 n3 n4 n5 n6 n7 n8 n9 n10 n11 n12 n13 : Int} {H0 H1 H2 : gH} (f0 : n0 ≤ 2147483647) (f1 : (-2147483648) ≤ n0) (f2 : n1 ≤ 2147483647) (f3 : (-2147483648) ≤ n1) (f4 : n2 ≤ 2147483647) (f5 : (-2147483648) ≤ n2) (f6 : n3 ≤ 2147483647) (f7 : (-2147483648) ≤ n3) (f8 : (hLe T0 H0 H1 ∧ hFr s_37.2.2.2.2 H0 H1 ∧ hWt T0 H1) ∧ (Ab_37_92 n4 n5 n6 n7 n8 n9 n10 n3 n11 n2 n1 n12 n0 H0 H1 ∧ True) ∧ some q0 = some (mub_37_92 n4 n5 n6 n7 n8 n9 n10 n3 n11 n2 n1 n12 n0 H0 H1)) (f9 : n0 < n3) (f10 : n0 < n1) (f11 : n13 = w32 (n0 + 1)) : Ab_37_92 n4 n5 n6 n7 n8 n9 n10 n3 n11 n2 n1 n12 n13 H0 H2 ∧ ∀ q, some q0 = some q → mub_37_92 n4 n5 n6 n7 n8 n9 n10 n3 n11 n2 n1 n12 n13 H0 H2 < q := by
  have g4 := f8.2.1.1
  unfold Ab_37_92 at g4
  have g5 := Option.some.inj f8.2.2
  unfold mub_37_92 at g5
  unfold Ab_37_92
  unfold mub_37_92
  unfold w32 at *
  refine ⟨?_, fun q hq => ?_⟩
  · omega
  · have g6 := Option.some.inj hq
    subst g6
    omega
theorem c_37_92_0 {q0 : Nat} : vOkm T0 (eP e_37 L_37 A_37 mu_37 (some q0)) 4 ([(10, [18, 12], [], 1), (42, [12, 10], [], 0), (42, [12, 7], [], 0), (5000, [0, 1, 2, 3, 4, 5, 6, 7, 8, 9, 10, 11, 12], [0, 1], 92), (90, [7], [], -2147483648), (91, [7], [], 2147483647), (90, [9], [], -2147483648), (91, [9], [], 2147483647), (90, [10], [], -2147483648), (91, [10], [], 2147483647), (90, [12], [], -2147483648), (91, [12], [], 2147483647)], (4000, [4, 5, 6, 7, 8, 9, 10, 11, 18], [2], 92)) := vOk_in fun ρ η h => by
  obtain ⟨f0, f1, f2, f3, f4, f5, f6, f7, f8, f9, f10, f11, _⟩ := h
  exact q_37_3 (q0 := q0) (n0 := ρ 12) (n1 := ρ 10) (n2 := ρ 9) (n3 := ρ 7) (n4 := ρ 0) (n5 := ρ 1) (n6 := ρ 2) (n7 := ρ 3) (n8 := ρ 4) (n9 := ρ 5) (n10 := ρ 6) (n11 := ρ 8) (n12 := ρ 11) (n13 := ρ 18) (H0 := η 0) (H1 := η 1) (H2 := η 2) f11 f10 f9 f8 f7 f6 f5 f4 f3 f2 f1 f0
theorem q_37_4 {q0 : Nat} {n0 n1 n2 n3 n4 n5 n6 n7 n8 n9 n10 n11 n12 n13 : Int} {H0 H1 H2 : gH} (f0 : n0 ≤ 2147483647) (f1 : (-2147483648) ≤ n0) (f2 : n1 ≤ 2147483647) (f3 : (-2147483648) ≤ n1) (f4 : n2 ≤ 2147483647) (f5 : (-2147483648) ≤ n2) (f6 : n3 ≤ 2147483647) (f7 : (-2147483648) ≤ n3) (f8 : (hLe T0 H0 H1 ∧ hFr s_37.2.2.2.2 H0 H1 ∧ hWt T0 H1) ∧ (Ab_37_92 n4 n5 n6 n7 n8 n9 n10 n3 n11 n2 n1 n12 n0 H0 H1 ∧ True) ∧ some q0 = some (mub_37_92 n4 n5 n6 n7 n8 n9 n10 n3 n11 n2 n1 n12 n0 H0 H1)) (f9 : n0 < n3) (f10 : n1 ≤ n0) (f11 : n13 = w32 (n0 + 1)) : Ab_37_92 n4 n5 n6 n7 n8 n9 n10 n3 n11 n2 n1 n12 n13 H0 H2 ∧ ∀ q, some q0 = some q → mub_37_92 n4 n5 n6 n7 n8 n9 n10 n3 n11 n2 n1 n12 n13 H0 H2 < q := by
  have g4 := f8.2.1.1
  unfold Ab_37_92 at g4
  have g5 := Option.some.inj f8.2.2
  unfold mub_37_92 at g5
  unfold Ab_37_92
  unfold mub_37_92
  unfold w32 at *
  refine ⟨?_, fun q hq => ?_⟩
  · omega
  · have g6 := Option.some.inj hq
    subst g6
    omega
theorem c_37_92_1 {q0 : Nat} : vOkm T0 (eP e_37 L_37 A_37 mu_37 (some q0)) 4 ([(10, [19, 12], [], 1), (43, [12, 10], [], 0), (42, [12, 7], [], 0), (5000, [0, 1, 2, 3, 4, 5, 6, 7, 8, 9, 10, 11, 12], [0, 1], 92), (90, [7], [], -2147483648), (91, [7], [], 2147483647), (90, [9], [], -2147483648), (91, [9], [], 2147483647), (90, [10], [], -2147483648), (91, [10], [], 2147483647), (90, [12], [], -2147483648), (91, [12], [], 2147483647)], (4000, [4, 5, 6, 7, 8, 9, 10, 11, 19], [2], 92)) := vOk_in fun ρ η h => by
  obtain ⟨f0, f1, f2, f3, f4, f5, f6, f7, f8, f9, f10, f11, _⟩ := h
  exact q_37_4 (q0 := q0) (n0 := ρ 12) (n1 := ρ 10) (n2 := ρ 9) (n3 := ρ 7) (n4 := ρ 0) (n5 := ρ 1) (n6 := ρ 2) (n7 := ρ 3) (n8 := ρ 4) (n9 := ρ 5) (n10 := ρ 6) (n11 := ρ 8) (n12 := ρ 11) (n13 := ρ 19) (H0 := η 0) (H1 := η 1) (H2 := η 2) f11 f10 f9 f8 f7 f6 f5 f4 f3 f2 f1 f0
theorem c_37_92_2 {q0 : Nat} : vOkm T0 (eP e_37 L_37 A_37 mu_37 (some q0)) 4 ([(10, [20, 12], [], 1), (43, [12, 10], [], 0), (42, [12, 7], [], 0), (5000, [0, 1, 2, 3, 4, 5, 6, 7, 8, 9, 10, 11, 12], [0, 1], 92), (90, [7], [], -2147483648), (91, [7], [], 2147483647), (90, [9], [], -2147483648), (91, [9], [], 2147483647), (90, [10], [], -2147483648), (91, [10], [], 2147483647), (90, [12], [], -2147483648), (91, [12], [], 2147483647)], (4000, [4, 5, 6, 7, 8, 9, 10, 11, 20], [2], 92)) := vOk_in fun ρ η h => by
  obtain ⟨f0, f1, f2, f3, f4, f5, f6, f7, f8, f9, f10, f11, _⟩ := h
  exact q_37_4 (q0 := q0) (n0 := ρ 12) (n1 := ρ 10) (n2 := ρ 9) (n3 := ρ 7) (n4 := ρ 0) (n5 := ρ 1) (n6 := ρ 2) (n7 := ρ 3) (n8 := ρ 4) (n9 := ρ 5) (n10 := ρ 6) (n11 := ρ 8) (n12 := ρ 11) (n13 := ρ 20) (H0 := η 0) (H1 := η 1) (H2 := η 2) f11 f10 f9 f8 f7 f6 f5 f4 f3 f2 f1 f0
theorem q_37_5 {q0 : Nat} {n0 n1 n2 n3 n4 n5 n6 n7 n8 n9 n10 n11 n12 n13 n14 n15 n16 : Int} {H0 H1 : gH} (f0 : n0 ≤ 2147483647) (f1 : (-2147483648) ≤ n0) (f2 : n1 ≤ 2147483647) (f3 : (-2147483648) ≤ n1) (f4 : n2 ≤ 2147483647) (f5 : (-2147483648) ≤ n2) (f6 : n3 ≤ 2147483647) (f7 : (-2147483648) ≤ n3) (f8 : n4 ≤ 2147483647) (f9 : (-2147483648) ≤ n4) (f10 : n5 ≤ 2147483647) (f11 : (-2147483648) ≤ n5) (f12 : 0 ≤ n6) (f13 : n7 = 274) (f14 : n8 ≤ 2147483647) (f15 : (-2147483648) ≤ n8) (f16 : n9 ≤ 2147483647) (f17 : (-2147483648) ≤ n9) (f18 : 0 ≤ n10) (f19 : n11 = 274) (f20 : (hLe T0 H0 H1 ∧ hFr s_37.2.2.2.2 H0 H1 ∧ hWt T0 H1) ∧ (Ab_37_92 n11 n10 n9 n8 n7 n6 n5 n4 n12 n3 n2 n1 n0 H0 H1 ∧ True) ∧ some q0 = some (mub_37_92 n11 n10 n9 n8 n7 n6 n5 n4 n12 n3 n2 n1 n0 H0 H1)) (f21 : n0 < n4) (f22 : n2 ≤ n0) (f23 : n13 = w32 (n0 - n2)) (f24 : n13 < n1) (f25 : n14 ≤ 2147483647) (f26 : (-2147483648) ≤ n14) (f27 : hK H1 (n6).toNat = 1) (f28 : n14 = hV H1 (n6).toNat 13) (f29 : 0 < n14) (f30 : hK H1 (n6).toNat = 1) (f31 : n15 = w32 (n0 - n2)) (f32 : hK H1 (n6).toNat = 1) (f33 : n16 ≤ 2147483647) (f34 : (-2147483648) ≤ n16) (f35 : hK H1 (n6).toNat = 1) (f36 : n16 = hV H1 (n6).toNat 13) : n16 ≠ 0 := by
  have g4 := f20.2.1.1
  unfold Ab_37_92 at g4
  have g5 := Option.some.inj f20.2.2
  unfold mub_37_92 at g5
  have e0 : n14 = hV H1 (n6).toNat 13 := f28
  have e1 : n16 = hV H1 (n6).toNat 13 := f36
  unfold w32 at *
  omega
theorem c_37_92_3 {q0 : Nat} : vOkm T0 (eP e_37 L_37 A_37 mu_37 (some q0)) 4 ([(20, [22, 5], [1], 13), (23, [5], [1], 1), (90, [22], [], -2147483648), (91, [22], [], 2147483647), (23, [5], [1], 1), (2, [19, 12, 10], [], 0), (23, [5], [1], 1), (34, [15], [], 0), (20, [15, 5], [1], 13), (23, [5], [1], 1), (90, [15], [], -2147483648), (91, [15], [], 2147483647), (42, [14, 11], [], 0), (2, [14, 12, 10], [], 0), (43, [12, 10], [], 0), (42, [12, 7], [], 0), (5000, [0, 1, 2, 3, 4, 5, 6, 7, 8, 9, 10, 11, 12], [0, 1], 92), (0, [0], [], 274), (51, [1], [], 0), (90, [2], [], -2147483648), (91, [2], [], 2147483647), (90, [3], [], -2147483648), (91, [3], [], 2147483647), (0, [4], [], 274), (51, [5], [], 0), (90, [6], [], -2147483648), (91, [6], [], 2147483647), (90, [7], [], -2147483648), (91, [7], [], 2147483647), (90, [9], [], -2147483648), (91, [9], [], 2147483647), (90, [10], [], -2147483648), (91, [10], [], 2147483647), (90, [11], [], -2147483648), (91, [11], [], 2147483647), (90, [12], [], -2147483648), (91, [12], [], 2147483647)], (72, [22], [], 0)) := vOk_in fun ρ η h => by
  obtain ⟨f0, f1, f2, f3, f4, f5, f6, f7, f8, f9, f10, f11, f12, f13, f14, f15, f16, f17, f18, f19, f20, f21, f22, f23, f24, f25, f26, f27, f28, f29, f30, f31, f32, f33, f34, f35, f36, _⟩ := h
  exact q_37_5 (q0 := q0) (n0 := ρ 12) (n1 := ρ 11) (n2 := ρ 10) (n3 := ρ 9) (n4 := ρ 7) (n5 := ρ 6) (n6 := ρ 5) (n7 := ρ 4) (n8 := ρ 3) (n9 := ρ 2) (n10 := ρ 1) (n11 := ρ 0) (n12 := ρ 8) (n13 := ρ 14) (n14 := ρ 15) (n15 := ρ 19) (n16 := ρ 22) (H0 := η 0) (H1 := η 1) f36 f35 f34 f33 f32 f31 f30 f29 f28 f27 f26 f25 f24 f23 f22 f21 f20 f19 f18 f17 f16 f15 f14 f13 f12 f11 f10 f9 f8 f7 f6 f5 f4 f3 f2 f1 f0
theorem q_37_6 {q0 : Nat} {n0 n1 n2 n3 n4 n5 n6 n7 n8 n9 n10 n11 n12 n13 : Int} {H0 H1 H2 : gH} (f0 : n0 ≤ 2147483647) (f1 : (-2147483648) ≤ n0) (f2 : n1 ≤ 2147483647) (f3 : (-2147483648) ≤ n1) (f4 : n2 ≤ 2147483647) (f5 : (-2147483648) ≤ n2) (f6 : n3 ≤ 2147483647) (f7 : (-2147483648) ≤ n3) (f8 : (hLe T0 H0 H1 ∧ hFr s_37.2.2.2.2 H0 H1 ∧ hWt T0 H1) ∧ (Ab_37_92 n4 n5 n6 n7 n8 n9 n10 n3 n11 n2 n1 n12 n0 H0 H1 ∧ True) ∧ some q0 = some (mub_37_92 n4 n5 n6 n7 n8 n9 n10 n3 n11 n2 n1 n12 n0 H0 H1)) (f9 : n0 < n3) (f10 : n1 ≤ n0) (f11 : n2 = 0) (f12 : n13 = w32 (n0 + 1)) : Ab_37_92 n4 n5 n6 n7 n8 n9 n10 n3 n11 n2 n1 n12 n13 H0 H2 ∧ ∀ q, some q0 = some q → mub_37_92 n4 n5 n6 n7 n8 n9 n10 n3 n11 n2 n1 n12 n13 H0 H2 < q := by
  have g4 := f8.2.1.1
  unfold Ab_37_92 at g4
  have g5 := Option.some.inj f8.2.2
  unfold mub_37_92 at g5
  unfold Ab_37_92
  unfold mub_37_92
  unfold w32 at *
  refine ⟨?_, fun q hq => ?_⟩
  · omega
  · have g6 := Option.some.inj hq
    subst g6
    omega
theorem c_37_92_4 {q0 : Nat} : vOkm T0 (eP e_37 L_37 A_37 mu_37 (some q0)) 4 ([(10, [32, 12], [], 1), (30, [9], [], 0), (43, [12, 10], [], 0), (42, [12, 7], [], 0), (5000, [0, 1, 2, 3, 4, 5, 6, 7, 8, 9, 10, 11, 12], [0, 1], 92), (90, [7], [], -2147483648), (91, [7], [], 2147483647), (90, [9], [], -2147483648), (91, [9], [], 2147483647), (90, [10], [], -2147483648), (91, [10], [], 2147483647), (90, [12], [], -2147483648), (91, [12], [], 2147483647)], (4000, [4, 5, 6, 7, 8, 9, 10, 11, 32], [2], 92)) := vOk_in fun ρ η h => by
  obtain ⟨f0, f1, f2, f3, f4, f5, f6, f7, f8, f9, f10, f11, f12, _⟩ := h
  exact q_37_6 (q0 := q0) (n0 := ρ 12) (n1 := ρ 10) (n2 := ρ 9) (n3 := ρ 7) (n4 := ρ 0) (n5 := ρ 1) (n6 := ρ 2) (n7 := ρ 3) (n8 := ρ 4) (n9 := ρ 5) (n10 := ρ 6) (n11 := ρ 8) (n12 := ρ 11) (n13 := ρ 32) (H0 := η 0) (H1 := η 1) (H2 := η 2) f12 f11 f10 f9 f8 f7 f6 f5 f4 f3 f2 f1 f0
theorem c_37_92_5 {q0 : Nat} : vOkm T0 (eP e_37 L_37 A_37 mu_37 (some q0)) 4 ([(10, [33, 12], [], 1), (30, [9], [], 0), (43, [12, 10], [], 0), (42, [12, 7], [], 0), (5000, [0, 1, 2, 3, 4, 5, 6, 7, 8, 9, 10, 11, 12], [0, 1], 92), (90, [7], [], -2147483648), (91, [7], [], 2147483647), (90, [9], [], -2147483648), (91, [9], [], 2147483647), (90, [10], [], -2147483648), (91, [10], [], 2147483647), (90, [12], [], -2147483648), (91, [12], [], 2147483647)], (4000, [4, 5, 6, 7, 8, 9, 10, 11, 33], [3], 92)) := vOk_in fun ρ η h => by
  obtain ⟨f0, f1, f2, f3, f4, f5, f6, f7, f8, f9, f10, f11, f12, _⟩ := h
  exact q_37_6 (q0 := q0) (n0 := ρ 12) (n1 := ρ 10) (n2 := ρ 9) (n3 := ρ 7) (n4 := ρ 0) (n5 := ρ 1) (n6 := ρ 2) (n7 := ρ 3) (n8 := ρ 4) (n9 := ρ 5) (n10 := ρ 6) (n11 := ρ 8) (n12 := ρ 11) (n13 := ρ 33) (H0 := η 0) (H1 := η 1) (H2 := η 3) f12 f11 f10 f9 f8 f7 f6 f5 f4 f3 f2 f1 f0
theorem q_37_7 {q0 : Nat} {n0 n1 n2 n3 n4 n5 n6 n7 n8 n9 n10 n11 n12 n13 n14 : Int} {H0 H1 : gH} (f0 : n0 ≤ 2147483647) (f1 : (-2147483648) ≤ n0) (f2 : n1 ≤ 2147483647) (f3 : (-2147483648) ≤ n1) (f4 : n2 ≤ 2147483647) (f5 : (-2147483648) ≤ n2) (f6 : n3 ≤ 2147483647) (f7 : (-2147483648) ≤ n3) (f8 : n4 ≤ 2147483647) (f9 : (-2147483648) ≤ n4) (f10 : n5 ≤ 2147483647) (f11 : (-2147483648) ≤ n5) (f12 : 0 ≤ n6) (f13 : n7 = 274) (f14 : n8 ≤ 2147483647) (f15 : (-2147483648) ≤ n8) (f16 : n9 ≤ 2147483647) (f17 : (-2147483648) ≤ n9) (f18 : 0 ≤ n10) (f19 : n11 = 274) (f20 : (hLe T0 H0 H1 ∧ hFr s_37.2.2.2.2 H0 H1 ∧ hWt T0 H1) ∧ (Ab_37_92 n11 n10 n9 n8 n7 n6 n5 n4 n12 n3 n2 n1 n0 H0 H1 ∧ True) ∧ some q0 = some (mub_37_92 n11 n10 n9 n8 n7 n6 n5 n4 n12 n3 n2 n1 n0 H0 H1)) (f21 : n0 < n4) (f22 : n2 ≤ n0) (f23 : n13 = w32 (n0 - n2)) (f24 : n13 < n1) (f25 : hK H1 (n6).toNat = 1) (f26 : hK H1 (n6).toNat = 1) (f27 : n14 = w32 (n0 - n2)) (f28 : hK H1 (n6).toNat = 1) (f29 : hK H1 (n6).toNat = 1) (f30 : n3 ≠ 0) : 0 ≤ n12 := by
  have g4 := f20.2.1.1
  unfold Ab_37_92 at g4
  have g5 := Option.some.inj f20.2.2
  unfold mub_37_92 at g5
  unfold w32 at *
  omega
theorem c_37_92_6 {q0 : Nat} : vOkm T0 (eP e_37 L_37 A_37 mu_37 (some q0)) 4 ([(31, [9], [], 0), (23, [5], [1], 1), (23, [5], [1], 1), (2, [19, 12, 10], [], 0), (23, [5], [1], 1), (23, [5], [1], 1), (42, [14, 11], [], 0), (2, [14, 12, 10], [], 0), (43, [12, 10], [], 0), (42, [12, 7], [], 0), (5000, [0, 1, 2, 3, 4, 5, 6, 7, 8, 9, 10, 11, 12], [0, 1], 92), (0, [0], [], 274), (51, [1], [], 0), (90, [2], [], -2147483648), (91, [2], [], 2147483647), (90, [3], [], -2147483648), (91, [3], [], 2147483647), (0, [4], [], 274), (51, [5], [], 0), (90, [6], [], -2147483648), (91, [6], [], 2147483647), (90, [7], [], -2147483648), (91, [7], [], 2147483647), (90, [9], [], -2147483648), (91, [9], [], 2147483647), (90, [10], [], -2147483648), (91, [10], [], 2147483647), (90, [11], [], -2147483648), (91, [11], [], 2147483647), (90, [12], [], -2147483648), (91, [12], [], 2147483647)], (51, [8], [], 0)) := vOk_in fun ρ η h => by
  obtain ⟨f0, f1, f2, f3, f4, f5, f6, f7, f8, f9, f10, f11, f12, f13, f14, f15, f16, f17, f18, f19, f20, f21, f22, f23, f24, f25, f26, f27, f28, f29, f30, _⟩ := h
  exact q_37_7 (q0 := q0) (n0 := ρ 12) (n1 := ρ 11) (n2 := ρ 10) (n3 := ρ 9) (n4 := ρ 7) (n5 := ρ 6) (n6 := ρ 5) (n7 := ρ 4) (n8 := ρ 3) (n9 := ρ 2) (n10 := ρ 1) (n11 := ρ 0) (n12 := ρ 8) (n13 := ρ 14) (n14 := ρ 19) (H0 := η 0) (H1 := η 1) f30 f29 f28 f27 f26 f25 f24 f23 f22 f21 f20 f19 f18 f17 f16 f15 f14 f13 f12 f11 f10 f9 f8 f7 f6 f5 f4 f3 f2 f1 f0
theorem q_37_8 {q0 : Nat} {n0 n1 n2 n3 n4 n5 n6 n7 n8 n9 n10 n11 n12 n13 : Int} {H0 H1 H2 : gH} (f0 : n0 ≤ 2147483647) (f1 : (-2147483648) ≤ n0) (f2 : n1 ≤ 2147483647) (f3 : (-2147483648) ≤ n1) (f4 : n2 ≤ 2147483647) (f5 : (-2147483648) ≤ n2) (f6 : n3 ≤ 2147483647) (f7 : (-2147483648) ≤ n3) (f8 : (hLe T0 H0 H1 ∧ hFr s_37.2.2.2.2 H0 H1 ∧ hWt T0 H1) ∧ (Ab_37_92 n4 n5 n6 n7 n8 n9 n10 n3 n11 n2 n1 n12 n0 H0 H1 ∧ True) ∧ some q0 = some (mub_37_92 n4 n5 n6 n7 n8 n9 n10 n3 n11 n2 n1 n12 n0 H0 H1)) (f9 : n0 < n3) (f10 : n1 ≤ n0) (f11 : n2 ≠ 0) (f12 : n13 = w32 (n0 + 1)) : Ab_37_92 n4 n5 n6 n7 n8 n9 n10 n3 n11 n2 n1 n12 n13 H0 H2 ∧ ∀ q, some q0 = some q → mub_37_92 n4 n5 n6 n7 n8 n9 n10 n3 n11 n2 n1 n12 n13 H0 H2 < q := by
  have g4 := f8.2.1.1
  unfold Ab_37_92 at g4
  have g5 := Option.some.inj f8.2.2
  unfold mub_37_92 at g5
  unfold Ab_37_92
  unfold mub_37_92
  unfold w32 at *
  refine ⟨?_, fun q hq => ?_⟩
  · omega
  · have g6 := Option.some.inj hq
    subst g6
    omega
theorem c_37_92_7 {q0 : Nat} : vOkm T0 (eP e_37 L_37 A_37 mu_37 (some q0)) 4 ([(10, [33, 12], [], 1), (31, [9], [], 0), (43, [12, 10], [], 0), (42, [12, 7], [], 0), (5000, [0, 1, 2, 3, 4, 5, 6, 7, 8, 9, 10, 11, 12], [0, 1], 92), (90, [7], [], -2147483648), (91, [7], [], 2147483647), (90, [9], [], -2147483648), (91, [9], [], 2147483647), (90, [10], [], -2147483648), (91, [10], [], 2147483647), (90, [12], [], -2147483648), (91, [12], [], 2147483647)], (4000, [4, 5, 6, 7, 8, 9, 10, 11, 33], [3], 92)) := vOk_in fun ρ η h => by
  obtain ⟨f0, f1, f2, f3, f4, f5, f6, f7, f8, f9, f10, f11, f12, _⟩ := h
  exact q_37_8 (q0 := q0) (n0 := ρ 12) (n1 := ρ 10) (n2 := ρ 9) (n3 := ρ 7) (n4 := ρ 0) (n5 := ρ 1) (n6 := ρ 2) (n7 := ρ 3) (n8 := ρ 4) (n9 := ρ 5) (n10 := ρ 6) (n11 := ρ 8) (n12 := ρ 11) (n13 := ρ 33) (H0 := η 0) (H1 := η 1) (H2 := η 3) f12 f11 f10 f9 f8 f7 f6 f5 f4 f3 f2 f1 f0
theorem c_37_92_8 {q0 : Nat} : vOkm T0 (eP e_37 L_37 A_37 mu_37 (some q0)) 4 ([(10, [34, 12], [], 1), (31, [9], [], 0), (43, [12, 10], [], 0), (42, [12, 7], [], 0), (5000, [0, 1, 2, 3, 4, 5, 6, 7, 8, 9, 10, 11, 12], [0, 1], 92), (90, [7], [], -2147483648), (91, [7], [], 2147483647), (90, [9], [], -2147483648), (91, [9], [], 2147483647), (90, [10], [], -2147483648), (91, [10], [], 2147483647), (90, [12], [], -2147483648), (91, [12], [], 2147483647)], (4000, [4, 5, 6, 7, 8, 9, 10, 11, 34], [4], 92)) := vOk_in fun ρ η h => by
  obtain ⟨f0, f1, f2, f3, f4, f5, f6, f7, f8, f9, f10, f11, f12, _⟩ := h
  exact q_37_8 (q0 := q0) (n0 := ρ 12) (n1 := ρ 10) (n2 := ρ 9) (n3 := ρ 7) (n4 := ρ 0) (n5 := ρ 1) (n6 := ρ 2) (n7 := ρ 3) (n8 := ρ 4) (n9 := ρ 5) (n10 := ρ 6) (n11 := ρ 8) (n12 := ρ 11) (n13 := ρ 34) (H0 := η 0) (H1 := η 1) (H2 := η 4) f12 f11 f10 f9 f8 f7 f6 f5 f4 f3 f2 f1 f0
def p_37_92 : List vG := [([(10, [18, 12], [], 1), (42, [12, 10], [], 0), (42, [12, 7], [], 0), (5000, [0, 1, 2, 3, 4, 5, 6, 7, 8, 9, 10, 11, 12], [0, 1], 92), (90, [7], [], -2147483648), (91, [7], [], 2147483647), (90, [9], [], -2147483648), (91, [9], [], 2147483647), (90, [10], [], -2147483648), (91, [10], [], 2147483647), (90, [12], [], -2147483648), (91, [12], [], 2147483647)], (4000, [4, 5, 6, 7, 8, 9, 10, 11, 18], [2], 92)),
  ([(10, [19, 12], [], 1), (43, [12, 10], [], 0), (42, [12, 7], [], 0), (5000, [0, 1, 2, 3, 4, 5, 6, 7, 8, 9, 10, 11, 12], [0, 1], 92), (90, [7], [], -2147483648), (91, [7], [], 2147483647), (90, [9], [], -2147483648), (91, [9], [], 2147483647), (90, [10], [], -2147483648), (91, [10], [], 2147483647), (90, [12], [], -2147483648), (91, [12], [], 2147483647)], (4000, [4, 5, 6, 7, 8, 9, 10, 11, 19], [2], 92)),
  ([(10, [20, 12], [], 1), (43, [12, 10], [], 0), (42, [12, 7], [], 0), (5000, [0, 1, 2, 3, 4, 5, 6, 7, 8, 9, 10, 11, 12], [0, 1], 92), (90, [7], [], -2147483648), (91, [7], [], 2147483647), (90, [9], [], -2147483648), (91, [9], [], 2147483647), (90, [10], [], -2147483648), (91, [10], [], 2147483647), (90, [12], [], -2147483648), (91, [12], [], 2147483647)], (4000, [4, 5, 6, 7, 8, 9, 10, 11, 20], [2], 92)),
  ([(20, [22, 5], [1], 13), (23, [5], [1], 1), (90, [22], [], -2147483648), (91, [22], [], 2147483647), (23, [5], [1], 1), (2, [19, 12, 10], [], 0), (23, [5], [1], 1), (34, [15], [], 0), (20, [15, 5], [1], 13), (23, [5], [1], 1), (90, [15], [], -2147483648), (91, [15], [], 2147483647), (42, [14, 11], [], 0), (2, [14, 12, 10], [], 0), (43, [12, 10], [], 0), (42, [12, 7], [], 0), (5000, [0, 1, 2, 3, 4, 5, 6, 7, 8, 9, 10, 11, 12], [0, 1], 92), (0, [0], [], 274), (51, [1], [], 0), (90, [2], [], -2147483648), (91, [2], [], 2147483647), (90, [3], [], -2147483648), (91, [3], [], 2147483647), (0, [4], [], 274), (51, [5], [], 0), (90, [6], [], -2147483648), (91, [6], [], 2147483647), (90, [7], [], -2147483648), (91, [7], [], 2147483647), (90, [9], [], -2147483648), (91, [9], [], 2147483647), (90, [10], [], -2147483648), (91, [10], [], 2147483647), (90, [11], [], -2147483648), (91, [11], [], 2147483647), (90, [12], [], -2147483648), (91, [12], [], 2147483647)], (72, [22], [], 0)),
  ([(10, [32, 12], [], 1), (30, [9], [], 0), (43, [12, 10], [], 0), (42, [12, 7], [], 0), (5000, [0, 1, 2, 3, 4, 5, 6, 7, 8, 9, 10, 11, 12], [0, 1], 92), (90, [7], [], -2147483648), (91, [7], [], 2147483647), (90, [9], [], -2147483648), (91, [9], [], 2147483647), (90, [10], [], -2147483648), (91, [10], [], 2147483647), (90, [12], [], -2147483648), (91, [12], [], 2147483647)], (4000, [4, 5, 6, 7, 8, 9, 10, 11, 32], [2], 92)),
  ([(10, [33, 12], [], 1), (30, [9], [], 0), (43, [12, 10], [], 0), (42, [12, 7], [], 0), (5000, [0, 1, 2, 3, 4, 5, 6, 7, 8, 9, 10, 11, 12], [0, 1], 92), (90, [7], [], -2147483648), (91, [7], [], 2147483647), (90, [9], [], -2147483648), (91, [9], [], 2147483647), (90, [10], [], -2147483648), (91, [10], [], 2147483647), (90, [12], [], -2147483648), (91, [12], [], 2147483647)], (4000, [4, 5, 6, 7, 8, 9, 10, 11, 33], [3], 92)),
  ([(31, [9], [], 0), (23, [5], [1], 1), (23, [5], [1], 1), (2, [19, 12, 10], [], 0), (23, [5], [1], 1), (23, [5], [1], 1), (42, [14, 11], [], 0), (2, [14, 12, 10], [], 0), (43, [12, 10], [], 0), (42, [12, 7], [], 0), (5000, [0, 1, 2, 3, 4, 5, 6, 7, 8, 9, 10, 11, 12], [0, 1], 92), (0, [0], [], 274), (51, [1], [], 0), (90, [2], [], -2147483648), (91, [2], [], 2147483647), (90, [3], [], -2147483648), (91, [3], [], 2147483647), (0, [4], [], 274), (51, [5], [], 0), (90, [6], [], -2147483648), (91, [6], [], 2147483647), (90, [7], [], -2147483648), (91, [7], [], 2147483647), (90, [9], [], -2147483648), (91, [9], [], 2147483647), (90, [10], [], -2147483648), (91, [10], [], 2147483647), (90, [11], [], -2147483648), (91, [11], [], 2147483647), (90, [12], [], -2147483648), (91, [12], [], 2147483647)], (51, [8], [], 0)),
  ([(10, [33, 12], [], 1), (31, [9], [], 0), (43, [12, 10], [], 0), (42, [12, 7], [], 0), (5000, [0, 1, 2, 3, 4, 5, 6, 7, 8, 9, 10, 11, 12], [0, 1], 92), (90, [7], [], -2147483648), (91, [7], [], 2147483647), (90, [9], [], -2147483648), (91, [9], [], 2147483647), (90, [10], [], -2147483648), (91, [10], [], 2147483647), (90, [12], [], -2147483648), (91, [12], [], 2147483647)], (4000, [4, 5, 6, 7, 8, 9, 10, 11, 33], [3], 92)),
  ([(10, [34, 12], [], 1), (31, [9], [], 0), (43, [12, 10], [], 0), (42, [12, 7], [], 0), (5000, [0, 1, 2, 3, 4, 5, 6, 7, 8, 9, 10, 11, 12], [0, 1], 92), (90, [7], [], -2147483648), (91, [7], [], 2147483647), (90, [9], [], -2147483648), (91, [9], [], 2147483647), (90, [10], [], -2147483648), (91, [10], [], 2147483647), (90, [12], [], -2147483648), (91, [12], [], 2147483647)], (4000, [4, 5, 6, 7, 8, 9, 10, 11, 34], [4], 92))]
theorem r_37_92 : vCovO true (eRc e_37 L_37 cs_37 2000 (92, [(0, (3, 2, 274, 0)), (1, (3, 1, -1, 0)), (2, (0, -2147483648, 2147483647, 0)), (3, (0, -2147483648, 2147483647, 0)), (4, (2, 7, -1, 0)), (5, (0, -2147483648, 2147483647, 0)), (6, (0, -2147483648, 2147483647, 0)), (7, (0, -2147483648, 2147483647, 0)), (8, (0, -2147483648, 2147483647, 0))])) p_37_92 = true := by decide +kernel
theorem m_37 (d : Nat) : eC e_37 (d + 4) := eC_ok (e := e_37) (L := L_37) (cs := cs_37) (n := 2000) (d := d + 3) (A := A_37) (μ := mu_37) (tp := true) (p0 := p_37_s) rfl ⟨m_2 (d + 2), ⟨m_8 (d + 1), ⟨m_38 (d + 2), ⟨m_152 d, ⟨m_153 (d + 1), ⟨m_201 (d + 2), trivial⟩⟩⟩⟩⟩⟩ rfl (.inr pre0_ok) (by decide +kernel) (fun _ => post0_ok) r_37_s (allC c_37_s_0 (allC c_37_s_1 (allC c_37_s_2 (allC c_37_s_3 (allC c_37_s_4 (allC c_37_s_5 allN)))))) (allC (.inl ⟨p_37_92, r_37_92, fun q0 => (allC c_37_92_0 (allC c_37_92_1 (allC c_37_92_2 (allC c_37_92_3 (allC c_37_92_4 (allC c_37_92_5 (allC c_37_92_6 (allC c_37_92_7 (allC c_37_92_8 allN)))))))))⟩) allN)
