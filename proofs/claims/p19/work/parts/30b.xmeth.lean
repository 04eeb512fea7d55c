/-! CONTRACTS of methods (printed by wip/gen/emit.py). -/
/- Mixer.noteHeard (LMixStage$Cue;I)V -/
noncomputable def s_36 : vM := ([(3, 2, 274, 0), (3, 1, -1, 0), (0, -2147483648, 2147483647, 0)], (9, 0, 0, 0), 0, 0, [(100, 0)])
noncomputable def e_36 : vE := (36, s_36, pre0, post0)
noncomputable def L_36 : List vE := [e_199, e_201]
def cs_36 : List vC := [(2, [(0, (3, 2, 274, 0)), (1, (3, 1, -1, 0)), (2, (0, -2147483648, 2147483647, 0)), (3, (0, -2147483648, 2147483647, 0))])]
def mub_36_2 (a0 a1 a2 x0 x1 x2 x3 : Int) (h0 h : gH) : Nat := (2147483648 - x3).toNat
def A_36 : Int → List Int → gH → gH → Prop := fun c xs h0 h => True
def mu_36 : Int → List Int → gH → gH → Nat := fun c xs h0 h => match c.toNat with
  | 2 => (match xs with
    | [a0, a1, a2, x0, x1, x2, x3] => mub_36_2 a0 a1 a2 x0 x1 x2 x3 h0 h
    | _ => 0)
  | _ => 0
theorem q_36_0 {n0 n1 n2 n3 : Int} {H0 : gH}  : True ∧ ∀ q, none = some q → mub_36_2 n0 n1 n2 n0 n1 n2 n3 H0 H0 < q := by
  exact ⟨trivial, fun q hq => nomatch hq⟩
theorem c_36_s_0 : vOkm T0 (eP e_36 L_36 A_36 mu_36 none) 3 ([], (4000, [0, 1, 2, 3], [0], 2)) := vOk_in fun ρ η h => by
  obtain ⟨_⟩ := h
  exact q_36_0 (n0 := ρ 0) (n1 := ρ 1) (n2 := ρ 2) (n3 := ρ 3) (H0 := η 0) 
def p_36_s : List vG := [([], (4000, [0, 1, 2, 3], [0], 2))]
theorem r_36_s : vCovO true (eR0 e_36 L_36 cs_36 2000) p_36_s = true := by decide +kernel
theorem q_36_1 {q0 : Nat} {n0 n1 n2 n3 n4 n5 n6 n7 n8 : Int} {H0 H1 H2 : gH} (f0 : n0 ≤ 2147483647) (f1 : (-2147483648) ≤ n0) (f2 : (hLe T0 H0 H1 ∧ hFr s_36.2.2.2.2 H0 H1 ∧ hWt T0 H1) ∧ (True ∧ True) ∧ some q0 = some (mub_36_2 n1 n2 n3 n4 n5 n6 n0 H0 H1)) (f3 : n7 ≤ 2147483647) (f4 : (-2147483648) ≤ n7) (f5 : n0 < n7) (f6 : n8 = w32 (n0 + 1)) : True ∧ ∀ q, some q0 = some q → mub_36_2 n1 n2 n3 n4 n5 n6 n8 H0 H2 < q := by
  have g5 := Option.some.inj f2.2.2
  unfold mub_36_2 at g5
  unfold mub_36_2
  unfold w32 at *
  refine ⟨?_, fun q hq => ?_⟩
  · trivial
  · have g6 := Option.some.inj hq
    subst g6
    omega
theorem c_36_2_0 {q0 : Nat} : vOkm T0 (eP e_36 L_36 A_36 mu_36 (some q0)) 3 ([(10, [14, 6], [], 1), (42, [6, 7], [], 0), (90, [7], [], -2147483648), (91, [7], [], 2147483647), (5000, [0, 1, 2, 3, 4, 5, 6], [0, 1], 2), (90, [6], [], -2147483648), (91, [6], [], 2147483647)], (4000, [3, 4, 5, 14], [2], 2)) := vOk_in fun ρ η h => by
  obtain ⟨f0, f1, f2, f3, f4, f5, f6, _⟩ := h
  exact q_36_1 (q0 := q0) (n0 := ρ 6) (n1 := ρ 0) (n2 := ρ 1) (n3 := ρ 2) (n4 := ρ 3) (n5 := ρ 4) (n6 := ρ 5) (n7 := ρ 7) (n8 := ρ 14) (H0 := η 0) (H1 := η 1) (H2 := η 2) f6 f5 f4 f3 f2 f1 f0
theorem c_36_2_1 {q0 : Nat} : vOkm T0 (eP e_36 L_36 A_36 mu_36 (some q0)) 3 ([(10, [21, 6], [], 1), (42, [6, 7], [], 0), (90, [7], [], -2147483648), (91, [7], [], 2147483647), (5000, [0, 1, 2, 3, 4, 5, 6], [0, 1], 2), (90, [6], [], -2147483648), (91, [6], [], 2147483647)], (4000, [3, 4, 5, 21], [4], 2)) := vOk_in fun ρ η h => by
  obtain ⟨f0, f1, f2, f3, f4, f5, f6, _⟩ := h
  exact q_36_1 (q0 := q0) (n0 := ρ 6) (n1 := ρ 0) (n2 := ρ 1) (n3 := ρ 2) (n4 := ρ 3) (n5 := ρ 4) (n6 := ρ 5) (n7 := ρ 7) (n8 := ρ 21) (H0 := η 0) (H1 := η 1) (H2 := η 4) f6 f5 f4 f3 f2 f1 f0
def p_36_2 : List vG := [([(10, [14, 6], [], 1), (42, [6, 7], [], 0), (90, [7], [], -2147483648), (91, [7], [], 2147483647), (5000, [0, 1, 2, 3, 4, 5, 6], [0, 1], 2), (90, [6], [], -2147483648), (91, [6], [], 2147483647)], (4000, [3, 4, 5, 14], [2], 2)),
  ([(10, [21, 6], [], 1), (42, [6, 7], [], 0), (90, [7], [], -2147483648), (91, [7], [], 2147483647), (5000, [0, 1, 2, 3, 4, 5, 6], [0, 1], 2), (90, [6], [], -2147483648), (91, [6], [], 2147483647)], (4000, [3, 4, 5, 21], [4], 2))]
theorem r_36_2 : vCovO true (eRc e_36 L_36 cs_36 2000 (2, [(0, (3, 2, 274, 0)), (1, (3, 1, -1, 0)), (2, (0, -2147483648, 2147483647, 0)), (3, (0, -2147483648, 2147483647, 0))])) p_36_2 = true := by decide +kernel
theorem m_36 (d : Nat) : eC e_36 (d + 2) := eC_ok (e := e_36) (L := L_36) (cs := cs_36) (n := 2000) (d := d + 1) (A := A_36) (μ := mu_36) (tp := true) (p0 := p_36_s) rfl ⟨m_199 d, ⟨m_201 d, trivial⟩⟩ rfl (.inr pre0_ok) (by decide +kernel) (fun _ => post0_ok) r_36_s (allC c_36_s_0 allN) (allC (.inl ⟨p_36_2, r_36_2, fun q0 => (allC c_36_2_0 (allC c_36_2_1 allN))⟩) allN)
/- Mixer.turnFader (LMixStage$Cue;)V -/
noncomputable def s_42 : vM := ([(3, 2, 274, 0), (3, 1, -1, 0)], (9, 0, 0, 0), 0, 0, [(100, 0)])
noncomputable def e_42 : vE := (42, s_42, pre0, post0)
noncomputable def L_42 : List vE := [e_8, e_201, e_317]
def cs_42 : List vC := [(48, [(0, (3, 2, 274, 0)), (1, (3, 1, -1, 0)), (2, (0, -2147483648, 2147483647, 0)), (3, (0, -2147483648, 2147483647, 0)), (4, (0, -2147483648, 2147483647, 0)), (5, (0, -2147483648, 2147483647, 0))])]
def mub_42_48 (a0 a1 x0 x1 x2 x3 x4 x5 : Int) (h0 h : gH) : Nat := (2147483648 - x5).toNat
def A_42 : Int → List Int → gH → gH → Prop := fun c xs h0 h => True
def mu_42 : Int → List Int → gH → gH → Nat := fun c xs h0 h => match c.toNat with
  | 48 => (match xs with
    | [a0, a1, x0, x1, x2, x3, x4, x5] => mub_42_48 a0 a1 x0 x1 x2 x3 x4 x5 h0 h
    | _ => 0)
  | _ => 0
theorem q_42_0 {n0 n1 n2 n3 n4 n5 : Int} {H0 H1 : gH}  : True ∧ ∀ q, none = some q → mub_42_48 n0 n1 n0 n1 n2 n3 n4 n5 H0 H1 < q := by
  exact ⟨trivial, fun q hq => nomatch hq⟩
theorem c_42_s_0 : vOkm T0 (eP e_42 L_42 A_42 mu_42 none) 2 ([], (4000, [0, 1, 7, 13, 14, 16], [3], 48)) := vOk_in fun ρ η h => by
  obtain ⟨_⟩ := h
  exact q_42_0 (n0 := ρ 0) (n1 := ρ 1) (n2 := ρ 7) (n3 := ρ 13) (n4 := ρ 14) (n5 := ρ 16) (H0 := η 0) (H1 := η 3) 
def p_42_s : List vG := [([], (4000, [0, 1, 7, 13, 14, 16], [3], 48))]
theorem r_42_s : vCovO true (eR0 e_42 L_42 cs_42 2000) p_42_s = true := by decide +kernel
theorem q_42_1 {q0 : Nat} {n0 n1 n2 n3 n4 n5 n6 n7 n8 n9 : Int} {H0 H1 H2 : gH} (f0 : n0 ≤ 2147483647) (f1 : (-2147483648) ≤ n0) (f2 : (hLe T0 H0 H1 ∧ hFr s_42.2.2.2.2 H0 H1 ∧ hWt T0 H1) ∧ (True ∧ True) ∧ some q0 = some (mub_42_48 n1 n2 n3 n4 n5 n6 n7 n0 H0 H1)) (f3 : n8 ≤ 2147483647) (f4 : (-2147483648) ≤ n8) (f5 : n0 < n8) (f6 : n9 = w32 (n0 + 1)) : True ∧ ∀ q, some q0 = some q → mub_42_48 n1 n2 n3 n4 n5 n6 n7 n9 H0 H2 < q := by
  have g5 := Option.some.inj f2.2.2
  unfold mub_42_48 at g5
  unfold mub_42_48
  unfold w32 at *
  refine ⟨?_, fun q hq => ?_⟩
  · trivial
  · have g6 := Option.some.inj hq
    subst g6
    omega
theorem c_42_48_0 {q0 : Nat} : vOkm T0 (eP e_42 L_42 A_42 mu_42 (some q0)) 2 ([(10, [15, 7], [], 1), (42, [7, 8], [], 0), (90, [8], [], -2147483648), (91, [8], [], 2147483647), (5000, [0, 1, 2, 3, 4, 5, 6, 7], [0, 1], 48), (90, [7], [], -2147483648), (91, [7], [], 2147483647)], (4000, [2, 3, 4, 5, 6, 15], [2], 48)) := vOk_in fun ρ η h => by
  obtain ⟨f0, f1, f2, f3, f4, f5, f6, _⟩ := h
  exact q_42_1 (q0 := q0) (n0 := ρ 7) (n1 := ρ 0) (n2 := ρ 1) (n3 := ρ 2) (n4 := ρ 3) (n5 := ρ 4) (n6 := ρ 5) (n7 := ρ 6) (n8 := ρ 8) (n9 := ρ 15) (H0 := η 0) (H1 := η 1) (H2 := η 2) f6 f5 f4 f3 f2 f1 f0
theorem q_42_2 {q0 : Nat} {n0 n1 n2 n3 n4 n5 n6 n7 n8 n9 : Int} {H0 H1 H2 : gH} (f0 : n0 ≤ 2147483647) (f1 : (-2147483648) ≤ n0) (f2 : n1 ≤ 2147483647) (f3 : (-2147483648) ≤ n1) (f4 : (hLe T0 H0 H1 ∧ hFr s_42.2.2.2.2 H0 H1 ∧ hWt T0 H1) ∧ (True ∧ True) ∧ some q0 = some (mub_42_48 n2 n3 n4 n5 n6 n1 n7 n0 H0 H1)) (f5 : n8 ≤ 2147483647) (f6 : (-2147483648) ≤ n8) (f7 : n0 < n8) (f8 : n1 ≤ n0) (f9 : n9 = w32 (n0 + 1)) : True ∧ ∀ q, some q0 = some q → mub_42_48 n2 n3 n4 n5 n6 n1 n7 n9 H0 H2 < q := by
  have g5 := Option.some.inj f4.2.2
  unfold mub_42_48 at g5
  unfold mub_42_48
  unfold w32 at *
  refine ⟨?_, fun q hq => ?_⟩
  · trivial
  · have g6 := Option.some.inj hq
    subst g6
    omega
theorem c_42_48_1 {q0 : Nat} : vOkm T0 (eP e_42 L_42 A_42 mu_42 (some q0)) 2 ([(10, [15, 7], [], 1), (43, [7, 5], [], 0), (42, [7, 8], [], 0), (90, [8], [], -2147483648), (91, [8], [], 2147483647), (5000, [0, 1, 2, 3, 4, 5, 6, 7], [0, 1], 48), (90, [5], [], -2147483648), (91, [5], [], 2147483647), (90, [7], [], -2147483648), (91, [7], [], 2147483647)], (4000, [2, 3, 4, 5, 6, 15], [2], 48)) := vOk_in fun ρ η h => by
  obtain ⟨f0, f1, f2, f3, f4, f5, f6, f7, f8, f9, _⟩ := h
  exact q_42_2 (q0 := q0) (n0 := ρ 7) (n1 := ρ 5) (n2 := ρ 0) (n3 := ρ 1) (n4 := ρ 2) (n5 := ρ 3) (n6 := ρ 4) (n7 := ρ 6) (n8 := ρ 8) (n9 := ρ 15) (H0 := η 0) (H1 := η 1) (H2 := η 2) f9 f8 f7 f6 f5 f4 f3 f2 f1 f0
theorem q_42_3 {q0 : Nat} {n0 : Int} {H0 : gH} (f0 : n0 ≤ 2147483647) (f1 : (-2147483648) ≤ n0) (f2 : 0 < n0) : n0 ≠ 0 := by
  omega
theorem c_42_48_2 {q0 : Nat} : vOkm T0 (eP e_42 L_42 A_42 mu_42 (some q0)) 2 ([(34, [6], [], 0), (90, [6], [], -2147483648), (91, [6], [], 2147483647)], (72, [6], [], 0)) := vOk_in fun ρ η h => by
  obtain ⟨f0, f1, f2, _⟩ := h
  exact q_42_3 (q0 := q0) (n0 := ρ 6) (H0 := η 0) f2 f1 f0
theorem q_42_4 {q0 : Nat} {n0 n1 n2 n3 n4 n5 n6 n7 n8 n9 : Int} {H0 H1 H2 : gH} (f0 : n0 ≤ 2147483647) (f1 : (-2147483648) ≤ n0) (f2 : n1 ≤ 2147483647) (f3 : (-2147483648) ≤ n1) (f4 : (hLe T0 H0 H1 ∧ hFr s_42.2.2.2.2 H0 H1 ∧ hWt T0 H1) ∧ (True ∧ True) ∧ some q0 = some (mub_42_48 n2 n3 n4 n5 n6 n1 n7 n0 H0 H1)) (f5 : n8 ≤ 2147483647) (f6 : (-2147483648) ≤ n8) (f7 : n0 < n8) (f8 : n0 < n1) (f9 : n9 = w32 (n0 + 1)) : True ∧ ∀ q, some q0 = some q → mub_42_48 n2 n3 n4 n5 n6 n1 n7 n9 H0 H2 < q := by
  have g5 := Option.some.inj f4.2.2
  unfold mub_42_48 at g5
  unfold mub_42_48
  unfold w32 at *
  refine ⟨?_, fun q hq => ?_⟩
  · trivial
  · have g6 := Option.some.inj hq
    subst g6
    omega
theorem c_42_48_3 {q0 : Nat} : vOkm T0 (eP e_42 L_42 A_42 mu_42 (some q0)) 2 ([(10, [23, 7], [], 1), (42, [7, 5], [], 0), (42, [7, 8], [], 0), (90, [8], [], -2147483648), (91, [8], [], 2147483647), (5000, [0, 1, 2, 3, 4, 5, 6, 7], [0, 1], 48), (90, [5], [], -2147483648), (91, [5], [], 2147483647), (90, [7], [], -2147483648), (91, [7], [], 2147483647)], (4000, [2, 3, 4, 5, 6, 23], [2], 48)) := vOk_in fun ρ η h => by
  obtain ⟨f0, f1, f2, f3, f4, f5, f6, f7, f8, f9, _⟩ := h
  exact q_42_4 (q0 := q0) (n0 := ρ 7) (n1 := ρ 5) (n2 := ρ 0) (n3 := ρ 1) (n4 := ρ 2) (n5 := ρ 3) (n6 := ρ 4) (n7 := ρ 6) (n8 := ρ 8) (n9 := ρ 23) (H0 := η 0) (H1 := η 1) (H2 := η 2) f9 f8 f7 f6 f5 f4 f3 f2 f1 f0
def p_42_48 : List vG := [([(10, [15, 7], [], 1), (42, [7, 8], [], 0), (90, [8], [], -2147483648), (91, [8], [], 2147483647), (5000, [0, 1, 2, 3, 4, 5, 6, 7], [0, 1], 48), (90, [7], [], -2147483648), (91, [7], [], 2147483647)], (4000, [2, 3, 4, 5, 6, 15], [2], 48)),
  ([(10, [15, 7], [], 1), (43, [7, 5], [], 0), (42, [7, 8], [], 0), (90, [8], [], -2147483648), (91, [8], [], 2147483647), (5000, [0, 1, 2, 3, 4, 5, 6, 7], [0, 1], 48), (90, [5], [], -2147483648), (91, [5], [], 2147483647), (90, [7], [], -2147483648), (91, [7], [], 2147483647)], (4000, [2, 3, 4, 5, 6, 15], [2], 48)),
  ([(34, [6], [], 0), (90, [6], [], -2147483648), (91, [6], [], 2147483647)], (72, [6], [], 0)),
  ([(10, [23, 7], [], 1), (42, [7, 5], [], 0), (42, [7, 8], [], 0), (90, [8], [], -2147483648), (91, [8], [], 2147483647), (5000, [0, 1, 2, 3, 4, 5, 6, 7], [0, 1], 48), (90, [5], [], -2147483648), (91, [5], [], 2147483647), (90, [7], [], -2147483648), (91, [7], [], 2147483647)], (4000, [2, 3, 4, 5, 6, 23], [2], 48))]
theorem r_42_48 : vCovO true (eRc e_42 L_42 cs_42 2000 (48, [(0, (3, 2, 274, 0)), (1, (3, 1, -1, 0)), (2, (0, -2147483648, 2147483647, 0)), (3, (0, -2147483648, 2147483647, 0)), (4, (0, -2147483648, 2147483647, 0)), (5, (0, -2147483648, 2147483647, 0))])) p_42_48 = true := by decide +kernel
theorem m_42 (d : Nat) : eC e_42 (d + 3) := eC_ok (e := e_42) (L := L_42) (cs := cs_42) (n := 2000) (d := d + 2) (A := A_42) (μ := mu_42) (tp := true) (p0 := p_42_s) rfl ⟨m_8 d, ⟨m_201 (d + 1), ⟨m_317 (d + 1), trivial⟩⟩⟩ rfl (.inr pre0_ok) (by decide +kernel) (fun _ => post0_ok) r_42_s (allC c_42_s_0 allN) (allC (.inl ⟨p_42_48, r_42_48, fun q0 => (allC c_42_48_0 (allC c_42_48_1 (allC c_42_48_2 (allC c_42_48_3 allN))))⟩) allN)
/- Mixer.prepare (LMixStage$Sheet;)V -/
noncomputable def s_35 : vM := ([(3, 2, 274, 0), (3, 6, -1, 0)], (9, 0, 0, 0), 0, 0, [(2, 8), (10, 0), (10, 1), (10, 2), (100, 0)])
noncomputable def e_35 : vE := (35, s_35, pre0, post0)
noncomputable def L_35 : List vE := [e_36, e_37, e_42, e_53, e_115, e_203]
def cs_35 : List vC := [(36, [(0, (3, 2, 274, 0)), (1, (3, 6, -1, 0)), (2, (0, -2147483648, 2147483647, 0))])]
def mub_35_36 (a0 a1 x0 x1 x2 : Int) (h0 h : gH) : Nat := (2147483648 - x2).toNat
def A_35 : Int → List Int → gH → gH → Prop := fun c xs h0 h => True
def mu_35 : Int → List Int → gH → gH → Nat := fun c xs h0 h => match c.toNat with
  | 36 => (match xs with
    | [a0, a1, x0, x1, x2] => mub_35_36 a0 a1 x0 x1 x2 h0 h
    | _ => 0)
  | _ => 0
theorem q_35_0 {n0 n1 n2 : Int} {H0 H1 : gH}  : True ∧ ∀ q, none = some q → mub_35_36 n0 n1 n0 n1 n2 H0 H1 < q := by
  exact ⟨trivial, fun q hq => nomatch hq⟩
theorem c_35_s_0 : vOkm T0 (eP e_35 L_35 A_35 mu_35 none) 2 ([], (4000, [0, 1, 12], [4], 36)) := vOk_in fun ρ η h => by
  obtain ⟨_⟩ := h
  exact q_35_0 (n0 := ρ 0) (n1 := ρ 1) (n2 := ρ 12) (H0 := η 0) (H1 := η 4) 
def p_35_s : List vG := [([], (4000, [0, 1, 12], [4], 36))]
theorem r_35_s : vCovO true (eR0 e_35 L_35 cs_35 2000) p_35_s = true := by decide +kernel
theorem q_35_1 {q0 : Nat} {n0 n1 n2 n3 n4 n5 n6 : Int} {H0 H1 H2 : gH} (f0 : n0 ≤ 2147483647) (f1 : (-2147483648) ≤ n0) (f2 : (hLe T0 H0 H1 ∧ hFr s_35.2.2.2.2 H0 H1 ∧ hWt T0 H1) ∧ (True ∧ True) ∧ some q0 = some (mub_35_36 n1 n2 n3 n4 n0 H0 H1)) (f3 : n5 ≤ 40) (f4 : 0 ≤ n5) (f5 : n0 < n5) (f6 : n6 = w32 (n0 + 1)) : True ∧ ∀ q, some q0 = some q → mub_35_36 n1 n2 n3 n4 n6 H0 H2 < q := by
  have g5 := Option.some.inj f2.2.2
  unfold mub_35_36 at g5
  unfold mub_35_36
  unfold w32 at *
  refine ⟨?_, fun q hq => ?_⟩
  · trivial
  · have g6 := Option.some.inj hq
    subst g6
    omega
theorem c_35_36_0 {q0 : Nat} : vOkm T0 (eP e_35 L_35 A_35 mu_35 (some q0)) 2 ([(10, [7, 4], [], 1), (42, [4, 5], [], 0), (90, [5], [], 0), (91, [5], [], 40), (5000, [0, 1, 2, 3, 4], [0, 1], 36), (90, [4], [], -2147483648), (91, [4], [], 2147483647)], (4000, [2, 3, 7], [2], 36)) := vOk_in fun ρ η h => by
  obtain ⟨f0, f1, f2, f3, f4, f5, f6, _⟩ := h
  exact q_35_1 (q0 := q0) (n0 := ρ 4) (n1 := ρ 0) (n2 := ρ 1) (n3 := ρ 2) (n4 := ρ 3) (n5 := ρ 5) (n6 := ρ 7) (H0 := η 0) (H1 := η 1) (H2 := η 2) f6 f5 f4 f3 f2 f1 f0
theorem c_35_36_1 {q0 : Nat} : vOkm T0 (eP e_35 L_35 A_35 mu_35 (some q0)) 2 ([(10, [9, 4], [], 1), (42, [4, 5], [], 0), (90, [5], [], 0), (91, [5], [], 40), (5000, [0, 1, 2, 3, 4], [0, 1], 36), (90, [4], [], -2147483648), (91, [4], [], 2147483647)], (4000, [2, 3, 9], [2], 36)) := vOk_in fun ρ η h => by
  obtain ⟨f0, f1, f2, f3, f4, f5, f6, _⟩ := h
  exact q_35_1 (q0 := q0) (n0 := ρ 4) (n1 := ρ 0) (n2 := ρ 1) (n3 := ρ 2) (n4 := ρ 3) (n5 := ρ 5) (n6 := ρ 9) (H0 := η 0) (H1 := η 1) (H2 := η 2) f6 f5 f4 f3 f2 f1 f0
theorem c_35_36_2 {q0 : Nat} : vOkm T0 (eP e_35 L_35 A_35 mu_35 (some q0)) 2 ([(10, [9, 4], [], 1), (42, [4, 5], [], 0), (90, [5], [], 0), (91, [5], [], 40), (5000, [0, 1, 2, 3, 4], [0, 1], 36), (90, [4], [], -2147483648), (91, [4], [], 2147483647)], (4000, [2, 3, 9], [3], 36)) := vOk_in fun ρ η h => by
  obtain ⟨f0, f1, f2, f3, f4, f5, f6, _⟩ := h
  exact q_35_1 (q0 := q0) (n0 := ρ 4) (n1 := ρ 0) (n2 := ρ 1) (n3 := ρ 2) (n4 := ρ 3) (n5 := ρ 5) (n6 := ρ 9) (H0 := η 0) (H1 := η 1) (H2 := η 3) f6 f5 f4 f3 f2 f1 f0
theorem c_35_36_3 {q0 : Nat} : vOkm T0 (eP e_35 L_35 A_35 mu_35 (some q0)) 2 ([(10, [10, 4], [], 1), (42, [4, 5], [], 0), (90, [5], [], 0), (91, [5], [], 40), (5000, [0, 1, 2, 3, 4], [0, 1], 36), (90, [4], [], -2147483648), (91, [4], [], 2147483647)], (4000, [2, 3, 10], [2], 36)) := vOk_in fun ρ η h => by
  obtain ⟨f0, f1, f2, f3, f4, f5, f6, _⟩ := h
  exact q_35_1 (q0 := q0) (n0 := ρ 4) (n1 := ρ 0) (n2 := ρ 1) (n3 := ρ 2) (n4 := ρ 3) (n5 := ρ 5) (n6 := ρ 10) (H0 := η 0) (H1 := η 1) (H2 := η 2) f6 f5 f4 f3 f2 f1 f0
theorem c_35_36_4 {q0 : Nat} : vOkm T0 (eP e_35 L_35 A_35 mu_35 (some q0)) 2 ([(10, [10, 4], [], 1), (42, [4, 5], [], 0), (90, [5], [], 0), (91, [5], [], 40), (5000, [0, 1, 2, 3, 4], [0, 1], 36), (90, [4], [], -2147483648), (91, [4], [], 2147483647)], (4000, [2, 3, 10], [3], 36)) := vOk_in fun ρ η h => by
  obtain ⟨f0, f1, f2, f3, f4, f5, f6, _⟩ := h
  exact q_35_1 (q0 := q0) (n0 := ρ 4) (n1 := ρ 0) (n2 := ρ 1) (n3 := ρ 2) (n4 := ρ 3) (n5 := ρ 5) (n6 := ρ 10) (H0 := η 0) (H1 := η 1) (H2 := η 3) f6 f5 f4 f3 f2 f1 f0
theorem c_35_36_5 {q0 : Nat} : vOkm T0 (eP e_35 L_35 A_35 mu_35 (some q0)) 2 ([(10, [9, 4], [], 1), (42, [4, 5], [], 0), (90, [5], [], 0), (91, [5], [], 40), (5000, [0, 1, 2, 3, 4], [0, 1], 36), (90, [4], [], -2147483648), (91, [4], [], 2147483647)], (4000, [2, 3, 9], [4], 36)) := vOk_in fun ρ η h => by
  obtain ⟨f0, f1, f2, f3, f4, f5, f6, _⟩ := h
  exact q_35_1 (q0 := q0) (n0 := ρ 4) (n1 := ρ 0) (n2 := ρ 1) (n3 := ρ 2) (n4 := ρ 3) (n5 := ρ 5) (n6 := ρ 9) (H0 := η 0) (H1 := η 1) (H2 := η 4) f6 f5 f4 f3 f2 f1 f0
def p_35_36 : List vG := [([(10, [7, 4], [], 1), (42, [4, 5], [], 0), (90, [5], [], 0), (91, [5], [], 40), (5000, [0, 1, 2, 3, 4], [0, 1], 36), (90, [4], [], -2147483648), (91, [4], [], 2147483647)], (4000, [2, 3, 7], [2], 36)),
  ([(10, [9, 4], [], 1), (42, [4, 5], [], 0), (90, [5], [], 0), (91, [5], [], 40), (5000, [0, 1, 2, 3, 4], [0, 1], 36), (90, [4], [], -2147483648), (91, [4], [], 2147483647)], (4000, [2, 3, 9], [2], 36)),
  ([(10, [9, 4], [], 1), (42, [4, 5], [], 0), (90, [5], [], 0), (91, [5], [], 40), (5000, [0, 1, 2, 3, 4], [0, 1], 36), (90, [4], [], -2147483648), (91, [4], [], 2147483647)], (4000, [2, 3, 9], [3], 36)),
  ([(10, [10, 4], [], 1), (42, [4, 5], [], 0), (90, [5], [], 0), (91, [5], [], 40), (5000, [0, 1, 2, 3, 4], [0, 1], 36), (90, [4], [], -2147483648), (91, [4], [], 2147483647)], (4000, [2, 3, 10], [2], 36)),
  ([(10, [10, 4], [], 1), (42, [4, 5], [], 0), (90, [5], [], 0), (91, [5], [], 40), (5000, [0, 1, 2, 3, 4], [0, 1], 36), (90, [4], [], -2147483648), (91, [4], [], 2147483647)], (4000, [2, 3, 10], [3], 36)),
  ([(10, [9, 4], [], 1), (42, [4, 5], [], 0), (90, [5], [], 0), (91, [5], [], 40), (5000, [0, 1, 2, 3, 4], [0, 1], 36), (90, [4], [], -2147483648), (91, [4], [], 2147483647)], (4000, [2, 3, 9], [4], 36))]
theorem r_35_36 : vCovO true (eRc e_35 L_35 cs_35 2000 (36, [(0, (3, 2, 274, 0)), (1, (3, 6, -1, 0)), (2, (0, -2147483648, 2147483647, 0))])) p_35_36 = true := by decide +kernel
theorem m_35 (d : Nat) : eC e_35 (d + 5) := eC_ok (e := e_35) (L := L_35) (cs := cs_35) (n := 2000) (d := d + 4) (A := A_35) (μ := mu_35) (tp := true) (p0 := p_35_s) rfl ⟨m_36 (d + 2), ⟨m_37 d, ⟨m_42 (d + 1), ⟨m_53 (d + 2), ⟨m_115 (d + 3), ⟨m_203 (d + 2), trivial⟩⟩⟩⟩⟩⟩ rfl (.inr pre0_ok) (by decide +kernel) (fun _ => post0_ok) r_35_s (allC c_35_s_0 allN) (allC (.inl ⟨p_35_36, r_35_36, fun q0 => (allC c_35_36_0 (allC c_35_36_1 (allC c_35_36_2 (allC c_35_36_3 (allC c_35_36_4 (allC c_35_36_5 allN))))))⟩) allN)
/- MixStage.put ([JIJ)V -/
noncomputable def s_202 : vM := ([(2, 101, -1, 0), (0, -2147483648, 2147483647, 0), (1, 0, 0, 0)], (9, 0, 0, 0), 0, 0, [(101, 0)])
noncomputable def e_202 : vE := (202, s_202, pre0, post0)
noncomputable def L_202 : List vE := []
def cs_202 : List vC := []
def A_202 : Int → List Int → gH → gH → Prop := fun c xs h0 h => True
def mu_202 : Int → List Int → gH → gH → Nat := fun c xs h0 h => 0
def p_202_s : List vG := []
theorem r_202_s : vCovO true (eR0 e_202 L_202 cs_202 2000) p_202_s = true := by decide +kernel
theorem m_202 (d : Nat) : eC e_202 (d + 1) := eC_ok (e := e_202) (L := L_202) (cs := cs_202) (n := 2000) (d := d + 0) (A := A_202) (μ := mu_202) (tp := true) (p0 := p_202_s) rfl trivial rfl (.inr pre0_ok) (by decide +kernel) (fun _ => post0_ok) r_202_s allN allN
/- Mixer.clearStem (I)V -/
noncomputable def s_44 : vM := ([(3, 2, 274, 0), (0, -2147483648, 2147483647, 0)], (9, 0, 0, 0), 0, 0, [(101, 0)])
noncomputable def e_44 : vE := (44, s_44, pre0, post0)
noncomputable def L_44 : List vE := [e_202]
def cs_44 : List vC := [(2, [(0, (3, 2, 274, 0)), (1, (0, -2147483648, 2147483647, 0)), (2, (0, -2147483648, 2147483647, 0))])]
def mub_44_2 (a0 a1 x0 x1 x2 : Int) (h0 h : gH) : Nat := (2147483648 - x2).toNat
def A_44 : Int → List Int → gH → gH → Prop := fun c xs h0 h => True
def mu_44 : Int → List Int → gH → gH → Nat := fun c xs h0 h => match c.toNat with
  | 2 => (match xs with
    | [a0, a1, x0, x1, x2] => mub_44_2 a0 a1 x0 x1 x2 h0 h
    | _ => 0)
  | _ => 0
theorem q_44_0 {n0 n1 n2 : Int} {H0 : gH}  : True ∧ ∀ q, none = some q → mub_44_2 n0 n1 n0 n1 n2 H0 H0 < q := by
  exact ⟨trivial, fun q hq => nomatch hq⟩
theorem c_44_s_0 : vOkm T0 (eP e_44 L_44 A_44 mu_44 none) 2 ([], (4000, [0, 1, 2], [0], 2)) := vOk_in fun ρ η h => by
  obtain ⟨_⟩ := h
  exact q_44_0 (n0 := ρ 0) (n1 := ρ 1) (n2 := ρ 2) (H0 := η 0) 
def p_44_s : List vG := [([], (4000, [0, 1, 2], [0], 2))]
theorem r_44_s : vCovO true (eR0 e_44 L_44 cs_44 2000) p_44_s = true := by decide +kernel
theorem q_44_1 {q0 : Nat} {n0 n1 n2 n3 n4 n5 n6 : Int} {H0 H1 H2 : gH} (f0 : n0 ≤ 2147483647) (f1 : (-2147483648) ≤ n0) (f2 : (hLe T0 H0 H1 ∧ hFr s_44.2.2.2.2 H0 H1 ∧ hWt T0 H1) ∧ (True ∧ True) ∧ some q0 = some (mub_44_2 n1 n2 n3 n4 n0 H0 H1)) (f3 : n5 ≤ 2147483647) (f4 : (-2147483648) ≤ n5) (f5 : n0 < n5) (f6 : n6 = w32 (n0 + 1)) : True ∧ ∀ q, some q0 = some q → mub_44_2 n1 n2 n3 n4 n6 H0 H2 < q := by
  have g5 := Option.some.inj f2.2.2
  unfold mub_44_2 at g5
  unfold mub_44_2
  unfold w32 at *
  refine ⟨?_, fun q hq => ?_⟩
  · trivial
  · have g6 := Option.some.inj hq
    subst g6
    omega
theorem c_44_2_0 {q0 : Nat} : vOkm T0 (eP e_44 L_44 A_44 mu_44 (some q0)) 2 ([(10, [9, 4], [], 1), (42, [4, 5], [], 0), (90, [5], [], -2147483648), (91, [5], [], 2147483647), (5000, [0, 1, 2, 3, 4], [0, 1], 2), (90, [4], [], -2147483648), (91, [4], [], 2147483647)], (4000, [2, 3, 9], [2], 2)) := vOk_in fun ρ η h => by
  obtain ⟨f0, f1, f2, f3, f4, f5, f6, _⟩ := h
  exact q_44_1 (q0 := q0) (n0 := ρ 4) (n1 := ρ 0) (n2 := ρ 1) (n3 := ρ 2) (n4 := ρ 3) (n5 := ρ 5) (n6 := ρ 9) (H0 := η 0) (H1 := η 1) (H2 := η 2) f6 f5 f4 f3 f2 f1 f0
def p_44_2 : List vG := [([(10, [9, 4], [], 1), (42, [4, 5], [], 0), (90, [5], [], -2147483648), (91, [5], [], 2147483647), (5000, [0, 1, 2, 3, 4], [0, 1], 2), (90, [4], [], -2147483648), (91, [4], [], 2147483647)], (4000, [2, 3, 9], [2], 2))]
theorem r_44_2 : vCovO true (eRc e_44 L_44 cs_44 2000 (2, [(0, (3, 2, 274, 0)), (1, (0, -2147483648, 2147483647, 0)), (2, (0, -2147483648, 2147483647, 0))])) p_44_2 = true := by decide +kernel
theorem m_44 (d : Nat) : eC e_44 (d + 2) := eC_ok (e := e_44) (L := L_44) (cs := cs_44) (n := 2000) (d := d + 1) (A := A_44) (μ := mu_44) (tp := true) (p0 := p_44_s) rfl ⟨m_202 d, trivial⟩ rfl (.inr pre0_ok) (by decide +kernel) (fun _ => post0_ok) r_44_s (allC c_44_s_0 allN) (allC (.inl ⟨p_44_2, r_44_2, fun q0 => (allC c_44_2_0 allN)⟩) allN)
/- MixStage.at ([JI)J -/
noncomputable def s_200 : vM := ([(2, 101, -1, 0), (0, -2147483648, 2147483647, 0)], (1, 0, 0, 0), 0, 0, [])
noncomputable def e_200 : vE := (200, s_200, pre0, post0)
noncomputable def L_200 : List vE := []
def cs_200 : List vC := []
def A_200 : Int → List Int → gH → gH → Prop := fun c xs h0 h => True
def mu_200 : Int → List Int → gH → gH → Nat := fun c xs h0 h => 0
def p_200_s : List vG := []
theorem r_200_s : vCovO true (eR0 e_200 L_200 cs_200 2000) p_200_s = true := by decide +kernel
theorem m_200 (d : Nat) : eC e_200 (d + 1) := eC_ok (e := e_200) (L := L_200) (cs := cs_200) (n := 2000) (d := d + 0) (A := A_200) (μ := mu_200) (tp := true) (p0 := p_200_s) rfl trivial rfl (.inr pre0_ok) (by decide +kernel) (fun _ => post0_ok) r_200_s allN allN
/- Mixer.taken (II)I -/
noncomputable def s_39 : vM := ([(3, 2, 274, 0), (0, -2147483648, 2147483647, 0), (0, -2147483648, 2147483647, 0)], (0, -2147483648, 2147483647, 0), 0, 0, [])
noncomputable def e_39 : vE := (39, s_39, pre0, post0)
noncomputable def L_39 : List vE := [e_199]
def cs_39 : List vC := []
def A_39 : Int → List Int → gH → gH → Prop := fun c xs h0 h => True
def mu_39 : Int → List Int → gH → gH → Nat := fun c xs h0 h => 0
def p_39_s : List vG := []
theorem r_39_s : vCovO true (eR0 e_39 L_39 cs_39 2000) p_39_s = true := by decide +kernel
theorem m_39 (d : Nat) : eC e_39 (d + 2) := eC_ok (e := e_39) (L := L_39) (cs := cs_39) (n := 2000) (d := d + 1) (A := A_39) (μ := mu_39) (tp := true) (p0 := p_39_s) rfl ⟨m_199 d, trivial⟩ rfl (.inr pre0_ok) (by decide +kernel) (fun _ => post0_ok) r_39_s allN allN
/- Mixer.given (II)I -/
noncomputable def s_41 : vM := ([(0, -2147483648, 2147483647, 0), (0, -2147483648, 2147483647, 0)], (0, -2147483648, 2147483647, 0), 0, 0, [])
noncomputable def e_41 : vE := (41, s_41, pre0, post0)
noncomputable def L_41 : List vE := []
def cs_41 : List vC := []
def A_41 : Int → List Int → gH → gH → Prop := fun c xs h0 h => True
def mu_41 : Int → List Int → gH → gH → Nat := fun c xs h0 h => 0
def p_41_s : List vG := []
theorem r_41_s : vCovO true (eR0 e_41 L_41 cs_41 2000) p_41_s = true := by decide +kernel
theorem m_41 (d : Nat) : eC e_41 (d + 1) := eC_ok (e := e_41) (L := L_41) (cs := cs_41) (n := 2000) (d := d + 0) (A := A_41) (μ := mu_41) (tp := true) (p0 := p_41_s) rfl trivial rfl (.inr pre0_ok) (by decide +kernel) (fun _ => post0_ok) r_41_s allN allN
/- Mixer.addLay (III)V -/
noncomputable def s_47 : vM := ([(3, 2, 274, 0), (0, -2147483648, 2147483647, 0), (0, -2147483648, 2147483647, 0), (0, -2147483648, 2147483647, 0)], (9, 0, 0, 0), 0, 0, [(101, 0)])
noncomputable def e_47 : vE := (47, s_47, pre0, post0)
noncomputable def L_47 : List vE := [e_39, e_41, e_200, e_202]
def cs_47 : List vC := [(3, [(0, (3, 2, 274, 0)), (1, (0, -2147483648, 2147483647, 0)), (2, (0, -2147483648, 2147483647, 0)), (3, (0, -2147483648, 2147483647, 0)), (4, (0, -2147483648, 2147483647, 0))])]
def mub_47_3 (a0 a1 a2 a3 x0 x1 x2 x3 x4 : Int) (h0 h : gH) : Nat := (2147483648 - x4).toNat
def A_47 : Int → List Int → gH → gH → Prop := fun c xs h0 h => True
def mu_47 : Int → List Int → gH → gH → Nat := fun c xs h0 h => match c.toNat with
  | 3 => (match xs with
    | [a0, a1, a2, a3, x0, x1, x2, x3, x4] => mub_47_3 a0 a1 a2 a3 x0 x1 x2 x3 x4 h0 h
    | _ => 0)
  | _ => 0
theorem q_47_0 {n0 n1 n2 n3 n4 : Int} {H0 : gH}  : True ∧ ∀ q, none = some q → mub_47_3 n0 n1 n2 n3 n0 n1 n2 n3 n4 H0 H0 < q := by
  exact ⟨trivial, fun q hq => nomatch hq⟩
theorem c_47_s_0 : vOkm T0 (eP e_47 L_47 A_47 mu_47 none) 4 ([], (4000, [0, 1, 2, 3, 4], [0], 3)) := vOk_in fun ρ η h => by
  obtain ⟨_⟩ := h
  exact q_47_0 (n0 := ρ 0) (n1 := ρ 1) (n2 := ρ 2) (n3 := ρ 3) (n4 := ρ 4) (H0 := η 0) 
def p_47_s : List vG := [([], (4000, [0, 1, 2, 3, 4], [0], 3))]
theorem r_47_s : vCovO true (eR0 e_47 L_47 cs_47 2000) p_47_s = true := by decide +kernel
theorem q_47_1 {q0 : Nat} {n0 n1 n2 n3 n4 n5 n6 n7 n8 n9 n10 : Int} {H0 H1 H2 : gH} (f0 : n0 ≤ 2147483647) (f1 : (-2147483648) ≤ n0) (f2 : (hLe T0 H0 H1 ∧ hFr s_47.2.2.2.2 H0 H1 ∧ hWt T0 H1) ∧ (True ∧ True) ∧ some q0 = some (mub_47_3 n1 n2 n3 n4 n5 n6 n7 n8 n0 H0 H1)) (f3 : n9 ≤ 2147483647) (f4 : (-2147483648) ≤ n9) (f5 : n0 < n9) (f6 : n10 = w32 (n0 + 1)) : True ∧ ∀ q, some q0 = some q → mub_47_3 n1 n2 n3 n4 n5 n6 n7 n8 n10 H0 H2 < q := by
  have g5 := Option.some.inj f2.2.2
  unfold mub_47_3 at g5
  unfold mub_47_3
  unfold w32 at *
  refine ⟨?_, fun q hq => ?_⟩
  · trivial
  · have g6 := Option.some.inj hq
    subst g6
    omega
theorem c_47_3_0 {q0 : Nat} : vOkm T0 (eP e_47 L_47 A_47 mu_47 (some q0)) 4 ([(10, [19, 8], [], 1), (42, [8, 9], [], 0), (90, [9], [], -2147483648), (91, [9], [], 2147483647), (5000, [0, 1, 2, 3, 4, 5, 6, 7, 8], [0, 1], 3), (90, [8], [], -2147483648), (91, [8], [], 2147483647)], (4000, [4, 5, 6, 7, 19], [5], 3)) := vOk_in fun ρ η h => by
  obtain ⟨f0, f1, f2, f3, f4, f5, f6, _⟩ := h
  exact q_47_1 (q0 := q0) (n0 := ρ 8) (n1 := ρ 0) (n2 := ρ 1) (n3 := ρ 2) (n4 := ρ 3) (n5 := ρ 4) (n6 := ρ 5) (n7 := ρ 6) (n8 := ρ 7) (n9 := ρ 9) (n10 := ρ 19) (H0 := η 0) (H1 := η 1) (H2 := η 5) f6 f5 f4 f3 f2 f1 f0
def p_47_3 : List vG := [([(10, [19, 8], [], 1), (42, [8, 9], [], 0), (90, [9], [], -2147483648), (91, [9], [], 2147483647), (5000, [0, 1, 2, 3, 4, 5, 6, 7, 8], [0, 1], 3), (90, [8], [], -2147483648), (91, [8], [], 2147483647)], (4000, [4, 5, 6, 7, 19], [5], 3))]
theorem r_47_3 : vCovO true (eRc e_47 L_47 cs_47 2000 (3, [(0, (3, 2, 274, 0)), (1, (0, -2147483648, 2147483647, 0)), (2, (0, -2147483648, 2147483647, 0)), (3, (0, -2147483648, 2147483647, 0)), (4, (0, -2147483648, 2147483647, 0))])) p_47_3 = true := by decide +kernel
theorem m_47 (d : Nat) : eC e_47 (d + 3) := eC_ok (e := e_47) (L := L_47) (cs := cs_47) (n := 2000) (d := d + 2) (A := A_47) (μ := mu_47) (tp := true) (p0 := p_47_s) rfl ⟨m_39 d, ⟨m_41 (d + 1), ⟨m_200 (d + 1), ⟨m_202 (d + 1), trivial⟩⟩⟩⟩ rfl (.inr pre0_ok) (by decide +kernel) (fun _ => post0_ok) r_47_s (allC c_47_s_0 allN) (allC (.inl ⟨p_47_3, r_47_3, fun q0 => (allC c_47_3_0 allN)⟩) allN)
/- Mixer.addLays (LMixStage$Sheet;I)V -/
noncomputable def s_46 : vM := ([(3, 2, 274, 0), (3, 6, -1, 0), (0, -2147483648, 2147483647, 0)], (9, 0, 0, 0), 0, 0, [(101, 0)])
noncomputable def e_46 : vE := (46, s_46, pre0, post0)
noncomputable def L_46 : List vE := [e_47, e_115]
def cs_46 : List vC := [(5, [(0, (3, 2, 274, 0)), (1, (3, 6, -1, 0)), (2, (0, -2147483648, 2147483647, 0)), (3, (0, -2147483648, 2147483647, 0)), (4, (0, -2147483648, 2147483647, 0))])]
def mub_46_5 (a0 a1 a2 x0 x1 x2 x3 x4 : Int) (h0 h : gH) : Nat := (2147483648 - x4).toNat
def A_46 : Int → List Int → gH → gH → Prop := fun c xs h0 h => True
def mu_46 : Int → List Int → gH → gH → Nat := fun c xs h0 h => match c.toNat with
  | 5 => (match xs with
    | [a0, a1, a2, x0, x1, x2, x3, x4] => mub_46_5 a0 a1 a2 x0 x1 x2 x3 x4 h0 h
    | _ => 0)
  | _ => 0
theorem q_46_0 {n0 n1 n2 n3 n4 : Int} {H0 : gH}  : True ∧ ∀ q, none = some q → mub_46_5 n0 n1 n2 n0 n1 n2 n3 n4 H0 H0 < q := by
  exact ⟨trivial, fun q hq => nomatch hq⟩
theorem c_46_s_0 : vOkm T0 (eP e_46 L_46 A_46 mu_46 none) 3 ([], (4000, [0, 1, 2, 3, 4], [0], 5)) := vOk_in fun ρ η h => by
  obtain ⟨_⟩ := h
  exact q_46_0 (n0 := ρ 0) (n1 := ρ 1) (n2 := ρ 2) (n3 := ρ 3) (n4 := ρ 4) (H0 := η 0) 
def p_46_s : List vG := [([], (4000, [0, 1, 2, 3, 4], [0], 5))]
theorem r_46_s : vCovO true (eR0 e_46 L_46 cs_46 2000) p_46_s = true := by decide +kernel
theorem q_46_1 {q0 : Nat} {n0 n1 n2 n3 n4 n5 n6 n7 n8 n9 : Int} {H0 H1 H2 : gH} (f0 : n0 ≤ 2147483647) (f1 : (-2147483648) ≤ n0) (f2 : (hLe T0 H0 H1 ∧ hFr s_46.2.2.2.2 H0 H1 ∧ hWt T0 H1) ∧ (True ∧ True) ∧ some q0 = some (mub_46_5 n1 n2 n3 n4 n5 n6 n7 n0 H0 H1)) (f3 : n8 ≤ 40) (f4 : 0 ≤ n8) (f5 : n0 < n8) (f6 : n9 = w32 (n0 + 1)) : True ∧ ∀ q, some q0 = some q → mub_46_5 n1 n2 n3 n4 n5 n6 n7 n9 H0 H2 < q := by
  have g5 := Option.some.inj f2.2.2
  unfold mub_46_5 at g5
  unfold mub_46_5
  unfold w32 at *
  refine ⟨?_, fun q hq => ?_⟩
  · trivial
  · have g6 := Option.some.inj hq
    subst g6
    omega
theorem c_46_5_0 {q0 : Nat} : vOkm T0 (eP e_46 L_46 A_46 mu_46 (some q0)) 3 ([(10, [10, 7], [], 1), (42, [7, 8], [], 0), (90, [8], [], 0), (91, [8], [], 40), (5000, [0, 1, 2, 3, 4, 5, 6, 7], [0, 1], 5), (90, [7], [], -2147483648), (91, [7], [], 2147483647)], (4000, [3, 4, 5, 6, 10], [2], 5)) := vOk_in fun ρ η h => by
  obtain ⟨f0, f1, f2, f3, f4, f5, f6, _⟩ := h
  exact q_46_1 (q0 := q0) (n0 := ρ 7) (n1 := ρ 0) (n2 := ρ 1) (n3 := ρ 2) (n4 := ρ 3) (n5 := ρ 4) (n6 := ρ 5) (n7 := ρ 6) (n8 := ρ 8) (n9 := ρ 10) (H0 := η 0) (H1 := η 1) (H2 := η 2) f6 f5 f4 f3 f2 f1 f0
theorem c_46_5_1 {q0 : Nat} : vOkm T0 (eP e_46 L_46 A_46 mu_46 (some q0)) 3 ([(10, [11, 7], [], 1), (42, [7, 8], [], 0), (90, [8], [], 0), (91, [8], [], 40), (5000, [0, 1, 2, 3, 4, 5, 6, 7], [0, 1], 5), (90, [7], [], -2147483648), (91, [7], [], 2147483647)], (4000, [3, 4, 5, 6, 11], [2], 5)) := vOk_in fun ρ η h => by
  obtain ⟨f0, f1, f2, f3, f4, f5, f6, _⟩ := h
  exact q_46_1 (q0 := q0) (n0 := ρ 7) (n1 := ρ 0) (n2 := ρ 1) (n3 := ρ 2) (n4 := ρ 3) (n5 := ρ 4) (n6 := ρ 5) (n7 := ρ 6) (n8 := ρ 8) (n9 := ρ 11) (H0 := η 0) (H1 := η 1) (H2 := η 2) f6 f5 f4 f3 f2 f1 f0
theorem q_46_2 {q0 : Nat} {n0 n1 n2 n3 n4 n5 n6 n7 n8 n9 n10 : Int} {H0 H1 H2 : gH} (f0 : n0 ≤ 2147483647) (f1 : (-2147483648) ≤ n0) (f2 : (hLe T0 H0 H1 ∧ hFr s_46.2.2.2.2 H0 H1 ∧ hWt T0 H1) ∧ (True ∧ True) ∧ some q0 = some (mub_46_5 n1 n2 n3 n4 n5 n6 n7 n0 H0 H1)) (f3 : n8 ≤ 40) (f4 : 0 ≤ n8) (f5 : n0 < n8) (f6 : n9 = w32 (n0 + 1)) : True ∧ ∀ q, some q0 = some q → mub_46_5 n1 n2 n3 n4 n5 n6 n10 n9 H0 H2 < q := by
  have g5 := Option.some.inj f2.2.2
  unfold mub_46_5 at g5
  unfold mub_46_5
  unfold w32 at *
  refine ⟨?_, fun q hq => ?_⟩
  · trivial
  · have g6 := Option.some.inj hq
    subst g6
    omega
theorem c_46_5_2 {q0 : Nat} : vOkm T0 (eP e_46 L_46 A_46 mu_46 (some q0)) 3 ([(10, [18, 7], [], 1), (42, [7, 8], [], 0), (90, [8], [], 0), (91, [8], [], 40), (5000, [0, 1, 2, 3, 4, 5, 6, 7], [0, 1], 5), (90, [7], [], -2147483648), (91, [7], [], 2147483647)], (4000, [3, 4, 5, 17, 18], [3], 5)) := vOk_in fun ρ η h => by
  obtain ⟨f0, f1, f2, f3, f4, f5, f6, _⟩ := h
  exact q_46_2 (q0 := q0) (n0 := ρ 7) (n1 := ρ 0) (n2 := ρ 1) (n3 := ρ 2) (n4 := ρ 3) (n5 := ρ 4) (n6 := ρ 5) (n7 := ρ 6) (n8 := ρ 8) (n9 := ρ 18) (n10 := ρ 17) (H0 := η 0) (H1 := η 1) (H2 := η 3) f6 f5 f4 f3 f2 f1 f0
theorem c_46_5_3 {q0 : Nat} : vOkm T0 (eP e_46 L_46 A_46 mu_46 (some q0)) 3 ([(10, [20, 7], [], 1), (42, [7, 8], [], 0), (90, [8], [], 0), (91, [8], [], 40), (5000, [0, 1, 2, 3, 4, 5, 6, 7], [0, 1], 5), (90, [7], [], -2147483648), (91, [7], [], 2147483647)], (4000, [3, 4, 5, 19, 20], [3], 5)) := vOk_in fun ρ η h => by
  obtain ⟨f0, f1, f2, f3, f4, f5, f6, _⟩ := h
  exact q_46_2 (q0 := q0) (n0 := ρ 7) (n1 := ρ 0) (n2 := ρ 1) (n3 := ρ 2) (n4 := ρ 3) (n5 := ρ 4) (n6 := ρ 5) (n7 := ρ 6) (n8 := ρ 8) (n9 := ρ 20) (n10 := ρ 19) (H0 := η 0) (H1 := η 1) (H2 := η 3) f6 f5 f4 f3 f2 f1 f0
theorem c_46_5_4 {q0 : Nat} : vOkm T0 (eP e_46 L_46 A_46 mu_46 (some q0)) 3 ([(10, [21, 7], [], 1), (42, [7, 8], [], 0), (90, [8], [], 0), (91, [8], [], 40), (5000, [0, 1, 2, 3, 4, 5, 6, 7], [0, 1], 5), (90, [7], [], -2147483648), (91, [7], [], 2147483647)], (4000, [3, 4, 5, 20, 21], [3], 5)) := vOk_in fun ρ η h => by
  obtain ⟨f0, f1, f2, f3, f4, f5, f6, _⟩ := h
  exact q_46_2 (q0 := q0) (n0 := ρ 7) (n1 := ρ 0) (n2 := ρ 1) (n3 := ρ 2) (n4 := ρ 3) (n5 := ρ 4) (n6 := ρ 5) (n7 := ρ 6) (n8 := ρ 8) (n9 := ρ 21) (n10 := ρ 20) (H0 := η 0) (H1 := η 1) (H2 := η 3) f6 f5 f4 f3 f2 f1 f0
theorem c_46_5_5 {q0 : Nat} : vOkm T0 (eP e_46 L_46 A_46 mu_46 (some q0)) 3 ([(10, [23, 7], [], 1), (42, [7, 8], [], 0), (90, [8], [], 0), (91, [8], [], 40), (5000, [0, 1, 2, 3, 4, 5, 6, 7], [0, 1], 5), (90, [7], [], -2147483648), (91, [7], [], 2147483647)], (4000, [3, 4, 5, 22, 23], [3], 5)) := vOk_in fun ρ η h => by
  obtain ⟨f0, f1, f2, f3, f4, f5, f6, _⟩ := h
  exact q_46_2 (q0 := q0) (n0 := ρ 7) (n1 := ρ 0) (n2 := ρ 1) (n3 := ρ 2) (n4 := ρ 3) (n5 := ρ 4) (n6 := ρ 5) (n7 := ρ 6) (n8 := ρ 8) (n9 := ρ 23) (n10 := ρ 22) (H0 := η 0) (H1 := η 1) (H2 := η 3) f6 f5 f4 f3 f2 f1 f0
theorem c_46_5_6 {q0 : Nat} : vOkm T0 (eP e_46 L_46 A_46 mu_46 (some q0)) 3 ([(10, [21, 7], [], 1), (42, [7, 8], [], 0), (90, [8], [], 0), (91, [8], [], 40), (5000, [0, 1, 2, 3, 4, 5, 6, 7], [0, 1], 5), (90, [7], [], -2147483648), (91, [7], [], 2147483647)], (4000, [3, 4, 5, 20, 21], [3], 5)) := vOk_in fun ρ η h => by
  obtain ⟨f0, f1, f2, f3, f4, f5, f6, _⟩ := h
  exact q_46_2 (q0 := q0) (n0 := ρ 7) (n1 := ρ 0) (n2 := ρ 1) (n3 := ρ 2) (n4 := ρ 3) (n5 := ρ 4) (n6 := ρ 5) (n7 := ρ 6) (n8 := ρ 8) (n9 := ρ 21) (n10 := ρ 20) (H0 := η 0) (H1 := η 1) (H2 := η 3) f6 f5 f4 f3 f2 f1 f0
theorem c_46_5_7 {q0 : Nat} : vOkm T0 (eP e_46 L_46 A_46 mu_46 (some q0)) 3 ([(10, [23, 7], [], 1), (42, [7, 8], [], 0), (90, [8], [], 0), (91, [8], [], 40), (5000, [0, 1, 2, 3, 4, 5, 6, 7], [0, 1], 5), (90, [7], [], -2147483648), (91, [7], [], 2147483647)], (4000, [3, 4, 5, 22, 23], [3], 5)) := vOk_in fun ρ η h => by
  obtain ⟨f0, f1, f2, f3, f4, f5, f6, _⟩ := h
  exact q_46_2 (q0 := q0) (n0 := ρ 7) (n1 := ρ 0) (n2 := ρ 1) (n3 := ρ 2) (n4 := ρ 3) (n5 := ρ 4) (n6 := ρ 5) (n7 := ρ 6) (n8 := ρ 8) (n9 := ρ 23) (n10 := ρ 22) (H0 := η 0) (H1 := η 1) (H2 := η 3) f6 f5 f4 f3 f2 f1 f0
def p_46_5 : List vG := [([(10, [10, 7], [], 1), (42, [7, 8], [], 0), (90, [8], [], 0), (91, [8], [], 40), (5000, [0, 1, 2, 3, 4, 5, 6, 7], [0, 1], 5), (90, [7], [], -2147483648), (91, [7], [], 2147483647)], (4000, [3, 4, 5, 6, 10], [2], 5)),
  ([(10, [11, 7], [], 1), (42, [7, 8], [], 0), (90, [8], [], 0), (91, [8], [], 40), (5000, [0, 1, 2, 3, 4, 5, 6, 7], [0, 1], 5), (90, [7], [], -2147483648), (91, [7], [], 2147483647)], (4000, [3, 4, 5, 6, 11], [2], 5)),
  ([(10, [18, 7], [], 1), (42, [7, 8], [], 0), (90, [8], [], 0), (91, [8], [], 40), (5000, [0, 1, 2, 3, 4, 5, 6, 7], [0, 1], 5), (90, [7], [], -2147483648), (91, [7], [], 2147483647)], (4000, [3, 4, 5, 17, 18], [3], 5)),
  ([(10, [20, 7], [], 1), (42, [7, 8], [], 0), (90, [8], [], 0), (91, [8], [], 40), (5000, [0, 1, 2, 3, 4, 5, 6, 7], [0, 1], 5), (90, [7], [], -2147483648), (91, [7], [], 2147483647)], (4000, [3, 4, 5, 19, 20], [3], 5)),
  ([(10, [21, 7], [], 1), (42, [7, 8], [], 0), (90, [8], [], 0), (91, [8], [], 40), (5000, [0, 1, 2, 3, 4, 5, 6, 7], [0, 1], 5), (90, [7], [], -2147483648), (91, [7], [], 2147483647)], (4000, [3, 4, 5, 20, 21], [3], 5)),
  ([(10, [23, 7], [], 1), (42, [7, 8], [], 0), (90, [8], [], 0), (91, [8], [], 40), (5000, [0, 1, 2, 3, 4, 5, 6, 7], [0, 1], 5), (90, [7], [], -2147483648), (91, [7], [], 2147483647)], (4000, [3, 4, 5, 22, 23], [3], 5)),
  ([(10, [21, 7], [], 1), (42, [7, 8], [], 0), (90, [8], [], 0), (91, [8], [], 40), (5000, [0, 1, 2, 3, 4, 5, 6, 7], [0, 1], 5), (90, [7], [], -2147483648), (91, [7], [], 2147483647)], (4000, [3, 4, 5, 20, 21], [3], 5)),
  ([(10, [23, 7], [], 1), (42, [7, 8], [], 0), (90, [8], [], 0), (91, [8], [], 40), (5000, [0, 1, 2, 3, 4, 5, 6, 7], [0, 1], 5), (90, [7], [], -2147483648), (91, [7], [], 2147483647)], (4000, [3, 4, 5, 22, 23], [3], 5))]
theorem r_46_5 : vCovO true (eRc e_46 L_46 cs_46 2000 (5, [(0, (3, 2, 274, 0)), (1, (3, 6, -1, 0)), (2, (0, -2147483648, 2147483647, 0)), (3, (0, -2147483648, 2147483647, 0)), (4, (0, -2147483648, 2147483647, 0))])) p_46_5 = true := by decide +kernel
theorem m_46 (d : Nat) : eC e_46 (d + 4) := eC_ok (e := e_46) (L := L_46) (cs := cs_46) (n := 2000) (d := d + 3) (A := A_46) (μ := mu_46) (tp := true) (p0 := p_46_s) rfl ⟨m_47 d, ⟨m_115 (d + 2), trivial⟩⟩ rfl (.inr pre0_ok) (by decide +kernel) (fun _ => post0_ok) r_46_s (allC c_46_s_0 allN) (allC (.inl ⟨p_46_5, r_46_5, fun q0 => (allC c_46_5_0 (allC c_46_5_1 (allC c_46_5_2 (allC c_46_5_3 (allC c_46_5_4 (allC c_46_5_5 (allC c_46_5_6 (allC c_46_5_7 allN))))))))⟩) allN)
/- Mixer.turnDown (I)V -/
noncomputable def s_45 : vM := ([(3, 2, 274, 0), (0, -2147483648, 2147483647, 0)], (9, 0, 0, 0), 0, 0, [(101, 0)])
noncomputable def e_45 : vE := (45, s_45, pre0, post0)
noncomputable def L_45 : List vE := [e_199, e_200, e_202]
def cs_45 : List vC := [(2, [(0, (3, 2, 274, 0)), (1, (0, -2147483648, 2147483647, 0)), (2, (0, -2147483648, 2147483647, 0))])]
def mub_45_2 (a0 a1 x0 x1 x2 : Int) (h0 h : gH) : Nat := (2147483648 - x2).toNat
def A_45 : Int → List Int → gH → gH → Prop := fun c xs h0 h => True
def mu_45 : Int → List Int → gH → gH → Nat := fun c xs h0 h => match c.toNat with
  | 2 => (match xs with
    | [a0, a1, x0, x1, x2] => mub_45_2 a0 a1 x0 x1 x2 h0 h
    | _ => 0)
  | _ => 0
theorem q_45_0 {n0 n1 n2 : Int} {H0 : gH}  : True ∧ ∀ q, none = some q → mub_45_2 n0 n1 n0 n1 n2 H0 H0 < q := by
  exact ⟨trivial, fun q hq => nomatch hq⟩
theorem c_45_s_0 : vOkm T0 (eP e_45 L_45 A_45 mu_45 none) 2 ([], (4000, [0, 1, 2], [0], 2)) := vOk_in fun ρ η h => by
  obtain ⟨_⟩ := h
  exact q_45_0 (n0 := ρ 0) (n1 := ρ 1) (n2 := ρ 2) (H0 := η 0) 
def p_45_s : List vG := [([], (4000, [0, 1, 2], [0], 2))]
theorem r_45_s : vCovO true (eR0 e_45 L_45 cs_45 2000) p_45_s = true := by decide +kernel
theorem q_45_1 {q0 : Nat} {n0 n1 n2 n3 n4 n5 n6 : Int} {H0 H1 H2 : gH} (f0 : n0 ≤ 2147483647) (f1 : (-2147483648) ≤ n0) (f2 : (hLe T0 H0 H1 ∧ hFr s_45.2.2.2.2 H0 H1 ∧ hWt T0 H1) ∧ (True ∧ True) ∧ some q0 = some (mub_45_2 n1 n2 n3 n4 n0 H0 H1)) (f3 : n5 ≤ 2147483647) (f4 : (-2147483648) ≤ n5) (f5 : n0 < n5) (f6 : n6 = w32 (n0 + 1)) : True ∧ ∀ q, some q0 = some q → mub_45_2 n1 n2 n3 n4 n6 H0 H2 < q := by
  have g5 := Option.some.inj f2.2.2
  unfold mub_45_2 at g5
  unfold mub_45_2
  unfold w32 at *
  refine ⟨?_, fun q hq => ?_⟩
  · trivial
  · have g6 := Option.some.inj hq
    subst g6
    omega
theorem c_45_2_0 {q0 : Nat} : vOkm T0 (eP e_45 L_45 A_45 mu_45 (some q0)) 2 ([(10, [18, 4], [], 1), (42, [4, 5], [], 0), (90, [5], [], -2147483648), (91, [5], [], 2147483647), (5000, [0, 1, 2, 3, 4], [0, 1], 2), (90, [4], [], -2147483648), (91, [4], [], 2147483647)], (4000, [2, 3, 18], [4], 2)) := vOk_in fun ρ η h => by
  obtain ⟨f0, f1, f2, f3, f4, f5, f6, _⟩ := h
  exact q_45_1 (q0 := q0) (n0 := ρ 4) (n1 := ρ 0) (n2 := ρ 1) (n3 := ρ 2) (n4 := ρ 3) (n5 := ρ 5) (n6 := ρ 18) (H0 := η 0) (H1 := η 1) (H2 := η 4) f6 f5 f4 f3 f2 f1 f0
def p_45_2 : List vG := [([(10, [18, 4], [], 1), (42, [4, 5], [], 0), (90, [5], [], -2147483648), (91, [5], [], 2147483647), (5000, [0, 1, 2, 3, 4], [0, 1], 2), (90, [4], [], -2147483648), (91, [4], [], 2147483647)], (4000, [2, 3, 18], [4], 2))]
theorem r_45_2 : vCovO true (eRc e_45 L_45 cs_45 2000 (2, [(0, (3, 2, 274, 0)), (1, (0, -2147483648, 2147483647, 0)), (2, (0, -2147483648, 2147483647, 0))])) p_45_2 = true := by decide +kernel
theorem m_45 (d : Nat) : eC e_45 (d + 2) := eC_ok (e := e_45) (L := L_45) (cs := cs_45) (n := 2000) (d := d + 1) (A := A_45) (μ := mu_45) (tp := true) (p0 := p_45_s) rfl ⟨m_199 d, ⟨m_200 d, ⟨m_202 d, trivial⟩⟩⟩ rfl (.inr pre0_ok) (by decide +kernel) (fun _ => post0_ok) r_45_s (allC c_45_s_0 allN) (allC (.inl ⟨p_45_2, r_45_2, fun q0 => (allC c_45_2_0 allN)⟩) allN)
/- Mixer.dip (LMixStage$Cue;)V -/
noncomputable def s_48 : vM := ([(3, 2, 274, 0), (2, 1, -1, 0)], (9, 0, 0, 0), 0, 0, [(101, 0)])
noncomputable def e_48 : vE := (48, s_48, pre0, post0)
noncomputable def L_48 : List vE := [e_199, e_200, e_202, e_317]
def cs_48 : List vC := [(31, [(0, (3, 2, 274, 0)), (1, (3, 1, -1, 0)), (2, (0, -2147483648, 2147483647, 0)), (3, (0, -2147483648, 2147483647, 0)), (4, (0, -2147483648, 2147483647, 0))])]
def mub_48_31 (a0 a1 x0 x1 x2 x3 x4 : Int) (h0 h : gH) : Nat := (2147483648 - x4).toNat
def A_48 : Int → List Int → gH → gH → Prop := fun c xs h0 h => True
def mu_48 : Int → List Int → gH → gH → Nat := fun c xs h0 h => match c.toNat with
  | 31 => (match xs with
    | [a0, a1, x0, x1, x2, x3, x4] => mub_48_31 a0 a1 x0 x1 x2 x3 x4 h0 h
    | _ => 0)
  | _ => 0
theorem q_48_0 {n0 n1 n2 n3 n4 : Int} {H0 H1 : gH}  : True ∧ ∀ q, none = some q → mub_48_31 n0 n1 n0 n1 n2 n3 n4 H0 H1 < q := by
  exact ⟨trivial, fun q hq => nomatch hq⟩
theorem c_48_s_0 : vOkm T0 (eP e_48 L_48 A_48 mu_48 none) 2 ([], (4000, [0, 1, 8, 9, 10], [1], 31)) := vOk_in fun ρ η h => by
  obtain ⟨_⟩ := h
  exact q_48_0 (n0 := ρ 0) (n1 := ρ 1) (n2 := ρ 8) (n3 := ρ 9) (n4 := ρ 10) (H0 := η 0) (H1 := η 1) 
def p_48_s : List vG := [([], (4000, [0, 1, 8, 9, 10], [1], 31))]
theorem r_48_s : vCovO true (eR0 e_48 L_48 cs_48 2000) p_48_s = true := by decide +kernel
theorem q_48_1 {q0 : Nat} {n0 n1 n2 n3 n4 n5 n6 n7 n8 : Int} {H0 H1 H2 : gH} (f0 : n0 ≤ 2147483647) (f1 : (-2147483648) ≤ n0) (f2 : (hLe T0 H0 H1 ∧ hFr s_48.2.2.2.2 H0 H1 ∧ hWt T0 H1) ∧ (True ∧ True) ∧ some q0 = some (mub_48_31 n1 n2 n3 n4 n5 n6 n0 H0 H1)) (f3 : n7 ≤ 2147483647) (f4 : (-2147483648) ≤ n7) (f5 : n0 < n7) (f6 : n8 = w32 (n0 + 1)) : True ∧ ∀ q, some q0 = some q → mub_48_31 n1 n2 n3 n4 n5 n6 n8 H0 H2 < q := by
  have g5 := Option.some.inj f2.2.2
  unfold mub_48_31 at g5
  unfold mub_48_31
  unfold w32 at *
  refine ⟨?_, fun q hq => ?_⟩
  · trivial
  · have g6 := Option.some.inj hq
    subst g6
    omega
theorem c_48_31_0 {q0 : Nat} : vOkm T0 (eP e_48 L_48 A_48 mu_48 (some q0)) 2 ([(10, [18, 6], [], 1), (42, [6, 7], [], 0), (90, [7], [], -2147483648), (91, [7], [], 2147483647), (5000, [0, 1, 2, 3, 4, 5, 6], [0, 1], 31), (90, [6], [], -2147483648), (91, [6], [], 2147483647)], (4000, [2, 3, 4, 5, 18], [2], 31)) := vOk_in fun ρ η h => by
  obtain ⟨f0, f1, f2, f3, f4, f5, f6, _⟩ := h
  exact q_48_1 (q0 := q0) (n0 := ρ 6) (n1 := ρ 0) (n2 := ρ 1) (n3 := ρ 2) (n4 := ρ 3) (n5 := ρ 4) (n6 := ρ 5) (n7 := ρ 7) (n8 := ρ 18) (H0 := η 0) (H1 := η 1) (H2 := η 2) f6 f5 f4 f3 f2 f1 f0
theorem c_48_31_1 {q0 : Nat} : vOkm T0 (eP e_48 L_48 A_48 mu_48 (some q0)) 2 ([(10, [29, 6], [], 1), (42, [6, 7], [], 0), (90, [7], [], -2147483648), (91, [7], [], 2147483647), (5000, [0, 1, 2, 3, 4, 5, 6], [0, 1], 31), (90, [6], [], -2147483648), (91, [6], [], 2147483647)], (4000, [2, 3, 4, 5, 29], [4], 31)) := vOk_in fun ρ η h => by
  obtain ⟨f0, f1, f2, f3, f4, f5, f6, _⟩ := h
  exact q_48_1 (q0 := q0) (n0 := ρ 6) (n1 := ρ 0) (n2 := ρ 1) (n3 := ρ 2) (n4 := ρ 3) (n5 := ρ 4) (n6 := ρ 5) (n7 := ρ 7) (n8 := ρ 29) (H0 := η 0) (H1 := η 1) (H2 := η 4) f6 f5 f4 f3 f2 f1 f0
theorem q_48_2 {q0 : Nat} {n0 n1 n2 n3 n4 n5 n6 n7 n8 : Int} {H0 H1 H2 : gH} (f0 : n0 ≤ 2147483647) (f1 : (-2147483648) ≤ n0) (f2 : (hLe T0 H0 H1 ∧ hFr s_48.2.2.2.2 H0 H1 ∧ hWt T0 H1) ∧ (True ∧ True) ∧ some q0 = some (mub_48_31 n1 n2 n3 n4 n5 n6 n0 H0 H1)) (f3 : n7 ≤ 2147483647) (f4 : (-2147483648) ≤ n7) (f5 : n0 < n7) (f6 : n8 = w32 (n0 + 1)) : True ∧ ∀ q, some q0 = some q → mub_48_31 n1 n2 n3 n4 n5 n0 n8 H0 H2 < q := by
  have g5 := Option.some.inj f2.2.2
  unfold mub_48_31 at g5
  unfold mub_48_31
  unfold w32 at *
  refine ⟨?_, fun q hq => ?_⟩
  · trivial
  · have g6 := Option.some.inj hq
    subst g6
    omega
theorem c_48_31_2 {q0 : Nat} : vOkm T0 (eP e_48 L_48 A_48 mu_48 (some q0)) 2 ([(10, [18, 6], [], 1), (42, [6, 7], [], 0), (90, [7], [], -2147483648), (91, [7], [], 2147483647), (5000, [0, 1, 2, 3, 4, 5, 6], [0, 1], 31), (90, [6], [], -2147483648), (91, [6], [], 2147483647)], (4000, [2, 3, 4, 6, 18], [2], 31)) := vOk_in fun ρ η h => by
  obtain ⟨f0, f1, f2, f3, f4, f5, f6, _⟩ := h
  exact q_48_2 (q0 := q0) (n0 := ρ 6) (n1 := ρ 0) (n2 := ρ 1) (n3 := ρ 2) (n4 := ρ 3) (n5 := ρ 4) (n6 := ρ 5) (n7 := ρ 7) (n8 := ρ 18) (H0 := η 0) (H1 := η 1) (H2 := η 2) f6 f5 f4 f3 f2 f1 f0
theorem c_48_31_3 {q0 : Nat} : vOkm T0 (eP e_48 L_48 A_48 mu_48 (some q0)) 2 ([(10, [29, 6], [], 1), (42, [6, 7], [], 0), (90, [7], [], -2147483648), (91, [7], [], 2147483647), (5000, [0, 1, 2, 3, 4, 5, 6], [0, 1], 31), (90, [6], [], -2147483648), (91, [6], [], 2147483647)], (4000, [2, 3, 4, 6, 29], [4], 31)) := vOk_in fun ρ η h => by
  obtain ⟨f0, f1, f2, f3, f4, f5, f6, _⟩ := h
  exact q_48_2 (q0 := q0) (n0 := ρ 6) (n1 := ρ 0) (n2 := ρ 1) (n3 := ρ 2) (n4 := ρ 3) (n5 := ρ 4) (n6 := ρ 5) (n7 := ρ 7) (n8 := ρ 29) (H0 := η 0) (H1 := η 1) (H2 := η 4) f6 f5 f4 f3 f2 f1 f0
def p_48_31 : List vG := [([(10, [18, 6], [], 1), (42, [6, 7], [], 0), (90, [7], [], -2147483648), (91, [7], [], 2147483647), (5000, [0, 1, 2, 3, 4, 5, 6], [0, 1], 31), (90, [6], [], -2147483648), (91, [6], [], 2147483647)], (4000, [2, 3, 4, 5, 18], [2], 31)),
  ([(10, [29, 6], [], 1), (42, [6, 7], [], 0), (90, [7], [], -2147483648), (91, [7], [], 2147483647), (5000, [0, 1, 2, 3, 4, 5, 6], [0, 1], 31), (90, [6], [], -2147483648), (91, [6], [], 2147483647)], (4000, [2, 3, 4, 5, 29], [4], 31)),
  ([(10, [18, 6], [], 1), (42, [6, 7], [], 0), (90, [7], [], -2147483648), (91, [7], [], 2147483647), (5000, [0, 1, 2, 3, 4, 5, 6], [0, 1], 31), (90, [6], [], -2147483648), (91, [6], [], 2147483647)], (4000, [2, 3, 4, 6, 18], [2], 31)),
  ([(10, [29, 6], [], 1), (42, [6, 7], [], 0), (90, [7], [], -2147483648), (91, [7], [], 2147483647), (5000, [0, 1, 2, 3, 4, 5, 6], [0, 1], 31), (90, [6], [], -2147483648), (91, [6], [], 2147483647)], (4000, [2, 3, 4, 6, 29], [4], 31))]
theorem r_48_31 : vCovO true (eRc e_48 L_48 cs_48 2000 (31, [(0, (3, 2, 274, 0)), (1, (3, 1, -1, 0)), (2, (0, -2147483648, 2147483647, 0)), (3, (0, -2147483648, 2147483647, 0)), (4, (0, -2147483648, 2147483647, 0))])) p_48_31 = true := by decide +kernel
theorem m_48 (d : Nat) : eC e_48 (d + 2) := eC_ok (e := e_48) (L := L_48) (cs := cs_48) (n := 2000) (d := d + 1) (A := A_48) (μ := mu_48) (tp := true) (p0 := p_48_s) rfl ⟨m_199 d, ⟨m_200 d, ⟨m_202 d, ⟨m_317 d, trivial⟩⟩⟩⟩ rfl (.inr pre0_ok) (by decide +kernel) (fun _ => post0_ok) r_48_s (allC c_48_s_0 allN) (allC (.inl ⟨p_48_31, r_48_31, fun q0 => (allC c_48_31_0 (allC c_48_31_1 (allC c_48_31_2 (allC c_48_31_3 allN))))⟩) allN)
/- Mixer.tap (LMixStage$Cue;)V -/
noncomputable def s_49 : vM := ([(3, 2, 274, 0), (2, 1, -1, 0)], (9, 0, 0, 0), 0, 0, [(101, 0)])
noncomputable def e_49 : vE := (49, s_49, pre0, post0)
noncomputable def L_49 : List vE := [e_199, e_200, e_202]
def cs_49 : List vC := [(20, [(0, (3, 2, 274, 0)), (1, (3, 1, -1, 0)), (2, (0, -2147483648, 2147483647, 0))]), (29, [(0, (3, 2, 274, 0)), (1, (3, 1, -1, 0)), (2, (0, -2147483647, 2147483647, 0)), (3, (1, 0, 0, 0)), (5, (0, -2147483648, 2147483647, 0))])]
def mub_49_20 (a0 a1 x0 x1 x2 : Int) (h0 h : gH) : Nat := (8589934592 + (x2 + 2147483648).toNat) * 1099511627776 + 1099511627775
def mub_49_29 (a0 a1 x0 x1 x2 x3 x5 : Int) (h0 h : gH) : Nat := (8589934592 + (x2 + 2147483648).toNat) * 1099511627776 + (8589934592 + (2147483648 - x5).toNat) * 1
def A_49 : Int → List Int → gH → gH → Prop := fun c xs h0 h => True
def mu_49 : Int → List Int → gH → gH → Nat := fun c xs h0 h => match c.toNat with
  | 20 => (match xs with
    | [a0, a1, x0, x1, x2] => mub_49_20 a0 a1 x0 x1 x2 h0 h
    | _ => 0)
  | 29 => (match xs with
    | [a0, a1, x0, x1, x2, x3, x5] => mub_49_29 a0 a1 x0 x1 x2 x3 x5 h0 h
    | _ => 0)
  | _ => 0
theorem q_49_0 {n0 n1 n2 : Int} {H0 : gH}  : True ∧ ∀ q, none = some q → mub_49_20 n0 n1 n0 n1 n2 H0 H0 < q := by
  exact ⟨trivial, fun q hq => nomatch hq⟩
theorem c_49_s_0 : vOkm T0 (eP e_49 L_49 A_49 mu_49 none) 2 ([], (4000, [0, 1, 6], [0], 20)) := vOk_in fun ρ η h => by
  obtain ⟨_⟩ := h
  exact q_49_0 (n0 := ρ 0) (n1 := ρ 1) (n2 := ρ 6) (H0 := η 0) 
def p_49_s : List vG := [([], (4000, [0, 1, 6], [0], 20))]
theorem r_49_s : vCovO true (eR0 e_49 L_49 cs_49 2000) p_49_s = true := by decide +kernel
theorem q_49_1 {q0 : Nat} {n0 n1 n2 n3 n4 n5 n6 : Int} {H0 H1 : gH} (f0 : n0 ≤ 2147483647) (f1 : (-2147483648) ≤ n0) (f2 : (hLe T0 H0 H1 ∧ hFr s_49.2.2.2.2 H0 H1 ∧ hWt T0 H1) ∧ (True ∧ True) ∧ some q0 = some (mub_49_20 n1 n2 n3 n4 n0 H0 H1)) (f3 : 0 ≤ n0) (f4 : n5 = 0) : True ∧ ∀ q, some q0 = some q → mub_49_29 n1 n2 n3 n4 n0 n6 n5 H0 H1 < q := by
  have g5 := Option.some.inj f2.2.2
  unfold mub_49_20 at g5
  unfold mub_49_29
  refine ⟨?_, fun q hq => ?_⟩
  · trivial
  · have g6 := Option.some.inj hq
    subst g6
    omega
theorem c_49_20_0 {q0 : Nat} : vOkm T0 (eP e_49 L_49 A_49 mu_49 (some q0)) 2 ([(0, [6], [], 0), (33, [4], [], 0), (5000, [0, 1, 2, 3, 4], [0, 1], 20), (90, [4], [], -2147483648), (91, [4], [], 2147483647)], (4000, [2, 3, 4, 5, 6], [1], 29)) := vOk_in fun ρ η h => by
  obtain ⟨f0, f1, f2, f3, f4, _⟩ := h
  exact q_49_1 (q0 := q0) (n0 := ρ 4) (n1 := ρ 0) (n2 := ρ 1) (n3 := ρ 2) (n4 := ρ 3) (n5 := ρ 6) (n6 := ρ 5) (H0 := η 0) (H1 := η 1) f4 f3 f2 f1 f0
def p_49_20 : List vG := [([(0, [6], [], 0), (33, [4], [], 0), (5000, [0, 1, 2, 3, 4], [0, 1], 20), (90, [4], [], -2147483648), (91, [4], [], 2147483647)], (4000, [2, 3, 4, 5, 6], [1], 29))]
theorem r_49_20 : vCovO true (eRc e_49 L_49 cs_49 2000 (20, [(0, (3, 2, 274, 0)), (1, (3, 1, -1, 0)), (2, (0, -2147483648, 2147483647, 0))])) p_49_20 = true := by decide +kernel
theorem q_49_2 {q0 : Nat} {n0 n1 n2 n3 n4 n5 n6 n7 n8 : Int} {H0 H1 H2 : gH} (f0 : n0 ≤ 2147483647) (f1 : (-2147483648) ≤ n0) (f2 : n1 ≤ 2147483647) (f3 : (-2147483647) ≤ n1) (f4 : (hLe T0 H0 H1 ∧ hFr s_49.2.2.2.2 H0 H1 ∧ hWt T0 H1) ∧ (True ∧ True) ∧ some q0 = some (mub_49_29 n2 n3 n4 n5 n1 n6 n0 H0 H1)) (f5 : n7 ≤ 2147483647) (f6 : (-2147483648) ≤ n7) (f7 : n7 ≤ n0) (f8 : n8 = w32 (n1 + (-1))) : True ∧ ∀ q, some q0 = some q → mub_49_20 n2 n3 n4 n5 n8 H0 H2 < q := by
  have g5 := Option.some.inj f4.2.2
  unfold mub_49_29 at g5
  unfold mub_49_20
  unfold w32 at *
  refine ⟨?_, fun q hq => ?_⟩
  · trivial
  · have g6 := Option.some.inj hq
    subst g6
    omega
theorem c_49_29_0 {q0 : Nat} : vOkm T0 (eP e_49 L_49 A_49 mu_49 (some q0)) 2 ([(10, [15, 4], [], -1), (43, [6, 7], [], 0), (90, [7], [], -2147483648), (91, [7], [], 2147483647), (5000, [0, 1, 2, 3, 4, 5, 6], [0, 1], 29), (90, [4], [], -2147483647), (91, [4], [], 2147483647), (90, [6], [], -2147483648), (91, [6], [], 2147483647)], (4000, [2, 3, 15], [2], 20)) := vOk_in fun ρ η h => by
  obtain ⟨f0, f1, f2, f3, f4, f5, f6, f7, f8, _⟩ := h
  exact q_49_2 (q0 := q0) (n0 := ρ 6) (n1 := ρ 4) (n2 := ρ 0) (n3 := ρ 1) (n4 := ρ 2) (n5 := ρ 3) (n6 := ρ 5) (n7 := ρ 7) (n8 := ρ 15) (H0 := η 0) (H1 := η 1) (H2 := η 2) f8 f7 f6 f5 f4 f3 f2 f1 f0
theorem q_49_3 {q0 : Nat} {n0 n1 n2 n3 n4 n5 n6 n7 n8 : Int} {H0 H1 H2 : gH} (f0 : n0 ≤ 2147483647) (f1 : (-2147483648) ≤ n0) (f2 : n1 ≤ 2147483647) (f3 : (-2147483647) ≤ n1) (f4 : (hLe T0 H0 H1 ∧ hFr s_49.2.2.2.2 H0 H1 ∧ hWt T0 H1) ∧ (True ∧ True) ∧ some q0 = some (mub_49_29 n2 n3 n4 n5 n1 n6 n0 H0 H1)) (f5 : n7 ≤ 2147483647) (f6 : (-2147483648) ≤ n7) (f7 : n0 < n7) (f8 : n1 < n0) (f9 : n8 = w32 (n1 + (-1))) : True ∧ ∀ q, some q0 = some q → mub_49_20 n2 n3 n4 n5 n8 H0 H2 < q := by
  have g5 := Option.some.inj f4.2.2
  unfold mub_49_29 at g5
  unfold mub_49_20
  unfold w32 at *
  refine ⟨?_, fun q hq => ?_⟩
  · trivial
  · have g6 := Option.some.inj hq
    subst g6
    omega
theorem c_49_29_1 {q0 : Nat} : vOkm T0 (eP e_49 L_49 A_49 mu_49 (some q0)) 2 ([(10, [15, 4], [], -1), (44, [6, 4], [], 0), (42, [6, 7], [], 0), (90, [7], [], -2147483648), (91, [7], [], 2147483647), (5000, [0, 1, 2, 3, 4, 5, 6], [0, 1], 29), (90, [4], [], -2147483647), (91, [4], [], 2147483647), (90, [6], [], -2147483648), (91, [6], [], 2147483647)], (4000, [2, 3, 15], [2], 20)) := vOk_in fun ρ η h => by
  obtain ⟨f0, f1, f2, f3, f4, f5, f6, f7, f8, f9, _⟩ := h
  exact q_49_3 (q0 := q0) (n0 := ρ 6) (n1 := ρ 4) (n2 := ρ 0) (n3 := ρ 1) (n4 := ρ 2) (n5 := ρ 3) (n6 := ρ 5) (n7 := ρ 7) (n8 := ρ 15) (H0 := η 0) (H1 := η 1) (H2 := η 2) f9 f8 f7 f6 f5 f4 f3 f2 f1 f0
theorem q_49_4 {q0 : Nat} {n0 n1 n2 n3 n4 n5 n6 n7 n8 n9 : Int} {H0 H1 H2 : gH} (f0 : n0 ≤ 2147483647) (f1 : (-2147483648) ≤ n0) (f2 : n1 ≤ 2147483647) (f3 : (-2147483647) ≤ n1) (f4 : (hLe T0 H0 H1 ∧ hFr s_49.2.2.2.2 H0 H1 ∧ hWt T0 H1) ∧ (True ∧ True) ∧ some q0 = some (mub_49_29 n2 n3 n4 n5 n1 n6 n0 H0 H1)) (f5 : n7 ≤ 2147483647) (f6 : (-2147483648) ≤ n7) (f7 : n0 < n7) (f8 : n0 ≤ n1) (f9 : n8 = w32 (n0 + 1)) : True ∧ ∀ q, some q0 = some q → mub_49_29 n2 n3 n4 n5 n1 n9 n8 H0 H2 < q := by
  have g5 := Option.some.inj f4.2.2
  unfold mub_49_29 at g5
  unfold mub_49_29
  unfold w32 at *
  refine ⟨?_, fun q hq => ?_⟩
  · trivial
  · have g6 := Option.some.inj hq
    subst g6
    omega
theorem c_49_29_2 {q0 : Nat} : vOkm T0 (eP e_49 L_49 A_49 mu_49 (some q0)) 2 ([(10, [20, 6], [], 1), (45, [6, 4], [], 0), (42, [6, 7], [], 0), (90, [7], [], -2147483648), (91, [7], [], 2147483647), (5000, [0, 1, 2, 3, 4, 5, 6], [0, 1], 29), (90, [4], [], -2147483647), (91, [4], [], 2147483647), (90, [6], [], -2147483648), (91, [6], [], 2147483647)], (4000, [2, 3, 4, 19, 20], [3], 29)) := vOk_in fun ρ η h => by
  obtain ⟨f0, f1, f2, f3, f4, f5, f6, f7, f8, f9, _⟩ := h
  exact q_49_4 (q0 := q0) (n0 := ρ 6) (n1 := ρ 4) (n2 := ρ 0) (n3 := ρ 1) (n4 := ρ 2) (n5 := ρ 3) (n6 := ρ 5) (n7 := ρ 7) (n8 := ρ 20) (n9 := ρ 19) (H0 := η 0) (H1 := η 1) (H2 := η 3) f9 f8 f7 f6 f5 f4 f3 f2 f1 f0
def p_49_29 : List vG := [([(10, [15, 4], [], -1), (43, [6, 7], [], 0), (90, [7], [], -2147483648), (91, [7], [], 2147483647), (5000, [0, 1, 2, 3, 4, 5, 6], [0, 1], 29), (90, [4], [], -2147483647), (91, [4], [], 2147483647), (90, [6], [], -2147483648), (91, [6], [], 2147483647)], (4000, [2, 3, 15], [2], 20)),
  ([(10, [15, 4], [], -1), (44, [6, 4], [], 0), (42, [6, 7], [], 0), (90, [7], [], -2147483648), (91, [7], [], 2147483647), (5000, [0, 1, 2, 3, 4, 5, 6], [0, 1], 29), (90, [4], [], -2147483647), (91, [4], [], 2147483647), (90, [6], [], -2147483648), (91, [6], [], 2147483647)], (4000, [2, 3, 15], [2], 20)),
  ([(10, [20, 6], [], 1), (45, [6, 4], [], 0), (42, [6, 7], [], 0), (90, [7], [], -2147483648), (91, [7], [], 2147483647), (5000, [0, 1, 2, 3, 4, 5, 6], [0, 1], 29), (90, [4], [], -2147483647), (91, [4], [], 2147483647), (90, [6], [], -2147483648), (91, [6], [], 2147483647)], (4000, [2, 3, 4, 19, 20], [3], 29))]
theorem r_49_29 : vCovO true (eRc e_49 L_49 cs_49 2000 (29, [(0, (3, 2, 274, 0)), (1, (3, 1, -1, 0)), (2, (0, -2147483647, 2147483647, 0)), (3, (1, 0, 0, 0)), (5, (0, -2147483648, 2147483647, 0))])) p_49_29 = true := by decide +kernel
theorem m_49 (d : Nat) : eC e_49 (d + 2) := eC_ok (e := e_49) (L := L_49) (cs := cs_49) (n := 2000) (d := d + 1) (A := A_49) (μ := mu_49) (tp := true) (p0 := p_49_s) rfl ⟨m_199 d, ⟨m_200 d, ⟨m_202 d, trivial⟩⟩⟩ rfl (.inr pre0_ok) (by decide +kernel) (fun _ => post0_ok) r_49_s (allC c_49_s_0 allN) (allC (.inl ⟨p_49_20, r_49_20, fun q0 => (allC c_49_20_0 allN)⟩) (allC (.inl ⟨p_49_29, r_49_29, fun q0 => (allC c_49_29_0 (allC c_49_29_1 (allC c_49_29_2 allN)))⟩) allN))
/- java/lang/Math.min (JJ)J -/
noncomputable def s_320 : vM := ([(1, 0, 0, 0), (1, 0, 0, 0)], (1, 0, 0, 0), 0, 0, [])
noncomputable def e_320 : vE := (320, s_320, pre0, post0)
noncomputable def L_320 : List vE := []
def cs_320 : List vC := []
def A_320 : Int → List Int → gH → gH → Prop := fun c xs h0 h => True
def mu_320 : Int → List Int → gH → gH → Nat := fun c xs h0 h => 0
def p_320_s : List vG := []
theorem r_320_s : vCovO true (eR0 e_320 L_320 cs_320 2000) p_320_s = true := by decide +kernel
theorem m_320 (d : Nat) : eC e_320 (d + 1) := eC_ok (e := e_320) (L := L_320) (cs := cs_320) (n := 2000) (d := d + 0) (A := A_320) (μ := mu_320) (tp := true) (p0 := p_320_s) rfl trivial rfl (.inr pre0_ok) (by decide +kernel) (fun _ => post0_ok) r_320_s allN allN
/- java/lang/Math.max (JJ)J -/
noncomputable def s_318 : vM := ([(1, 0, 0, 0), (1, 0, 0, 0)], (1, 0, 0, 0), 0, 0, [])
noncomputable def e_318 : vE := (318, s_318, pre0, post0)
noncomputable def L_318 : List vE := []
def cs_318 : List vC := []
def A_318 : Int → List Int → gH → gH → Prop := fun c xs h0 h => True
def mu_318 : Int → List Int → gH → gH → Nat := fun c xs h0 h => 0
def p_318_s : List vG := []
theorem r_318_s : vCovO true (eR0 e_318 L_318 cs_318 2000) p_318_s = true := by decide +kernel
theorem m_318 (d : Nat) : eC e_318 (d + 1) := eC_ok (e := e_318) (L := L_318) (cs := cs_318) (n := 2000) (d := d + 0) (A := A_318) (μ := mu_318) (tp := true) (p0 := p_318_s) rfl trivial rfl (.inr pre0_ok) (by decide +kernel) (fun _ => post0_ok) r_318_s allN allN
/- Mixer.blend (LMixStage$Sheet;I)V -/
noncomputable def s_43 : vM := ([(3, 2, 274, 0), (3, 6, -1, 0), (0, -2147483648, 2147483647, 0)], (9, 0, 0, 0), 0, 0, [(100, 0), (101, 0)])
noncomputable def e_43 : vE := (43, s_43, pre0, post0)
noncomputable def L_43 : List vE := [e_44, e_45, e_46, e_48, e_49, e_115, e_200, e_201, e_318, e_320]
def cs_43 : List vC := [(2, [(0, (3, 2, 274, 0)), (1, (3, 6, -1, 0)), (2, (0, -2147483648, 2147483647, 0)), (3, (0, -2147483648, 2147483647, 0))]), (30, [(0, (3, 2, 274, 0)), (1, (3, 6, -1, 0)), (2, (0, -2147483648, 2147483647, 0)), (3, (0, -2147483648, 2147483647, 0))]), (52, [(0, (3, 2, 274, 0)), (1, (3, 6, -1, 0)), (2, (0, -2147483648, 2147483647, 0)), (3, (0, -2147483648, 2147483647, 0))]), (82, [(0, (3, 2, 274, 0)), (1, (3, 6, -1, 0)), (2, (0, -2147483648, 2147483647, 0)), (3, (0, -2147483648, 2147483647, 0)), (4, (0, -2147483648, 2147483647, 0))]), (138, [(0, (3, 2, 274, 0)), (1, (3, 6, -1, 0)), (2, (0, -2147483648, 2147483647, 0)), (3, (0, -2147483648, 2147483647, 0)), (4, (0, -2147483648, 2147483647, 0))])]
def mub_43_2 (a0 a1 a2 x0 x1 x2 x3 : Int) (h0 h : gH) : Nat := (42949672960 + (2147483648 - x3).toNat) * 1
def mub_43_30 (a0 a1 a2 x0 x1 x2 x3 : Int) (h0 h : gH) : Nat := (34359738368 + (2147483648 - x3).toNat) * 1
def mub_43_52 (a0 a1 a2 x0 x1 x2 x3 : Int) (h0 h : gH) : Nat := (25769803776 + (2147483648 - x3).toNat) * 1
def mub_43_82 (a0 a1 a2 x0 x1 x2 x3 x4 : Int) (h0 h : gH) : Nat := (17179869184 + (2147483648 - x4).toNat) * 1
def mub_43_138 (a0 a1 a2 x0 x1 x2 x3 x4 : Int) (h0 h : gH) : Nat := (8589934592 + (2147483648 - x4).toNat) * 1
def A_43 : Int → List Int → gH → gH → Prop := fun c xs h0 h => True
def mu_43 : Int → List Int → gH → gH → Nat := fun c xs h0 h => match c.toNat with
  | 2 => (match xs with
    | [a0, a1, a2, x0, x1, x2, x3] => mub_43_2 a0 a1 a2 x0 x1 x2 x3 h0 h
    | _ => 0)
  | 30 => (match xs with
    | [a0, a1, a2, x0, x1, x2, x3] => mub_43_30 a0 a1 a2 x0 x1 x2 x3 h0 h
    | _ => 0)
  | 52 => (match xs with
    | [a0, a1, a2, x0, x1, x2, x3] => mub_43_52 a0 a1 a2 x0 x1 x2 x3 h0 h
    | _ => 0)
  | 82 => (match xs with
    | [a0, a1, a2, x0, x1, x2, x3, x4] => mub_43_82 a0 a1 a2 x0 x1 x2 x3 x4 h0 h
    | _ => 0)
  | 138 => (match xs with
    | [a0, a1, a2, x0, x1, x2, x3, x4] => mub_43_138 a0 a1 a2 x0 x1 x2 x3 x4 h0 h
    | _ => 0)
  | _ => 0
theorem q_43_0 {n0 n1 n2 n3 : Int} {H0 : gH}  : True ∧ ∀ q, none = some q → mub_43_2 n0 n1 n2 n0 n1 n2 n3 H0 H0 < q := by
  exact ⟨trivial, fun q hq => nomatch hq⟩
theorem c_43_s_0 : vOkm T0 (eP e_43 L_43 A_43 mu_43 none) 3 ([], (4000, [0, 1, 2, 3], [0], 2)) := vOk_in fun ρ η h => by
  obtain ⟨_⟩ := h
  exact q_43_0 (n0 := ρ 0) (n1 := ρ 1) (n2 := ρ 2) (n3 := ρ 3) (H0 := η 0) 
def p_43_s : List vG := [([], (4000, [0, 1, 2, 3], [0], 2))]
theorem r_43_s : vCovO true (eR0 e_43 L_43 cs_43 2000) p_43_s = true := by decide +kernel
theorem q_43_1 {q0 : Nat} {n0 n1 n2 n3 n4 n5 n6 n7 n8 : Int} {H0 H1 H2 : gH} (f0 : n0 ≤ 2147483647) (f1 : (-2147483648) ≤ n0) (f2 : (hLe T0 H0 H1 ∧ hFr s_43.2.2.2.2 H0 H1 ∧ hWt T0 H1) ∧ (True ∧ True) ∧ some q0 = some (mub_43_2 n1 n2 n3 n4 n5 n6 n0 H0 H1)) (f3 : n7 = 3) (f4 : n7 ≤ n0) (f5 : n8 = 0) : True ∧ ∀ q, some q0 = some q → mub_43_30 n1 n2 n3 n4 n5 n6 n8 H0 H2 < q := by
  have g5 := Option.some.inj f2.2.2
  unfold mub_43_2 at g5
  unfold mub_43_30
  refine ⟨?_, fun q hq => ?_⟩
  · trivial
  · have g6 := Option.some.inj hq
    subst g6
    omega
theorem c_43_2_0 {q0 : Nat} : vOkm T0 (eP e_43 L_43 A_43 mu_43 (some q0)) 3 ([(0, [8], [], 0), (43, [6, 7], [], 0), (0, [7], [], 3), (5000, [0, 1, 2, 3, 4, 5, 6], [0, 1], 2), (90, [6], [], -2147483648), (91, [6], [], 2147483647)], (4000, [3, 4, 5, 8], [2], 30)) := vOk_in fun ρ η h => by
  obtain ⟨f0, f1, f2, f3, f4, f5, _⟩ := h
  exact q_43_1 (q0 := q0) (n0 := ρ 6) (n1 := ρ 0) (n2 := ρ 1) (n3 := ρ 2) (n4 := ρ 3) (n5 := ρ 4) (n6 := ρ 5) (n7 := ρ 7) (n8 := ρ 8) (H0 := η 0) (H1 := η 1) (H2 := η 2) f5 f4 f3 f2 f1 f0
theorem q_43_2 {q0 : Nat} {n0 n1 n2 n3 n4 n5 n6 n7 n8 : Int} {H0 H1 H2 : gH} (f0 : n0 ≤ 2147483647) (f1 : (-2147483648) ≤ n0) (f2 : (hLe T0 H0 H1 ∧ hFr s_43.2.2.2.2 H0 H1 ∧ hWt T0 H1) ∧ (True ∧ True) ∧ some q0 = some (mub_43_2 n1 n2 n3 n4 n5 n6 n0 H0 H1)) (f3 : n7 = 3) (f4 : n0 < n7) (f5 : n8 = w32 (n0 + 1)) : True ∧ ∀ q, some q0 = some q → mub_43_2 n1 n2 n3 n4 n5 n6 n8 H0 H2 < q := by
  have g5 := Option.some.inj f2.2.2
  unfold mub_43_2 at g5
  unfold mub_43_2
  unfold w32 at *
  refine ⟨?_, fun q hq => ?_⟩
  · trivial
  · have g6 := Option.some.inj hq
    subst g6
    omega
theorem c_43_2_1 {q0 : Nat} : vOkm T0 (eP e_43 L_43 A_43 mu_43 (some q0)) 3 ([(10, [10, 6], [], 1), (42, [6, 7], [], 0), (0, [7], [], 3), (5000, [0, 1, 2, 3, 4, 5, 6], [0, 1], 2), (90, [6], [], -2147483648), (91, [6], [], 2147483647)], (4000, [3, 4, 5, 10], [2], 2)) := vOk_in fun ρ η h => by
  obtain ⟨f0, f1, f2, f3, f4, f5, _⟩ := h
  exact q_43_2 (q0 := q0) (n0 := ρ 6) (n1 := ρ 0) (n2 := ρ 1) (n3 := ρ 2) (n4 := ρ 3) (n5 := ρ 4) (n6 := ρ 5) (n7 := ρ 7) (n8 := ρ 10) (H0 := η 0) (H1 := η 1) (H2 := η 2) f5 f4 f3 f2 f1 f0
def p_43_2 : List vG := [([(0, [8], [], 0), (43, [6, 7], [], 0), (0, [7], [], 3), (5000, [0, 1, 2, 3, 4, 5, 6], [0, 1], 2), (90, [6], [], -2147483648), (91, [6], [], 2147483647)], (4000, [3, 4, 5, 8], [2], 30)),
  ([(10, [10, 6], [], 1), (42, [6, 7], [], 0), (0, [7], [], 3), (5000, [0, 1, 2, 3, 4, 5, 6], [0, 1], 2), (90, [6], [], -2147483648), (91, [6], [], 2147483647)], (4000, [3, 4, 5, 10], [2], 2))]
theorem r_43_2 : vCovO true (eRc e_43 L_43 cs_43 2000 (2, [(0, (3, 2, 274, 0)), (1, (3, 6, -1, 0)), (2, (0, -2147483648, 2147483647, 0)), (3, (0, -2147483648, 2147483647, 0))])) p_43_2 = true := by decide +kernel
theorem q_43_3 {q0 : Nat} {n0 n1 n2 n3 n4 n5 n6 n7 n8 : Int} {H0 H1 : gH} (f0 : n0 ≤ 2147483647) (f1 : (-2147483648) ≤ n0) (f2 : (hLe T0 H0 H1 ∧ hFr s_43.2.2.2.2 H0 H1 ∧ hWt T0 H1) ∧ (True ∧ True) ∧ some q0 = some (mub_43_30 n1 n2 n3 n4 n5 n6 n0 H0 H1)) (f3 : n7 = 3) (f4 : n7 ≤ n0) (f5 : n8 = 0) : True ∧ ∀ q, some q0 = some q → mub_43_52 n1 n2 n3 n4 n5 n6 n8 H0 H1 < q := by
  have g5 := Option.some.inj f2.2.2
  unfold mub_43_30 at g5
  unfold mub_43_52
  refine ⟨?_, fun q hq => ?_⟩
  · trivial
  · have g6 := Option.some.inj hq
    subst g6
    omega
theorem c_43_30_0 {q0 : Nat} : vOkm T0 (eP e_43 L_43 A_43 mu_43 (some q0)) 3 ([(0, [8], [], 0), (43, [6, 7], [], 0), (0, [7], [], 3), (5000, [0, 1, 2, 3, 4, 5, 6], [0, 1], 30), (90, [6], [], -2147483648), (91, [6], [], 2147483647)], (4000, [3, 4, 5, 8], [1], 52)) := vOk_in fun ρ η h => by
  obtain ⟨f0, f1, f2, f3, f4, f5, _⟩ := h
  exact q_43_3 (q0 := q0) (n0 := ρ 6) (n1 := ρ 0) (n2 := ρ 1) (n3 := ρ 2) (n4 := ρ 3) (n5 := ρ 4) (n6 := ρ 5) (n7 := ρ 7) (n8 := ρ 8) (H0 := η 0) (H1 := η 1) f5 f4 f3 f2 f1 f0
theorem q_43_4 {q0 : Nat} {n0 n1 n2 n3 n4 n5 n6 n7 n8 : Int} {H0 H1 H2 : gH} (f0 : n0 ≤ 2147483647) (f1 : (-2147483648) ≤ n0) (f2 : (hLe T0 H0 H1 ∧ hFr s_43.2.2.2.2 H0 H1 ∧ hWt T0 H1) ∧ (True ∧ True) ∧ some q0 = some (mub_43_30 n1 n2 n3 n4 n5 n6 n0 H0 H1)) (f3 : n7 = 3) (f4 : n0 < n7) (f5 : n8 = w32 (n0 + 1)) : True ∧ ∀ q, some q0 = some q → mub_43_30 n1 n2 n3 n4 n5 n6 n8 H0 H2 < q := by
  have g5 := Option.some.inj f2.2.2
  unfold mub_43_30 at g5
  unfold mub_43_30
  unfold w32 at *
  refine ⟨?_, fun q hq => ?_⟩
  · trivial
  · have g6 := Option.some.inj hq
    subst g6
    omega
theorem c_43_30_1 {q0 : Nat} : vOkm T0 (eP e_43 L_43 A_43 mu_43 (some q0)) 3 ([(10, [10, 6], [], 1), (42, [6, 7], [], 0), (0, [7], [], 3), (5000, [0, 1, 2, 3, 4, 5, 6], [0, 1], 30), (90, [6], [], -2147483648), (91, [6], [], 2147483647)], (4000, [3, 4, 5, 10], [2], 30)) := vOk_in fun ρ η h => by
  obtain ⟨f0, f1, f2, f3, f4, f5, _⟩ := h
  exact q_43_4 (q0 := q0) (n0 := ρ 6) (n1 := ρ 0) (n2 := ρ 1) (n3 := ρ 2) (n4 := ρ 3) (n5 := ρ 4) (n6 := ρ 5) (n7 := ρ 7) (n8 := ρ 10) (H0 := η 0) (H1 := η 1) (H2 := η 2) f5 f4 f3 f2 f1 f0
def p_43_30 : List vG := [([(0, [8], [], 0), (43, [6, 7], [], 0), (0, [7], [], 3), (5000, [0, 1, 2, 3, 4, 5, 6], [0, 1], 30), (90, [6], [], -2147483648), (91, [6], [], 2147483647)], (4000, [3, 4, 5, 8], [1], 52)),
  ([(10, [10, 6], [], 1), (42, [6, 7], [], 0), (0, [7], [], 3), (5000, [0, 1, 2, 3, 4, 5, 6], [0, 1], 30), (90, [6], [], -2147483648), (91, [6], [], 2147483647)], (4000, [3, 4, 5, 10], [2], 30))]
theorem r_43_30 : vCovO true (eRc e_43 L_43 cs_43 2000 (30, [(0, (3, 2, 274, 0)), (1, (3, 6, -1, 0)), (2, (0, -2147483648, 2147483647, 0)), (3, (0, -2147483648, 2147483647, 0))])) p_43_30 = true := by decide +kernel
theorem q_43_5 {q0 : Nat} {n0 n1 n2 n3 n4 n5 n6 n7 n8 n9 : Int} {H0 H1 : gH} (f0 : n0 ≤ 2147483647) (f1 : (-2147483648) ≤ n0) (f2 : (hLe T0 H0 H1 ∧ hFr s_43.2.2.2.2 H0 H1 ∧ hWt T0 H1) ∧ (True ∧ True) ∧ some q0 = some (mub_43_52 n1 n2 n3 n4 n5 n6 n0 H0 H1)) (f3 : n7 ≤ 40) (f4 : 0 ≤ n7) (f5 : n7 ≤ n0) (f6 : n8 = 0) : True ∧ ∀ q, some q0 = some q → mub_43_82 n1 n2 n3 n4 n5 n6 n9 n8 H0 H1 < q := by
  have g5 := Option.some.inj f2.2.2
  unfold mub_43_52 at g5
  unfold mub_43_82
  refine ⟨?_, fun q hq => ?_⟩
  · trivial
  · have g6 := Option.some.inj hq
    subst g6
    omega
theorem c_43_52_0 {q0 : Nat} : vOkm T0 (eP e_43 L_43 A_43 mu_43 (some q0)) 3 ([(0, [9], [], 0), (43, [6, 7], [], 0), (90, [7], [], 0), (91, [7], [], 40), (5000, [0, 1, 2, 3, 4, 5, 6], [0, 1], 52), (90, [6], [], -2147483648), (91, [6], [], 2147483647)], (4000, [3, 4, 5, 8, 9], [1], 82)) := vOk_in fun ρ η h => by
  obtain ⟨f0, f1, f2, f3, f4, f5, f6, _⟩ := h
  exact q_43_5 (q0 := q0) (n0 := ρ 6) (n1 := ρ 0) (n2 := ρ 1) (n3 := ρ 2) (n4 := ρ 3) (n5 := ρ 4) (n6 := ρ 5) (n7 := ρ 7) (n8 := ρ 9) (n9 := ρ 8) (H0 := η 0) (H1 := η 1) f6 f5 f4 f3 f2 f1 f0
theorem q_43_6 {q0 : Nat} {n0 n1 n2 n3 n4 n5 n6 n7 n8 : Int} {H0 H1 H2 : gH} (f0 : n0 ≤ 2147483647) (f1 : (-2147483648) ≤ n0) (f2 : (hLe T0 H0 H1 ∧ hFr s_43.2.2.2.2 H0 H1 ∧ hWt T0 H1) ∧ (True ∧ True) ∧ some q0 = some (mub_43_52 n1 n2 n3 n4 n5 n6 n0 H0 H1)) (f3 : n7 ≤ 40) (f4 : 0 ≤ n7) (f5 : n0 < n7) (f6 : n8 = w32 (n0 + 1)) : True ∧ ∀ q, some q0 = some q → mub_43_52 n1 n2 n3 n4 n5 n6 n8 H0 H2 < q := by
  have g5 := Option.some.inj f2.2.2
  unfold mub_43_52 at g5
  unfold mub_43_52
  unfold w32 at *
  refine ⟨?_, fun q hq => ?_⟩
  · trivial
  · have g6 := Option.some.inj hq
    subst g6
    omega
theorem c_43_52_1 {q0 : Nat} : vOkm T0 (eP e_43 L_43 A_43 mu_43 (some q0)) 3 ([(10, [9, 6], [], 1), (42, [6, 7], [], 0), (90, [7], [], 0), (91, [7], [], 40), (5000, [0, 1, 2, 3, 4, 5, 6], [0, 1], 52), (90, [6], [], -2147483648), (91, [6], [], 2147483647)], (4000, [3, 4, 5, 9], [3], 52)) := vOk_in fun ρ η h => by
  obtain ⟨f0, f1, f2, f3, f4, f5, f6, _⟩ := h
  exact q_43_6 (q0 := q0) (n0 := ρ 6) (n1 := ρ 0) (n2 := ρ 1) (n3 := ρ 2) (n4 := ρ 3) (n5 := ρ 4) (n6 := ρ 5) (n7 := ρ 7) (n8 := ρ 9) (H0 := η 0) (H1 := η 1) (H2 := η 3) f6 f5 f4 f3 f2 f1 f0
def p_43_52 : List vG := [([(0, [9], [], 0), (43, [6, 7], [], 0), (90, [7], [], 0), (91, [7], [], 40), (5000, [0, 1, 2, 3, 4, 5, 6], [0, 1], 52), (90, [6], [], -2147483648), (91, [6], [], 2147483647)], (4000, [3, 4, 5, 8, 9], [1], 82)),
  ([(10, [9, 6], [], 1), (42, [6, 7], [], 0), (90, [7], [], 0), (91, [7], [], 40), (5000, [0, 1, 2, 3, 4, 5, 6], [0, 1], 52), (90, [6], [], -2147483648), (91, [6], [], 2147483647)], (4000, [3, 4, 5, 9], [3], 52))]
theorem r_43_52 : vCovO true (eRc e_43 L_43 cs_43 2000 (52, [(0, (3, 2, 274, 0)), (1, (3, 6, -1, 0)), (2, (0, -2147483648, 2147483647, 0)), (3, (0, -2147483648, 2147483647, 0))])) p_43_52 = true := by decide +kernel
theorem q_43_7 {q0 : Nat} {n0 n1 n2 n3 n4 n5 n6 n7 n8 n9 : Int} {H0 H1 : gH} (f0 : n0 ≤ 2147483647) (f1 : (-2147483648) ≤ n0) (f2 : (hLe T0 H0 H1 ∧ hFr s_43.2.2.2.2 H0 H1 ∧ hWt T0 H1) ∧ (True ∧ True) ∧ some q0 = some (mub_43_82 n1 n2 n3 n4 n5 n6 n7 n0 H0 H1)) (f3 : n8 ≤ 40) (f4 : 0 ≤ n8) (f5 : n8 ≤ n0) (f6 : n9 = 0) : True ∧ ∀ q, some q0 = some q → mub_43_138 n1 n2 n3 n4 n5 n6 n7 n9 H0 H1 < q := by
  have g5 := Option.some.inj f2.2.2
  unfold mub_43_82 at g5
  unfold mub_43_138
  refine ⟨?_, fun q hq => ?_⟩
  · trivial
  · have g6 := Option.some.inj hq
    subst g6
    omega
theorem c_43_82_0 {q0 : Nat} : vOkm T0 (eP e_43 L_43 A_43 mu_43 (some q0)) 3 ([(0, [9], [], 0), (43, [7, 8], [], 0), (90, [8], [], 0), (91, [8], [], 40), (5000, [0, 1, 2, 3, 4, 5, 6, 7], [0, 1], 82), (90, [7], [], -2147483648), (91, [7], [], 2147483647)], (4000, [3, 4, 5, 6, 9], [1], 138)) := vOk_in fun ρ η h => by
  obtain ⟨f0, f1, f2, f3, f4, f5, f6, _⟩ := h
  exact q_43_7 (q0 := q0) (n0 := ρ 7) (n1 := ρ 0) (n2 := ρ 1) (n3 := ρ 2) (n4 := ρ 3) (n5 := ρ 4) (n6 := ρ 5) (n7 := ρ 6) (n8 := ρ 8) (n9 := ρ 9) (H0 := η 0) (H1 := η 1) f6 f5 f4 f3 f2 f1 f0
theorem q_43_8 {q0 : Nat} {n0 n1 n2 n3 n4 n5 n6 n7 n8 n9 : Int} {H0 H1 H2 : gH} (f0 : n0 ≤ 2147483647) (f1 : (-2147483648) ≤ n0) (f2 : (hLe T0 H0 H1 ∧ hFr s_43.2.2.2.2 H0 H1 ∧ hWt T0 H1) ∧ (True ∧ True) ∧ some q0 = some (mub_43_82 n1 n2 n3 n4 n5 n6 n7 n0 H0 H1)) (f3 : n8 ≤ 40) (f4 : 0 ≤ n8) (f5 : n0 < n8) (f6 : n9 = w32 (n0 + 1)) : True ∧ ∀ q, some q0 = some q → mub_43_82 n1 n2 n3 n4 n5 n6 n7 n9 H0 H2 < q := by
  have g5 := Option.some.inj f2.2.2
  unfold mub_43_82 at g5
  unfold mub_43_82
  unfold w32 at *
  refine ⟨?_, fun q hq => ?_⟩
  · trivial
  · have g6 := Option.some.inj hq
    subst g6
    omega
theorem c_43_82_1 {q0 : Nat} : vOkm T0 (eP e_43 L_43 A_43 mu_43 (some q0)) 3 ([(10, [10, 7], [], 1), (42, [7, 8], [], 0), (90, [8], [], 0), (91, [8], [], 40), (5000, [0, 1, 2, 3, 4, 5, 6, 7], [0, 1], 82), (90, [7], [], -2147483648), (91, [7], [], 2147483647)], (4000, [3, 4, 5, 6, 10], [3], 82)) := vOk_in fun ρ η h => by
  obtain ⟨f0, f1, f2, f3, f4, f5, f6, _⟩ := h
  exact q_43_8 (q0 := q0) (n0 := ρ 7) (n1 := ρ 0) (n2 := ρ 1) (n3 := ρ 2) (n4 := ρ 3) (n5 := ρ 4) (n6 := ρ 5) (n7 := ρ 6) (n8 := ρ 8) (n9 := ρ 10) (H0 := η 0) (H1 := η 1) (H2 := η 3) f6 f5 f4 f3 f2 f1 f0
theorem c_43_82_2 {q0 : Nat} : vOkm T0 (eP e_43 L_43 A_43 mu_43 (some q0)) 3 ([(10, [12, 7], [], 1), (42, [7, 8], [], 0), (90, [8], [], 0), (91, [8], [], 40), (5000, [0, 1, 2, 3, 4, 5, 6, 7], [0, 1], 82), (90, [7], [], -2147483648), (91, [7], [], 2147483647)], (4000, [3, 4, 5, 6, 12], [3], 82)) := vOk_in fun ρ η h => by
  obtain ⟨f0, f1, f2, f3, f4, f5, f6, _⟩ := h
  exact q_43_8 (q0 := q0) (n0 := ρ 7) (n1 := ρ 0) (n2 := ρ 1) (n3 := ρ 2) (n4 := ρ 3) (n5 := ρ 4) (n6 := ρ 5) (n7 := ρ 6) (n8 := ρ 8) (n9 := ρ 12) (H0 := η 0) (H1 := η 1) (H2 := η 3) f6 f5 f4 f3 f2 f1 f0
theorem q_43_9 {q0 : Nat} {n0 n1 n2 n3 n4 n5 n6 n7 n8 n9 n10 : Int} {H0 H1 H2 : gH} (f0 : n0 ≤ 2147483647) (f1 : (-2147483648) ≤ n0) (f2 : (hLe T0 H0 H1 ∧ hFr s_43.2.2.2.2 H0 H1 ∧ hWt T0 H1) ∧ (True ∧ True) ∧ some q0 = some (mub_43_82 n1 n2 n3 n4 n5 n6 n7 n0 H0 H1)) (f3 : n8 ≤ 40) (f4 : 0 ≤ n8) (f5 : n0 < n8) (f6 : n9 = w32 (n0 + 1)) : True ∧ ∀ q, some q0 = some q → mub_43_82 n1 n2 n3 n4 n5 n6 n10 n9 H0 H2 < q := by
  have g5 := Option.some.inj f2.2.2
  unfold mub_43_82 at g5
  unfold mub_43_82
  unfold w32 at *
  refine ⟨?_, fun q hq => ?_⟩
  · trivial
  · have g6 := Option.some.inj hq
    subst g6
    omega
theorem c_43_82_3 {q0 : Nat} : vOkm T0 (eP e_43 L_43 A_43 mu_43 (some q0)) 3 ([(10, [13, 7], [], 1), (42, [7, 8], [], 0), (90, [8], [], 0), (91, [8], [], 40), (5000, [0, 1, 2, 3, 4, 5, 6, 7], [0, 1], 82), (90, [7], [], -2147483648), (91, [7], [], 2147483647)], (4000, [3, 4, 5, 12, 13], [3], 82)) := vOk_in fun ρ η h => by
  obtain ⟨f0, f1, f2, f3, f4, f5, f6, _⟩ := h
  exact q_43_9 (q0 := q0) (n0 := ρ 7) (n1 := ρ 0) (n2 := ρ 1) (n3 := ρ 2) (n4 := ρ 3) (n5 := ρ 4) (n6 := ρ 5) (n7 := ρ 6) (n8 := ρ 8) (n9 := ρ 13) (n10 := ρ 12) (H0 := η 0) (H1 := η 1) (H2 := η 3) f6 f5 f4 f3 f2 f1 f0
def p_43_82 : List vG := [([(0, [9], [], 0), (43, [7, 8], [], 0), (90, [8], [], 0), (91, [8], [], 40), (5000, [0, 1, 2, 3, 4, 5, 6, 7], [0, 1], 82), (90, [7], [], -2147483648), (91, [7], [], 2147483647)], (4000, [3, 4, 5, 6, 9], [1], 138)),
  ([(10, [10, 7], [], 1), (42, [7, 8], [], 0), (90, [8], [], 0), (91, [8], [], 40), (5000, [0, 1, 2, 3, 4, 5, 6, 7], [0, 1], 82), (90, [7], [], -2147483648), (91, [7], [], 2147483647)], (4000, [3, 4, 5, 6, 10], [3], 82)),
  ([(10, [12, 7], [], 1), (42, [7, 8], [], 0), (90, [8], [], 0), (91, [8], [], 40), (5000, [0, 1, 2, 3, 4, 5, 6, 7], [0, 1], 82), (90, [7], [], -2147483648), (91, [7], [], 2147483647)], (4000, [3, 4, 5, 6, 12], [3], 82)),
  ([(10, [13, 7], [], 1), (42, [7, 8], [], 0), (90, [8], [], 0), (91, [8], [], 40), (5000, [0, 1, 2, 3, 4, 5, 6, 7], [0, 1], 82), (90, [7], [], -2147483648), (91, [7], [], 2147483647)], (4000, [3, 4, 5, 12, 13], [3], 82))]
theorem r_43_82 : vCovO true (eRc e_43 L_43 cs_43 2000 (82, [(0, (3, 2, 274, 0)), (1, (3, 6, -1, 0)), (2, (0, -2147483648, 2147483647, 0)), (3, (0, -2147483648, 2147483647, 0)), (4, (0, -2147483648, 2147483647, 0))])) p_43_82 = true := by decide +kernel
theorem q_43_10 {q0 : Nat} {n0 n1 n2 n3 n4 n5 n6 n7 n8 n9 : Int} {H0 H1 H2 : gH} (f0 : n0 ≤ 2147483647) (f1 : (-2147483648) ≤ n0) (f2 : (hLe T0 H0 H1 ∧ hFr s_43.2.2.2.2 H0 H1 ∧ hWt T0 H1) ∧ (True ∧ True) ∧ some q0 = some (mub_43_138 n1 n2 n3 n4 n5 n6 n7 n0 H0 H1)) (f3 : n8 ≤ 2147483647) (f4 : (-2147483648) ≤ n8) (f5 : n0 < n8) (f6 : n9 = w32 (n0 + 1)) : True ∧ ∀ q, some q0 = some q → mub_43_138 n1 n2 n3 n4 n5 n6 n7 n9 H0 H2 < q := by
  have g5 := Option.some.inj f2.2.2
  unfold mub_43_138 at g5
  unfold mub_43_138
  unfold w32 at *
  refine ⟨?_, fun q hq => ?_⟩
  · trivial
  · have g6 := Option.some.inj hq
    subst g6
    omega
theorem c_43_138_0 {q0 : Nat} : vOkm T0 (eP e_43 L_43 A_43 mu_43 (some q0)) 3 ([(10, [28, 7], [], 1), (42, [7, 8], [], 0), (90, [8], [], -2147483648), (91, [8], [], 2147483647), (5000, [0, 1, 2, 3, 4, 5, 6, 7], [0, 1], 138), (90, [7], [], -2147483648), (91, [7], [], 2147483647)], (4000, [3, 4, 5, 6, 28], [7], 138)) := vOk_in fun ρ η h => by
  obtain ⟨f0, f1, f2, f3, f4, f5, f6, _⟩ := h
  exact q_43_10 (q0 := q0) (n0 := ρ 7) (n1 := ρ 0) (n2 := ρ 1) (n3 := ρ 2) (n4 := ρ 3) (n5 := ρ 4) (n6 := ρ 5) (n7 := ρ 6) (n8 := ρ 8) (n9 := ρ 28) (H0 := η 0) (H1 := η 1) (H2 := η 7) f6 f5 f4 f3 f2 f1 f0
def p_43_138 : List vG := [([(10, [28, 7], [], 1), (42, [7, 8], [], 0), (90, [8], [], -2147483648), (91, [8], [], 2147483647), (5000, [0, 1, 2, 3, 4, 5, 6, 7], [0, 1], 138), (90, [7], [], -2147483648), (91, [7], [], 2147483647)], (4000, [3, 4, 5, 6, 28], [7], 138))]
theorem r_43_138 : vCovO true (eRc e_43 L_43 cs_43 2000 (138, [(0, (3, 2, 274, 0)), (1, (3, 6, -1, 0)), (2, (0, -2147483648, 2147483647, 0)), (3, (0, -2147483648, 2147483647, 0)), (4, (0, -2147483648, 2147483647, 0))])) p_43_138 = true := by decide +kernel
theorem m_43 (d : Nat) : eC e_43 (d + 5) := eC_ok (e := e_43) (L := L_43) (cs := cs_43) (n := 2000) (d := d + 4) (A := A_43) (μ := mu_43) (tp := true) (p0 := p_43_s) rfl ⟨m_44 (d + 2), ⟨m_45 (d + 2), ⟨m_46 d, ⟨m_48 (d + 2), ⟨m_49 (d + 2), ⟨m_115 (d + 3), ⟨m_200 (d + 3), ⟨m_201 (d + 3), ⟨m_318 (d + 3), ⟨m_320 (d + 3), trivial⟩⟩⟩⟩⟩⟩⟩⟩⟩⟩ rfl (.inr pre0_ok) (by decide +kernel) (fun _ => post0_ok) r_43_s (allC c_43_s_0 allN) (allC (.inl ⟨p_43_2, r_43_2, fun q0 => (allC c_43_2_0 (allC c_43_2_1 allN))⟩) (allC (.inl ⟨p_43_30, r_43_30, fun q0 => (allC c_43_30_0 (allC c_43_30_1 allN))⟩) (allC (.inl ⟨p_43_52, r_43_52, fun q0 => (allC c_43_52_0 (allC c_43_52_1 allN))⟩) (allC (.inl ⟨p_43_82, r_43_82, fun q0 => (allC c_43_82_0 (allC c_43_82_1 (allC c_43_82_2 (allC c_43_82_3 allN))))⟩) (allC (.inl ⟨p_43_138, r_43_138, fun q0 => (allC c_43_138_0 allN)⟩) allN)))))
/- Picture.cameFrom (III)I -/
noncomputable def s_58 : vM := ([(3, 3, 19, 0), (0, -2147483648, 2147483647, 0), (0, -2147483648, 2147483647, 0), (0, -2147483648, 2147483647, 0)], (0, -2147483648, 2147483647, 0), 0, 0, [])
noncomputable def e_58 : vE := (58, s_58, pre0, post0)
noncomputable def L_58 : List vE := [e_199]
def cs_58 : List vC := [(6, [(0, (3, 3, 19, 0)), (1, (0, -2147483648, 2147483647, 0)), (2, (0, -2147483648, 2147483647, 0)), (3, (0, -2147483648, 2147483647, 0)), (4, (0, -2147483648, 2147483647, 0)), (5, (0, -2147483648, 2147483647, 0))])]
def mub_58_6 (a0 a1 a2 a3 x0 x1 x2 x3 x4 x5 : Int) (h0 h : gH) : Nat := (x5 + 2147483648).toNat
def A_58 : Int → List Int → gH → gH → Prop := fun c xs h0 h => True
def mu_58 : Int → List Int → gH → gH → Nat := fun c xs h0 h => match c.toNat with
  | 6 => (match xs with
    | [a0, a1, a2, a3, x0, x1, x2, x3, x4, x5] => mub_58_6 a0 a1 a2 a3 x0 x1 x2 x3 x4 x5 h0 h
    | _ => 0)
  | _ => 0
theorem q_58_0 {n0 n1 n2 n3 : Int} {H0 : gH}  : True ∧ ∀ q, none = some q → mub_58_6 n0 n1 n2 n3 n0 n1 n2 n3 n2 n1 H0 H0 < q := by
  exact ⟨trivial, fun q hq => nomatch hq⟩
theorem c_58_s_0 : vOkm T0 (eP e_58 L_58 A_58 mu_58 none) 4 ([], (4000, [0, 1, 2, 3, 2, 1], [0], 6)) := vOk_in fun ρ η h => by
  obtain ⟨_⟩ := h
  exact q_58_0 (n0 := ρ 0) (n1 := ρ 1) (n2 := ρ 2) (n3 := ρ 3) (H0 := η 0) 
def p_58_s : List vG := [([], (4000, [0, 1, 2, 3, 2, 1], [0], 6))]
theorem r_58_s : vCovO true (eR0 e_58 L_58 cs_58 2000) p_58_s = true := by decide +kernel
theorem q_58_1 {q0 : Nat} {n0 n1 n2 n3 n4 n5 n6 n7 n8 n9 n10 n11 : Int} {H0 H1 H2 : gH} (f0 : n0 ≤ 2147483647) (f1 : (-2147483648) ≤ n0) (f2 : n1 ≤ 2147483647) (f3 : (-2147483648) ≤ n1) (f4 : (hLe T0 H0 H1 ∧ hFr s_58.2.2.2.2 H0 H1 ∧ hWt T0 H1) ∧ (True ∧ True) ∧ some q0 = some (mub_58_6 n2 n3 n4 n5 n6 n7 n8 n1 n9 n0 H0 H1)) (f5 : n1 < n0) (f6 : n10 = w32 (n0 + (-1))) : True ∧ ∀ q, some q0 = some q → mub_58_6 n2 n3 n4 n5 n6 n7 n8 n1 n11 n10 H0 H2 < q := by
  have g5 := Option.some.inj f4.2.2
  unfold mub_58_6 at g5
  unfold mub_58_6
  unfold w32 at *
  refine ⟨?_, fun q hq => ?_⟩
  · trivial
  · have g6 := Option.some.inj hq
    subst g6
    omega
theorem c_58_6_0 {q0 : Nat} : vOkm T0 (eP e_58 L_58 A_58 mu_58 (some q0)) 4 ([(10, [16, 9], [], -1), (44, [9, 7], [], 0), (5000, [0, 1, 2, 3, 4, 5, 6, 7, 8, 9], [0, 1], 6), (90, [7], [], -2147483648), (91, [7], [], 2147483647), (90, [9], [], -2147483648), (91, [9], [], 2147483647)], (4000, [4, 5, 6, 7, 15, 16], [2], 6)) := vOk_in fun ρ η h => by
  obtain ⟨f0, f1, f2, f3, f4, f5, f6, _⟩ := h
  exact q_58_1 (q0 := q0) (n0 := ρ 9) (n1 := ρ 7) (n2 := ρ 0) (n3 := ρ 1) (n4 := ρ 2) (n5 := ρ 3) (n6 := ρ 4) (n7 := ρ 5) (n8 := ρ 6) (n9 := ρ 8) (n10 := ρ 16) (n11 := ρ 15) (H0 := η 0) (H1 := η 1) (H2 := η 2) f6 f5 f4 f3 f2 f1 f0
def p_58_6 : List vG := [([(10, [16, 9], [], -1), (44, [9, 7], [], 0), (5000, [0, 1, 2, 3, 4, 5, 6, 7, 8, 9], [0, 1], 6), (90, [7], [], -2147483648), (91, [7], [], 2147483647), (90, [9], [], -2147483648), (91, [9], [], 2147483647)], (4000, [4, 5, 6, 7, 15, 16], [2], 6))]
theorem r_58_6 : vCovO true (eRc e_58 L_58 cs_58 2000 (6, [(0, (3, 3, 19, 0)), (1, (0, -2147483648, 2147483647, 0)), (2, (0, -2147483648, 2147483647, 0)), (3, (0, -2147483648, 2147483647, 0)), (4, (0, -2147483648, 2147483647, 0)), (5, (0, -2147483648, 2147483647, 0))])) p_58_6 = true := by decide +kernel
theorem m_58 (d : Nat) : eC e_58 (d + 2) := eC_ok (e := e_58) (L := L_58) (cs := cs_58) (n := 2000) (d := d + 1) (A := A_58) (μ := mu_58) (tp := true) (p0 := p_58_s) rfl ⟨m_199 d, trivial⟩ rfl (.inr pre0_ok) (by decide +kernel) (fun _ => post0_ok) r_58_s (allC c_58_s_0 allN) (allC (.inl ⟨p_58_6, r_58_6, fun q0 => (allC c_58_6_0 allN)⟩) allN)
/- Mixer.mixInto ([ILMixStage$Sheet;I)I -/
noncomputable def s_28 : vM := ([(3, 2, 274, 0), (2, 100, -1, 0), (3, 6, -1, 0), (0, -2147483648, 2147483647, 0)], (0, -2147483648, 2147483647, 0), 0, 0, [(2, 8), (10, 0), (10, 1), (10, 2), (100, 0), (101, 0)])
noncomputable def e_28 : vE := (28, s_28, pre0, post0)
noncomputable def L_28 : List vE := [e_35, e_43, e_53, e_58, e_199, e_201]
def cs_28 : List vC := [(26, [(0, (3, 2, 274, 0)), (1, (2, 100, -1, 0)), (2, (3, 6, -1, 0)), (3, (0, -2147483648, 2147483647, 0)), (4, (0, -2147483648, 2147483647, 0)), (5, (0, -2147483648, 2147483647, 0))])]
def mub_28_26 (a0 a1 a2 a3 x0 x1 x2 x3 x4 x5 : Int) (h0 h : gH) : Nat := (2147483648 - x5).toNat
def A_28 : Int → List Int → gH → gH → Prop := fun c xs h0 h => True
def mu_28 : Int → List Int → gH → gH → Nat := fun c xs h0 h => match c.toNat with
  | 26 => (match xs with
    | [a0, a1, a2, a3, x0, x1, x2, x3, x4, x5] => mub_28_26 a0 a1 a2 a3 x0 x1 x2 x3 x4 x5 h0 h
    | _ => 0)
  | _ => 0
theorem q_28_0 {n0 n1 n2 n3 n4 n5 : Int} {H0 H1 : gH}  : True ∧ ∀ q, none = some q → mub_28_26 n0 n1 n2 n3 n0 n1 n2 n3 n4 n5 H0 H1 < q := by
  exact ⟨trivial, fun q hq => nomatch hq⟩
theorem c_28_s_0 : vOkm T0 (eP e_28 L_28 A_28 mu_28 none) 4 ([], (4000, [0, 1, 2, 3, 8, 9], [3], 26)) := vOk_in fun ρ η h => by
  obtain ⟨_⟩ := h
  exact q_28_0 (n0 := ρ 0) (n1 := ρ 1) (n2 := ρ 2) (n3 := ρ 3) (n4 := ρ 8) (n5 := ρ 9) (H0 := η 0) (H1 := η 3) 
def p_28_s : List vG := [([], (4000, [0, 1, 2, 3, 8, 9], [3], 26))]
theorem r_28_s : vCovO true (eR0 e_28 L_28 cs_28 2000) p_28_s = true := by decide +kernel
theorem q_28_1 {q0 : Nat} {n0 n1 n2 n3 n4 n5 n6 n7 n8 n9 n10 : Int} {H0 H1 H2 : gH} (f0 : n0 ≤ 2147483647) (f1 : (-2147483648) ≤ n0) (f2 : n1 ≤ 2147483647) (f3 : (-2147483648) ≤ n1) (f4 : (hLe T0 H0 H1 ∧ hFr s_28.2.2.2.2 H0 H1 ∧ hWt T0 H1) ∧ (True ∧ True) ∧ some q0 = some (mub_28_26 n2 n3 n4 n5 n6 n7 n8 n9 n1 n0 H0 H1)) (f5 : n0 < n1) (f6 : n10 = w32 (n0 + 1)) : True ∧ ∀ q, some q0 = some q → mub_28_26 n2 n3 n4 n5 n6 n7 n8 n9 n1 n10 H0 H2 < q := by
  have g5 := Option.some.inj f4.2.2
  unfold mub_28_26 at g5
  unfold mub_28_26
  unfold w32 at *
  refine ⟨?_, fun q hq => ?_⟩
  · trivial
  · have g6 := Option.some.inj hq
    subst g6
    omega
theorem c_28_26_0 {q0 : Nat} : vOkm T0 (eP e_28 L_28 A_28 mu_28 (some q0)) 4 ([(10, [23, 9], [], 1), (42, [9, 8], [], 0), (5000, [0, 1, 2, 3, 4, 5, 6, 7, 8, 9], [0, 1], 26), (90, [8], [], -2147483648), (91, [8], [], 2147483647), (90, [9], [], -2147483648), (91, [9], [], 2147483647)], (4000, [4, 5, 6, 7, 8, 23], [4], 26)) := vOk_in fun ρ η h => by
  obtain ⟨f0, f1, f2, f3, f4, f5, f6, _⟩ := h
  exact q_28_1 (q0 := q0) (n0 := ρ 9) (n1 := ρ 8) (n2 := ρ 0) (n3 := ρ 1) (n4 := ρ 2) (n5 := ρ 3) (n6 := ρ 4) (n7 := ρ 5) (n8 := ρ 6) (n9 := ρ 7) (n10 := ρ 23) (H0 := η 0) (H1 := η 1) (H2 := η 4) f6 f5 f4 f3 f2 f1 f0
theorem c_28_26_1 {q0 : Nat} : vOkm T0 (eP e_28 L_28 A_28 mu_28 (some q0)) 4 ([(10, [17, 9], [], 1), (42, [9, 8], [], 0), (5000, [0, 1, 2, 3, 4, 5, 6, 7, 8, 9], [0, 1], 26), (90, [8], [], -2147483648), (91, [8], [], 2147483647), (90, [9], [], -2147483648), (91, [9], [], 2147483647)], (4000, [4, 5, 6, 7, 8, 17], [3], 26)) := vOk_in fun ρ η h => by
  obtain ⟨f0, f1, f2, f3, f4, f5, f6, _⟩ := h
  exact q_28_1 (q0 := q0) (n0 := ρ 9) (n1 := ρ 8) (n2 := ρ 0) (n3 := ρ 1) (n4 := ρ 2) (n5 := ρ 3) (n6 := ρ 4) (n7 := ρ 5) (n8 := ρ 6) (n9 := ρ 7) (n10 := ρ 17) (H0 := η 0) (H1 := η 1) (H2 := η 3) f6 f5 f4 f3 f2 f1 f0
def p_28_26 : List vG := [([(10, [23, 9], [], 1), (42, [9, 8], [], 0), (5000, [0, 1, 2, 3, 4, 5, 6, 7, 8, 9], [0, 1], 26), (90, [8], [], -2147483648), (91, [8], [], 2147483647), (90, [9], [], -2147483648), (91, [9], [], 2147483647)], (4000, [4, 5, 6, 7, 8, 23], [4], 26)),
  ([(10, [17, 9], [], 1), (42, [9, 8], [], 0), (5000, [0, 1, 2, 3, 4, 5, 6, 7, 8, 9], [0, 1], 26), (90, [8], [], -2147483648), (91, [8], [], 2147483647), (90, [9], [], -2147483648), (91, [9], [], 2147483647)], (4000, [4, 5, 6, 7, 8, 17], [3], 26))]
theorem r_28_26 : vCovO true (eRc e_28 L_28 cs_28 2000 (26, [(0, (3, 2, 274, 0)), (1, (2, 100, -1, 0)), (2, (3, 6, -1, 0)), (3, (0, -2147483648, 2147483647, 0)), (4, (0, -2147483648, 2147483647, 0)), (5, (0, -2147483648, 2147483647, 0))])) p_28_26 = true := by decide +kernel
theorem m_28 (d : Nat) : eC e_28 (d + 6) := eC_ok (e := e_28) (L := L_28) (cs := cs_28) (n := 2000) (d := d + 5) (A := A_28) (μ := mu_28) (tp := true) (p0 := p_28_s) rfl ⟨m_35 d, ⟨m_43 d, ⟨m_53 (d + 3), ⟨m_58 (d + 3), ⟨m_199 (d + 4), ⟨m_201 (d + 4), trivial⟩⟩⟩⟩⟩⟩ rfl (.inr pre0_ok) (by decide +kernel) (fun _ => post0_ok) r_28_s (allC c_28_s_0 allN) (allC (.inl ⟨p_28_26, r_28_26, fun q0 => (allC c_28_26_0 (allC c_28_26_1 allN))⟩) allN)
/- Mixer.countLays (LMixStage$Sheet;)I -/
noncomputable def s_32 : vM := ([(3, 6, -1, 0)], (0, -2147483648, 2147483647, 0), 0, 0, [])
noncomputable def e_32 : vE := (32, s_32, pre0, post0)
noncomputable def L_32 : List vE := [e_115]
def cs_32 : List vC := [(4, [(0, (3, 6, -1, 0)), (1, (0, -2147483648, 2147483647, 0)), (2, (0, -2147483648, 2147483647, 0))])]
def mub_32_4 (a0 x0 x1 x2 : Int) (h0 h : gH) : Nat := (2147483648 - x2).toNat
def A_32 : Int → List Int → gH → gH → Prop := fun c xs h0 h => True
def mu_32 : Int → List Int → gH → gH → Nat := fun c xs h0 h => match c.toNat with
  | 4 => (match xs with
    | [a0, x0, x1, x2] => mub_32_4 a0 x0 x1 x2 h0 h
    | _ => 0)
  | _ => 0
theorem q_32_0 {n0 n1 n2 : Int} {H0 : gH}  : True ∧ ∀ q, none = some q → mub_32_4 n0 n0 n1 n2 H0 H0 < q := by
  exact ⟨trivial, fun q hq => nomatch hq⟩
theorem c_32_s_0 : vOkm T0 (eP e_32 L_32 A_32 mu_32 none) 1 ([], (4000, [0, 1, 2], [0], 4)) := vOk_in fun ρ η h => by
  obtain ⟨_⟩ := h
  exact q_32_0 (n0 := ρ 0) (n1 := ρ 1) (n2 := ρ 2) (H0 := η 0) 
def p_32_s : List vG := [([], (4000, [0, 1, 2], [0], 4))]
theorem r_32_s : vCovO true (eR0 e_32 L_32 cs_32 2000) p_32_s = true := by decide +kernel
theorem q_32_1 {q0 : Nat} {n0 n1 n2 n3 n4 n5 n6 : Int} {H0 H1 H2 : gH} (f0 : n0 ≤ 2147483647) (f1 : (-2147483648) ≤ n0) (f2 : (hLe T0 H0 H1 ∧ hFr s_32.2.2.2.2 H0 H1 ∧ hWt T0 H1) ∧ (True ∧ True) ∧ some q0 = some (mub_32_4 n1 n2 n3 n0 H0 H1)) (f3 : n4 ≤ 40) (f4 : 0 ≤ n4) (f5 : n0 < n4) (f6 : n5 = w32 (n0 + 1)) : True ∧ ∀ q, some q0 = some q → mub_32_4 n1 n2 n6 n5 H0 H2 < q := by
  have g5 := Option.some.inj f2.2.2
  unfold mub_32_4 at g5
  unfold mub_32_4
  unfold w32 at *
  refine ⟨?_, fun q hq => ?_⟩
  · trivial
  · have g6 := Option.some.inj hq
    subst g6
    omega
theorem c_32_4_0 {q0 : Nat} : vOkm T0 (eP e_32 L_32 A_32 mu_32 (some q0)) 1 ([(10, [8, 3], [], 1), (42, [3, 4], [], 0), (90, [4], [], 0), (91, [4], [], 40), (5000, [0, 1, 2, 3], [0, 1], 4), (90, [3], [], -2147483648), (91, [3], [], 2147483647)], (4000, [1, 7, 8], [2], 4)) := vOk_in fun ρ η h => by
  obtain ⟨f0, f1, f2, f3, f4, f5, f6, _⟩ := h
  exact q_32_1 (q0 := q0) (n0 := ρ 3) (n1 := ρ 0) (n2 := ρ 1) (n3 := ρ 2) (n4 := ρ 4) (n5 := ρ 8) (n6 := ρ 7) (H0 := η 0) (H1 := η 1) (H2 := η 2) f6 f5 f4 f3 f2 f1 f0
theorem c_32_4_1 {q0 : Nat} : vOkm T0 (eP e_32 L_32 A_32 mu_32 (some q0)) 1 ([(10, [9, 3], [], 1), (42, [3, 4], [], 0), (90, [4], [], 0), (91, [4], [], 40), (5000, [0, 1, 2, 3], [0, 1], 4), (90, [3], [], -2147483648), (91, [3], [], 2147483647)], (4000, [1, 8, 9], [2], 4)) := vOk_in fun ρ η h => by
  obtain ⟨f0, f1, f2, f3, f4, f5, f6, _⟩ := h
  exact q_32_1 (q0 := q0) (n0 := ρ 3) (n1 := ρ 0) (n2 := ρ 1) (n3 := ρ 2) (n4 := ρ 4) (n5 := ρ 9) (n6 := ρ 8) (H0 := η 0) (H1 := η 1) (H2 := η 2) f6 f5 f4 f3 f2 f1 f0
theorem c_32_4_2 {q0 : Nat} : vOkm T0 (eP e_32 L_32 A_32 mu_32 (some q0)) 1 ([(10, [9, 3], [], 1), (42, [3, 4], [], 0), (90, [4], [], 0), (91, [4], [], 40), (5000, [0, 1, 2, 3], [0, 1], 4), (90, [3], [], -2147483648), (91, [3], [], 2147483647)], (4000, [1, 8, 9], [2], 4)) := vOk_in fun ρ η h => by
  obtain ⟨f0, f1, f2, f3, f4, f5, f6, _⟩ := h
  exact q_32_1 (q0 := q0) (n0 := ρ 3) (n1 := ρ 0) (n2 := ρ 1) (n3 := ρ 2) (n4 := ρ 4) (n5 := ρ 9) (n6 := ρ 8) (H0 := η 0) (H1 := η 1) (H2 := η 2) f6 f5 f4 f3 f2 f1 f0
def p_32_4 : List vG := [([(10, [8, 3], [], 1), (42, [3, 4], [], 0), (90, [4], [], 0), (91, [4], [], 40), (5000, [0, 1, 2, 3], [0, 1], 4), (90, [3], [], -2147483648), (91, [3], [], 2147483647)], (4000, [1, 7, 8], [2], 4)),
  ([(10, [9, 3], [], 1), (42, [3, 4], [], 0), (90, [4], [], 0), (91, [4], [], 40), (5000, [0, 1, 2, 3], [0, 1], 4), (90, [3], [], -2147483648), (91, [3], [], 2147483647)], (4000, [1, 8, 9], [2], 4)),
  ([(10, [9, 3], [], 1), (42, [3, 4], [], 0), (90, [4], [], 0), (91, [4], [], 40), (5000, [0, 1, 2, 3], [0, 1], 4), (90, [3], [], -2147483648), (91, [3], [], 2147483647)], (4000, [1, 8, 9], [2], 4))]
theorem r_32_4 : vCovO true (eRc e_32 L_32 cs_32 2000 (4, [(0, (3, 6, -1, 0)), (1, (0, -2147483648, 2147483647, 0)), (2, (0, -2147483648, 2147483647, 0))])) p_32_4 = true := by decide +kernel
theorem m_32 (d : Nat) : eC e_32 (d + 2) := eC_ok (e := e_32) (L := L_32) (cs := cs_32) (n := 2000) (d := d + 1) (A := A_32) (μ := mu_32) (tp := true) (p0 := p_32_s) rfl ⟨m_115 d, trivial⟩ rfl (.inr pre0_ok) (by decide +kernel) (fun _ => post0_ok) r_32_s (allC c_32_s_0 allN) (allC (.inl ⟨p_32_4, r_32_4, fun q0 => (allC c_32_4_0 (allC c_32_4_1 (allC c_32_4_2 allN)))⟩) allN)
/- Mixer.mirrored (II)I -/
noncomputable def s_30 : vM := ([(0, -2147483648, 2147483647, 0), (0, -2147483648, 2147483647, 0)], (0, -2147483648, 2147483647, 0), 0, 0, [])
noncomputable def e_30 : vE := (30, s_30, pre0, post0)
noncomputable def L_30 : List vE := []
def cs_30 : List vC := [(4, [(0, (0, -2147483648, 2147483647, 0)), (1, (0, -2147483648, 2147483647, 0)), (2, (0, -2147483648, 2147483647, 0)), (3, (0, -2147483648, 2147483647, 0))])]
def mub_30_4 (a0 a1 x0 x1 x2 x3 : Int) (h0 h : gH) : Nat := (2147483648 - x3).toNat
def A_30 : Int → List Int → gH → gH → Prop := fun c xs h0 h => True
def mu_30 : Int → List Int → gH → gH → Nat := fun c xs h0 h => match c.toNat with
  | 4 => (match xs with
    | [a0, a1, x0, x1, x2, x3] => mub_30_4 a0 a1 x0 x1 x2 x3 h0 h
    | _ => 0)
  | _ => 0
theorem q_30_0 {n0 n1 n2 n3 : Int} {H0 : gH}  : True ∧ ∀ q, none = some q → mub_30_4 n0 n1 n0 n1 n2 n3 H0 H0 < q := by
  exact ⟨trivial, fun q hq => nomatch hq⟩
theorem c_30_s_0 : vOkm T0 (eP e_30 L_30 A_30 mu_30 none) 2 ([], (4000, [0, 1, 2, 3], [0], 4)) := vOk_in fun ρ η h => by
  obtain ⟨_⟩ := h
  exact q_30_0 (n0 := ρ 0) (n1 := ρ 1) (n2 := ρ 2) (n3 := ρ 3) (H0 := η 0) 
def p_30_s : List vG := [([], (4000, [0, 1, 2, 3], [0], 4))]
theorem r_30_s : vCovO true (eR0 e_30 L_30 cs_30 2000) p_30_s = true := by decide +kernel
theorem q_30_1 {q0 : Nat} {n0 n1 n2 n3 n4 n5 n6 n7 : Int} {H0 H1 : gH} (f0 : n0 ≤ 2147483647) (f1 : (-2147483648) ≤ n0) (f2 : n1 ≤ 2147483647) (f3 : (-2147483648) ≤ n1) (f4 : (hLe T0 H0 H1 ∧ hFr s_30.2.2.2.2 H0 H1 ∧ hWt T0 H1) ∧ (True ∧ True) ∧ some q0 = some (mub_30_4 n2 n3 n4 n1 n5 n0 H0 H1)) (f5 : n0 < n1) (f6 : n6 = w32 (n0 + 1)) : True ∧ ∀ q, some q0 = some q → mub_30_4 n2 n3 n4 n1 n7 n6 H0 H1 < q := by
  have g5 := Option.some.inj f4.2.2
  unfold mub_30_4 at g5
  unfold mub_30_4
  unfold w32 at *
  refine ⟨?_, fun q hq => ?_⟩
  · trivial
  · have g6 := Option.some.inj hq
    subst g6
    omega
theorem c_30_4_0 {q0 : Nat} : vOkm T0 (eP e_30 L_30 A_30 mu_30 (some q0)) 2 ([(10, [12, 5], [], 1), (42, [5, 3], [], 0), (5000, [0, 1, 2, 3, 4, 5], [0, 1], 4), (90, [3], [], -2147483648), (91, [3], [], 2147483647), (90, [5], [], -2147483648), (91, [5], [], 2147483647)], (4000, [2, 3, 11, 12], [1], 4)) := vOk_in fun ρ η h => by
  obtain ⟨f0, f1, f2, f3, f4, f5, f6, _⟩ := h
  exact q_30_1 (q0 := q0) (n0 := ρ 5) (n1 := ρ 3) (n2 := ρ 0) (n3 := ρ 1) (n4 := ρ 2) (n5 := ρ 4) (n6 := ρ 12) (n7 := ρ 11) (H0 := η 0) (H1 := η 1) f6 f5 f4 f3 f2 f1 f0
def p_30_4 : List vG := [([(10, [12, 5], [], 1), (42, [5, 3], [], 0), (5000, [0, 1, 2, 3, 4, 5], [0, 1], 4), (90, [3], [], -2147483648), (91, [3], [], 2147483647), (90, [5], [], -2147483648), (91, [5], [], 2147483647)], (4000, [2, 3, 11, 12], [1], 4))]
theorem r_30_4 : vCovO true (eRc e_30 L_30 cs_30 2000 (4, [(0, (0, -2147483648, 2147483647, 0)), (1, (0, -2147483648, 2147483647, 0)), (2, (0, -2147483648, 2147483647, 0)), (3, (0, -2147483648, 2147483647, 0))])) p_30_4 = true := by decide +kernel
theorem m_30 (d : Nat) : eC e_30 (d + 1) := eC_ok (e := e_30) (L := L_30) (cs := cs_30) (n := 2000) (d := d + 0) (A := A_30) (μ := mu_30) (tp := true) (p0 := p_30_s) rfl trivial rfl (.inr pre0_ok) (by decide +kernel) (fun _ => post0_ok) r_30_s (allC c_30_s_0 allN) (allC (.inl ⟨p_30_4, r_30_4, fun q0 => (allC c_30_4_0 allN)⟩) allN)
/- java/lang/Integer.bitCount (I)I -/
noncomputable def s_315 : vM := ([(0, -2147483648, 2147483647, 0)], (0, -2147483648, 2147483647, 0), 0, 0, [])
noncomputable def e_315 : vE := (315, s_315, pre0, post0)
noncomputable def L_315 : List vE := []
def cs_315 : List vC := []
def A_315 : Int → List Int → gH → gH → Prop := fun c xs h0 h => True
def mu_315 : Int → List Int → gH → gH → Nat := fun c xs h0 h => 0
def p_315_s : List vG := []
theorem r_315_s : vCovO true (eR0 e_315 L_315 cs_315 2000) p_315_s = true := by decide +kernel
theorem m_315 (d : Nat) : eC e_315 (d + 1) := eC_ok (e := e_315) (L := L_315) (cs := cs_315) (n := 2000) (d := d + 0) (A := A_315) (μ := mu_315) (tp := true) (p0 := p_315_s) rfl trivial rfl (.inr pre0_ok) (by decide +kernel) (fun _ => post0_ok) r_315_s allN allN
/- java/lang/Math.abs (I)I -/
noncomputable def s_316 : vM := ([(0, -2147483648, 2147483647, 0)], (0, -2147483648, 2147483647, 0), 0, 0, [])
noncomputable def e_316 : vE := (316, s_316, pre0, post0)
noncomputable def L_316 : List vE := []
def cs_316 : List vC := []
def A_316 : Int → List Int → gH → gH → Prop := fun c xs h0 h => True
def mu_316 : Int → List Int → gH → gH → Nat := fun c xs h0 h => 0
def p_316_s : List vG := []
theorem r_316_s : vCovO true (eR0 e_316 L_316 cs_316 2000) p_316_s = true := by decide +kernel
theorem m_316 (d : Nat) : eC e_316 (d + 1) := eC_ok (e := e_316) (L := L_316) (cs := cs_316) (n := 2000) (d := d + 0) (A := A_316) (μ := mu_316) (tp := true) (p0 := p_316_s) rfl trivial rfl (.inr pre0_ok) (by decide +kernel) (fun _ => post0_ok) r_316_s allN allN
/- Mixer.loudest (I)I -/
noncomputable def s_34 : vM := ([(3, 2, 274, 0), (0, -2147483648, 2147483647, 0)], (0, -2147483648, 2147483647, 0), 0, 0, [])
noncomputable def e_34 : vE := (34, s_34, pre0, post0)
noncomputable def L_34 : List vE := [e_199, e_316, e_317]
def cs_34 : List vC := [(12, [(0, (3, 2, 274, 0)), (1, (0, -2147483648, 2147483647, 0)), (2, (0, -2147483648, 2147483647, 0)), (3, (0, -2147483648, 2147483647, 0)), (4, (0, -2147483648, 2147483647, 0)), (5, (0, -2147483648, 2147483647, 0))])]
def mub_34_12 (a0 a1 x0 x1 x2 x3 x4 x5 : Int) (h0 h : gH) : Nat := (2147483648 - x5).toNat
def A_34 : Int → List Int → gH → gH → Prop := fun c xs h0 h => True
def mu_34 : Int → List Int → gH → gH → Nat := fun c xs h0 h => match c.toNat with
  | 12 => (match xs with
    | [a0, a1, x0, x1, x2, x3, x4, x5] => mub_34_12 a0 a1 x0 x1 x2 x3 x4 x5 h0 h
    | _ => 0)
  | _ => 0
theorem q_34_0 {n0 n1 n2 n3 n4 n5 : Int} {H0 : gH}  : True ∧ ∀ q, none = some q → mub_34_12 n0 n1 n0 n1 n2 n3 n4 n5 H0 H0 < q := by
  exact ⟨trivial, fun q hq => nomatch hq⟩
theorem c_34_s_0 : vOkm T0 (eP e_34 L_34 A_34 mu_34 none) 2 ([], (4000, [0, 1, 3, 4, 5, 6], [0], 12)) := vOk_in fun ρ η h => by
  obtain ⟨_⟩ := h
  exact q_34_0 (n0 := ρ 0) (n1 := ρ 1) (n2 := ρ 3) (n3 := ρ 4) (n4 := ρ 5) (n5 := ρ 6) (H0 := η 0) 
def p_34_s : List vG := [([], (4000, [0, 1, 3, 4, 5, 6], [0], 12))]
theorem r_34_s : vCovO true (eR0 e_34 L_34 cs_34 2000) p_34_s = true := by decide +kernel
theorem q_34_1 {q0 : Nat} {n0 n1 n2 n3 n4 n5 n6 n7 n8 n9 n10 n11 n12 : Int} {H0 H1 H2 : gH} (f0 : n0 ≤ 2147483647) (f1 : (-2147483648) ≤ n0) (f2 : n1 ≤ 2147483647) (f3 : (-2147483648) ≤ n1) (f4 : (hLe T0 H0 H1 ∧ hFr s_34.2.2.2.2 H0 H1 ∧ hWt T0 H1) ∧ (True ∧ True) ∧ some q0 = some (mub_34_12 n2 n3 n4 n5 n1 n6 n7 n0 H0 H1)) (f5 : n8 ≤ 2147483647) (f6 : (-2147483648) ≤ n8) (f7 : n0 < n8) (f8 : n0 < n1) (f9 : n9 = 1) (f10 : n10 = w32 (n0 + n9)) (f11 : n10 < n1) (f12 : n11 = w32 (n0 + 1)) : True ∧ ∀ q, some q0 = some q → mub_34_12 n2 n3 n4 n5 n1 n12 n7 n11 H0 H2 < q := by
  have g5 := Option.some.inj f4.2.2
  unfold mub_34_12 at g5
  unfold mub_34_12
  unfold w32 at *
  refine ⟨?_, fun q hq => ?_⟩
  · trivial
  · have g6 := Option.some.inj hq
    subst g6
    omega
theorem c_34_12_0 {q0 : Nat} : vOkm T0 (eP e_34 L_34 A_34 mu_34 (some q0)) 2 ([(10, [15, 7], [], 1), (42, [14, 4], [], 0), (1, [14, 7, 13], [], 0), (0, [13], [], 1), (42, [7, 4], [], 0), (42, [7, 8], [], 0), (90, [8], [], -2147483648), (91, [8], [], 2147483647), (5000, [0, 1, 2, 3, 4, 5, 6, 7], [0, 1], 12), (90, [4], [], -2147483648), (91, [4], [], 2147483647), (90, [7], [], -2147483648), (91, [7], [], 2147483647)], (4000, [2, 3, 4, 12, 6, 15], [3], 12)) := vOk_in fun ρ η h => by
  obtain ⟨f0, f1, f2, f3, f4, f5, f6, f7, f8, f9, f10, f11, f12, _⟩ := h
  exact q_34_1 (q0 := q0) (n0 := ρ 7) (n1 := ρ 4) (n2 := ρ 0) (n3 := ρ 1) (n4 := ρ 2) (n5 := ρ 3) (n6 := ρ 5) (n7 := ρ 6) (n8 := ρ 8) (n9 := ρ 13) (n10 := ρ 14) (n11 := ρ 15) (n12 := ρ 12) (H0 := η 0) (H1 := η 1) (H2 := η 3) f12 f11 f10 f9 f8 f7 f6 f5 f4 f3 f2 f1 f0
theorem q_34_2 {q0 : Nat} {n0 n1 n2 n3 n4 n5 n6 n7 n8 n9 n10 n11 n12 : Int} {H0 H1 H2 : gH} (f0 : n0 ≤ 2147483647) (f1 : (-2147483648) ≤ n0) (f2 : n1 ≤ 2147483647) (f3 : (-2147483648) ≤ n1) (f4 : (hLe T0 H0 H1 ∧ hFr s_34.2.2.2.2 H0 H1 ∧ hWt T0 H1) ∧ (True ∧ True) ∧ some q0 = some (mub_34_12 n2 n3 n4 n5 n1 n6 n7 n0 H0 H1)) (f5 : n8 ≤ 2147483647) (f6 : (-2147483648) ≤ n8) (f7 : n0 < n8) (f8 : n0 < n1) (f9 : n9 = 1) (f10 : n10 = w32 (n0 + n9)) (f11 : n1 ≤ n10) (f12 : n11 = w32 (n0 + 1)) : True ∧ ∀ q, some q0 = some q → mub_34_12 n2 n3 n4 n5 n1 n12 n7 n11 H0 H2 < q := by
  have g5 := Option.some.inj f4.2.2
  unfold mub_34_12 at g5
  unfold mub_34_12
  unfold w32 at *
  refine ⟨?_, fun q hq => ?_⟩
  · trivial
  · have g6 := Option.some.inj hq
    subst g6
    omega
theorem c_34_12_1 {q0 : Nat} : vOkm T0 (eP e_34 L_34 A_34 mu_34 (some q0)) 2 ([(10, [20, 7], [], 1), (43, [14, 4], [], 0), (1, [14, 7, 13], [], 0), (0, [13], [], 1), (42, [7, 4], [], 0), (42, [7, 8], [], 0), (90, [8], [], -2147483648), (91, [8], [], 2147483647), (5000, [0, 1, 2, 3, 4, 5, 6, 7], [0, 1], 12), (90, [4], [], -2147483648), (91, [4], [], 2147483647), (90, [7], [], -2147483648), (91, [7], [], 2147483647)], (4000, [2, 3, 4, 12, 6, 20], [3], 12)) := vOk_in fun ρ η h => by
  obtain ⟨f0, f1, f2, f3, f4, f5, f6, f7, f8, f9, f10, f11, f12, _⟩ := h
  exact q_34_2 (q0 := q0) (n0 := ρ 7) (n1 := ρ 4) (n2 := ρ 0) (n3 := ρ 1) (n4 := ρ 2) (n5 := ρ 3) (n6 := ρ 5) (n7 := ρ 6) (n8 := ρ 8) (n9 := ρ 13) (n10 := ρ 14) (n11 := ρ 20) (n12 := ρ 12) (H0 := η 0) (H1 := η 1) (H2 := η 3) f12 f11 f10 f9 f8 f7 f6 f5 f4 f3 f2 f1 f0
theorem q_34_3 {q0 : Nat} {n0 n1 n2 n3 n4 n5 n6 n7 n8 n9 n10 n11 n12 n13 : Int} {H0 H1 H2 : gH} (f0 : n0 ≤ 2147483647) (f1 : (-2147483648) ≤ n0) (f2 : n1 ≤ 2147483647) (f3 : (-2147483648) ≤ n1) (f4 : (hLe T0 H0 H1 ∧ hFr s_34.2.2.2.2 H0 H1 ∧ hWt T0 H1) ∧ (True ∧ True) ∧ some q0 = some (mub_34_12 n2 n3 n4 n5 n1 n6 n7 n0 H0 H1)) (f5 : n8 ≤ 2147483647) (f6 : (-2147483648) ≤ n8) (f7 : n0 < n8) (f8 : n0 < n1) (f9 : n9 = 1) (f10 : n10 = w32 (n0 + n9)) (f11 : n1 ≤ n10) (f12 : n11 = w32 (n0 + 1)) : True ∧ ∀ q, some q0 = some q → mub_34_12 n2 n3 n4 n5 n1 n12 n13 n11 H0 H2 < q := by
  have g5 := Option.some.inj f4.2.2
  unfold mub_34_12 at g5
  unfold mub_34_12
  unfold w32 at *
  refine ⟨?_, fun q hq => ?_⟩
  · trivial
  · have g6 := Option.some.inj hq
    subst g6
    omega
theorem c_34_12_2 {q0 : Nat} : vOkm T0 (eP e_34 L_34 A_34 mu_34 (some q0)) 2 ([(10, [21, 7], [], 1), (43, [14, 4], [], 0), (1, [14, 7, 13], [], 0), (0, [13], [], 1), (42, [7, 4], [], 0), (42, [7, 8], [], 0), (90, [8], [], -2147483648), (91, [8], [], 2147483647), (5000, [0, 1, 2, 3, 4, 5, 6, 7], [0, 1], 12), (90, [4], [], -2147483648), (91, [4], [], 2147483647), (90, [7], [], -2147483648), (91, [7], [], 2147483647)], (4000, [2, 3, 4, 12, 20, 21], [4], 12)) := vOk_in fun ρ η h => by
  obtain ⟨f0, f1, f2, f3, f4, f5, f6, f7, f8, f9, f10, f11, f12, _⟩ := h
  exact q_34_3 (q0 := q0) (n0 := ρ 7) (n1 := ρ 4) (n2 := ρ 0) (n3 := ρ 1) (n4 := ρ 2) (n5 := ρ 3) (n6 := ρ 5) (n7 := ρ 6) (n8 := ρ 8) (n9 := ρ 13) (n10 := ρ 14) (n11 := ρ 21) (n12 := ρ 12) (n13 := ρ 20) (H0 := η 0) (H1 := η 1) (H2 := η 4) f12 f11 f10 f9 f8 f7 f6 f5 f4 f3 f2 f1 f0
theorem q_34_4 {q0 : Nat} {n0 n1 n2 n3 n4 n5 n6 n7 n8 n9 n10 n11 n12 : Int} {H0 H1 H2 : gH} (f0 : n0 ≤ 2147483647) (f1 : (-2147483648) ≤ n0) (f2 : n1 ≤ 2147483647) (f3 : (-2147483648) ≤ n1) (f4 : (hLe T0 H0 H1 ∧ hFr s_34.2.2.2.2 H0 H1 ∧ hWt T0 H1) ∧ (True ∧ True) ∧ some q0 = some (mub_34_12 n2 n3 n4 n5 n1 n6 n7 n0 H0 H1)) (f5 : n8 ≤ 2147483647) (f6 : (-2147483648) ≤ n8) (f7 : n0 < n8) (f8 : n1 ≤ n0) (f9 : n9 = 1) (f10 : n10 = w32 (n0 + n9)) (f11 : n10 < n1) (f12 : n11 = w32 (n0 + 1)) : True ∧ ∀ q, some q0 = some q → mub_34_12 n2 n3 n4 n5 n1 n12 n7 n11 H0 H2 < q := by
  have g5 := Option.some.inj f4.2.2
  unfold mub_34_12 at g5
  unfold mub_34_12
  unfold w32 at *
  refine ⟨?_, fun q hq => ?_⟩
  · trivial
  · have g6 := Option.some.inj hq
    subst g6
    omega
theorem c_34_12_3 {q0 : Nat} : vOkm T0 (eP e_34 L_34 A_34 mu_34 (some q0)) 2 ([(10, [20, 7], [], 1), (42, [19, 4], [], 0), (1, [19, 7, 18], [], 0), (0, [18], [], 1), (43, [7, 4], [], 0), (42, [7, 8], [], 0), (90, [8], [], -2147483648), (91, [8], [], 2147483647), (5000, [0, 1, 2, 3, 4, 5, 6, 7], [0, 1], 12), (90, [4], [], -2147483648), (91, [4], [], 2147483647), (90, [7], [], -2147483648), (91, [7], [], 2147483647)], (4000, [2, 3, 4, 17, 6, 20], [5], 12)) := vOk_in fun ρ η h => by
  obtain ⟨f0, f1, f2, f3, f4, f5, f6, f7, f8, f9, f10, f11, f12, _⟩ := h
  exact q_34_4 (q0 := q0) (n0 := ρ 7) (n1 := ρ 4) (n2 := ρ 0) (n3 := ρ 1) (n4 := ρ 2) (n5 := ρ 3) (n6 := ρ 5) (n7 := ρ 6) (n8 := ρ 8) (n9 := ρ 18) (n10 := ρ 19) (n11 := ρ 20) (n12 := ρ 17) (H0 := η 0) (H1 := η 1) (H2 := η 5) f12 f11 f10 f9 f8 f7 f6 f5 f4 f3 f2 f1 f0
theorem q_34_5 {q0 : Nat} {n0 n1 n2 n3 n4 n5 n6 n7 n8 n9 n10 n11 n12 : Int} {H0 H1 H2 : gH} (f0 : n0 ≤ 2147483647) (f1 : (-2147483648) ≤ n0) (f2 : n1 ≤ 2147483647) (f3 : (-2147483648) ≤ n1) (f4 : (hLe T0 H0 H1 ∧ hFr s_34.2.2.2.2 H0 H1 ∧ hWt T0 H1) ∧ (True ∧ True) ∧ some q0 = some (mub_34_12 n2 n3 n4 n5 n1 n6 n7 n0 H0 H1)) (f5 : n8 ≤ 2147483647) (f6 : (-2147483648) ≤ n8) (f7 : n0 < n8) (f8 : n1 ≤ n0) (f9 : n9 = 1) (f10 : n10 = w32 (n0 + n9)) (f11 : n1 ≤ n10) (f12 : n11 = w32 (n0 + 1)) : True ∧ ∀ q, some q0 = some q → mub_34_12 n2 n3 n4 n5 n1 n12 n7 n11 H0 H2 < q := by
  have g5 := Option.some.inj f4.2.2
  unfold mub_34_12 at g5
  unfold mub_34_12
  unfold w32 at *
  refine ⟨?_, fun q hq => ?_⟩
  · trivial
  · have g6 := Option.some.inj hq
    subst g6
    omega
theorem c_34_12_4 {q0 : Nat} : vOkm T0 (eP e_34 L_34 A_34 mu_34 (some q0)) 2 ([(10, [25, 7], [], 1), (43, [19, 4], [], 0), (1, [19, 7, 18], [], 0), (0, [18], [], 1), (43, [7, 4], [], 0), (42, [7, 8], [], 0), (90, [8], [], -2147483648), (91, [8], [], 2147483647), (5000, [0, 1, 2, 3, 4, 5, 6, 7], [0, 1], 12), (90, [4], [], -2147483648), (91, [4], [], 2147483647), (90, [7], [], -2147483648), (91, [7], [], 2147483647)], (4000, [2, 3, 4, 17, 6, 25], [5], 12)) := vOk_in fun ρ η h => by
  obtain ⟨f0, f1, f2, f3, f4, f5, f6, f7, f8, f9, f10, f11, f12, _⟩ := h
  exact q_34_5 (q0 := q0) (n0 := ρ 7) (n1 := ρ 4) (n2 := ρ 0) (n3 := ρ 1) (n4 := ρ 2) (n5 := ρ 3) (n6 := ρ 5) (n7 := ρ 6) (n8 := ρ 8) (n9 := ρ 18) (n10 := ρ 19) (n11 := ρ 25) (n12 := ρ 17) (H0 := η 0) (H1 := η 1) (H2 := η 5) f12 f11 f10 f9 f8 f7 f6 f5 f4 f3 f2 f1 f0
theorem q_34_6 {q0 : Nat} {n0 n1 n2 n3 n4 n5 n6 n7 n8 n9 n10 n11 n12 n13 : Int} {H0 H1 H2 : gH} (f0 : n0 ≤ 2147483647) (f1 : (-2147483648) ≤ n0) (f2 : n1 ≤ 2147483647) (f3 : (-2147483648) ≤ n1) (f4 : (hLe T0 H0 H1 ∧ hFr s_34.2.2.2.2 H0 H1 ∧ hWt T0 H1) ∧ (True ∧ True) ∧ some q0 = some (mub_34_12 n2 n3 n4 n5 n1 n6 n7 n0 H0 H1)) (f5 : n8 ≤ 2147483647) (f6 : (-2147483648) ≤ n8) (f7 : n0 < n8) (f8 : n1 ≤ n0) (f9 : n9 = 1) (f10 : n10 = w32 (n0 + n9)) (f11 : n1 ≤ n10) (f12 : n11 = w32 (n0 + 1)) : True ∧ ∀ q, some q0 = some q → mub_34_12 n2 n3 n4 n5 n1 n12 n13 n11 H0 H2 < q := by
  have g5 := Option.some.inj f4.2.2
  unfold mub_34_12 at g5
  unfold mub_34_12
  unfold w32 at *
  refine ⟨?_, fun q hq => ?_⟩
  · trivial
  · have g6 := Option.some.inj hq
    subst g6
    omega
theorem c_34_12_5 {q0 : Nat} : vOkm T0 (eP e_34 L_34 A_34 mu_34 (some q0)) 2 ([(10, [26, 7], [], 1), (43, [19, 4], [], 0), (1, [19, 7, 18], [], 0), (0, [18], [], 1), (43, [7, 4], [], 0), (42, [7, 8], [], 0), (90, [8], [], -2147483648), (91, [8], [], 2147483647), (5000, [0, 1, 2, 3, 4, 5, 6, 7], [0, 1], 12), (90, [4], [], -2147483648), (91, [4], [], 2147483647), (90, [7], [], -2147483648), (91, [7], [], 2147483647)], (4000, [2, 3, 4, 17, 25, 26], [6], 12)) := vOk_in fun ρ η h => by
  obtain ⟨f0, f1, f2, f3, f4, f5, f6, f7, f8, f9, f10, f11, f12, _⟩ := h
  exact q_34_6 (q0 := q0) (n0 := ρ 7) (n1 := ρ 4) (n2 := ρ 0) (n3 := ρ 1) (n4 := ρ 2) (n5 := ρ 3) (n6 := ρ 5) (n7 := ρ 6) (n8 := ρ 8) (n9 := ρ 18) (n10 := ρ 19) (n11 := ρ 26) (n12 := ρ 17) (n13 := ρ 25) (H0 := η 0) (H1 := η 1) (H2 := η 6) f12 f11 f10 f9 f8 f7 f6 f5 f4 f3 f2 f1 f0
def p_34_12 : List vG := [([(10, [15, 7], [], 1), (42, [14, 4], [], 0), (1, [14, 7, 13], [], 0), (0, [13], [], 1), (42, [7, 4], [], 0), (42, [7, 8], [], 0), (90, [8], [], -2147483648), (91, [8], [], 2147483647), (5000, [0, 1, 2, 3, 4, 5, 6, 7], [0, 1], 12), (90, [4], [], -2147483648), (91, [4], [], 2147483647), (90, [7], [], -2147483648), (91, [7], [], 2147483647)], (4000, [2, 3, 4, 12, 6, 15], [3], 12)),
  ([(10, [20, 7], [], 1), (43, [14, 4], [], 0), (1, [14, 7, 13], [], 0), (0, [13], [], 1), (42, [7, 4], [], 0), (42, [7, 8], [], 0), (90, [8], [], -2147483648), (91, [8], [], 2147483647), (5000, [0, 1, 2, 3, 4, 5, 6, 7], [0, 1], 12), (90, [4], [], -2147483648), (91, [4], [], 2147483647), (90, [7], [], -2147483648), (91, [7], [], 2147483647)], (4000, [2, 3, 4, 12, 6, 20], [3], 12)),
  ([(10, [21, 7], [], 1), (43, [14, 4], [], 0), (1, [14, 7, 13], [], 0), (0, [13], [], 1), (42, [7, 4], [], 0), (42, [7, 8], [], 0), (90, [8], [], -2147483648), (91, [8], [], 2147483647), (5000, [0, 1, 2, 3, 4, 5, 6, 7], [0, 1], 12), (90, [4], [], -2147483648), (91, [4], [], 2147483647), (90, [7], [], -2147483648), (91, [7], [], 2147483647)], (4000, [2, 3, 4, 12, 20, 21], [4], 12)),
  ([(10, [20, 7], [], 1), (42, [19, 4], [], 0), (1, [19, 7, 18], [], 0), (0, [18], [], 1), (43, [7, 4], [], 0), (42, [7, 8], [], 0), (90, [8], [], -2147483648), (91, [8], [], 2147483647), (5000, [0, 1, 2, 3, 4, 5, 6, 7], [0, 1], 12), (90, [4], [], -2147483648), (91, [4], [], 2147483647), (90, [7], [], -2147483648), (91, [7], [], 2147483647)], (4000, [2, 3, 4, 17, 6, 20], [5], 12)),
  ([(10, [25, 7], [], 1), (43, [19, 4], [], 0), (1, [19, 7, 18], [], 0), (0, [18], [], 1), (43, [7, 4], [], 0), (42, [7, 8], [], 0), (90, [8], [], -2147483648), (91, [8], [], 2147483647), (5000, [0, 1, 2, 3, 4, 5, 6, 7], [0, 1], 12), (90, [4], [], -2147483648), (91, [4], [], 2147483647), (90, [7], [], -2147483648), (91, [7], [], 2147483647)], (4000, [2, 3, 4, 17, 6, 25], [5], 12)),
  ([(10, [26, 7], [], 1), (43, [19, 4], [], 0), (1, [19, 7, 18], [], 0), (0, [18], [], 1), (43, [7, 4], [], 0), (42, [7, 8], [], 0), (90, [8], [], -2147483648), (91, [8], [], 2147483647), (5000, [0, 1, 2, 3, 4, 5, 6, 7], [0, 1], 12), (90, [4], [], -2147483648), (91, [4], [], 2147483647), (90, [7], [], -2147483648), (91, [7], [], 2147483647)], (4000, [2, 3, 4, 17, 25, 26], [6], 12))]
theorem r_34_12 : vCovO true (eRc e_34 L_34 cs_34 2000 (12, [(0, (3, 2, 274, 0)), (1, (0, -2147483648, 2147483647, 0)), (2, (0, -2147483648, 2147483647, 0)), (3, (0, -2147483648, 2147483647, 0)), (4, (0, -2147483648, 2147483647, 0)), (5, (0, -2147483648, 2147483647, 0))])) p_34_12 = true := by decide +kernel
theorem m_34 (d : Nat) : eC e_34 (d + 2) := eC_ok (e := e_34) (L := L_34) (cs := cs_34) (n := 2000) (d := d + 1) (A := A_34) (μ := mu_34) (tp := true) (p0 := p_34_s) rfl ⟨m_199 d, ⟨m_316 d, ⟨m_317 d, trivial⟩⟩⟩ rfl (.inr pre0_ok) (by decide +kernel) (fun _ => post0_ok) r_34_s (allC c_34_s_0 allN) (allC (.inl ⟨p_34_12, r_34_12, fun q0 => (allC c_34_12_0 (allC c_34_12_1 (allC c_34_12_2 (allC c_34_12_3 (allC c_34_12_4 (allC c_34_12_5 allN))))))⟩) allN)
/- Mixer.holds (LMixStage$Sheet;III)Z -/
noncomputable def s_31 : vM := ([(3, 2, 274, 0), (3, 6, -1, 0), (0, -2147483648, 2147483647, 0), (0, -2147483648, 2147483647, 0), (0, -2147483648, 2147483647, 0)], (0, 0, 1, 0), 0, 0, [(100, 0), (101, 0)])
noncomputable def e_31 : vE := (31, s_31, pre0, post0)
noncomputable def L_31 : List vE := [e_34, e_43]
def cs_31 : List vC := []
def A_31 : Int → List Int → gH → gH → Prop := fun c xs h0 h => True
def mu_31 : Int → List Int → gH → gH → Nat := fun c xs h0 h => 0
def p_31_s : List vG := []
theorem r_31_s : vCovO true (eR0 e_31 L_31 cs_31 2000) p_31_s = true := by decide +kernel
theorem m_31 (d : Nat) : eC e_31 (d + 6) := eC_ok (e := e_31) (L := L_31) (cs := cs_31) (n := 2000) (d := d + 5) (A := A_31) (μ := mu_31) (tp := true) (p0 := p_31_s) rfl ⟨m_34 (d + 3), ⟨m_43 d, trivial⟩⟩ rfl (.inr pre0_ok) (by decide +kernel) (fun _ => post0_ok) r_31_s allN allN
/- Mixer.fewestHalved (LMixStage$Sheet;II)I -/
noncomputable def s_29 : vM := ([(3, 2, 274, 0), (3, 6, -1, 0), (0, -2147483648, 2147483647, 0), (0, -2147483648, 2147483647, 0)], (0, -2147483648, 2147483647, 0), 0, 0, [(2, 8), (10, 0), (10, 1), (10, 2), (100, 0), (101, 0)])
noncomputable def e_29 : vE := (29, s_29, pre0, post0)
noncomputable def L_29 : List vE := [e_30, e_31, e_32, e_35, e_315, e_319]
def cs_29 : List vC := [(19, [(0, (3, 2, 274, 0)), (1, (3, 6, -1, 0)), (2, (0, -2147483648, 2147483647, 0)), (3, (0, -2147483648, 2147483647, 0)), (4, (0, -2147483648, 8, 0)), (5, (0, -2147483648, 2147483647, 0))]), (34, [(0, (3, 2, 274, 0)), (1, (3, 6, -1, 0)), (2, (0, -2147483648, 2147483647, 0)), (3, (0, -2147483648, 2147483647, 0)), (4, (0, -2147483648, 8, 0)), (5, (0, -2147483648, 2147483646, 0)), (6, (0, -2147483648, 2147483647, 0))])]
def mub_29_19 (a0 a1 a2 a3 x0 x1 x2 x3 x4 x5 : Int) (h0 h : gH) : Nat := (8589934592 + (2147483648 - x5).toNat) * 1099511627776 + 1099511627775
def mub_29_34 (a0 a1 a2 a3 x0 x1 x2 x3 x4 x5 x6 : Int) (h0 h : gH) : Nat := (8589934592 + (2147483648 - x5).toNat) * 1099511627776 + (8589934592 + (x6 + 2147483648).toNat) * 1
def A_29 : Int → List Int → gH → gH → Prop := fun c xs h0 h => True
def mu_29 : Int → List Int → gH → gH → Nat := fun c xs h0 h => match c.toNat with
  | 19 => (match xs with
    | [a0, a1, a2, a3, x0, x1, x2, x3, x4, x5] => mub_29_19 a0 a1 a2 a3 x0 x1 x2 x3 x4 x5 h0 h
    | _ => 0)
  | 34 => (match xs with
    | [a0, a1, a2, a3, x0, x1, x2, x3, x4, x5, x6] => mub_29_34 a0 a1 a2 a3 x0 x1 x2 x3 x4 x5 x6 h0 h
    | _ => 0)
  | _ => 0
theorem q_29_0 {n0 n1 n2 : Int} {H0 H1 H2 : gH} (f0 : n0 = 8) (f1 : n1 ≤ 2147483647) (f2 : (-2147483648) ≤ n1) (f3 : n2 ≤ 2147483647) (f4 : (-2147483648) ≤ n2) (f5 : (hLe T0 H1 H2 ∧ hFr s_319.2.2.2.2 H1 H2 ∧ ((0 : Int) = 0 → H2.length = H1.length) ∧ hWt T0 H2) ∧ postb_319 n2 n0 n1 H1 H2) : n2 ≤ 8 := by
  unfold postb_319 at f5
  omega
theorem c_29_s_0 : vOkm T0 (eP e_29 L_29 A_29 mu_29 none) 4 ([(1319, [6, 4, 5], [2, 3], 0), (90, [6], [], -2147483648), (91, [6], [], 2147483647), (90, [5], [], -2147483648), (91, [5], [], 2147483647), (0, [4], [], 8)], (91, [6], [], 8)) := vOk_in fun ρ η h => by
  obtain ⟨f0, f1, f2, f3, f4, f5, _⟩ := h
  exact q_29_0 (n0 := ρ 4) (n1 := ρ 5) (n2 := ρ 6) (H0 := η 0) (H1 := η 2) (H2 := η 3) f5 f4 f3 f2 f1 f0
theorem q_29_1 {n0 n1 n2 n3 n4 n5 : Int} {H0 H1 : gH}  : True ∧ ∀ q, none = some q → mub_29_19 n0 n1 n2 n3 n0 n1 n2 n3 n4 n5 H0 H1 < q := by
  exact ⟨trivial, fun q hq => nomatch hq⟩
theorem c_29_s_1 : vOkm T0 (eP e_29 L_29 A_29 mu_29 none) 4 ([], (4000, [0, 1, 2, 3, 6, 7], [3], 19)) := vOk_in fun ρ η h => by
  obtain ⟨_⟩ := h
  exact q_29_1 (n0 := ρ 0) (n1 := ρ 1) (n2 := ρ 2) (n3 := ρ 3) (n4 := ρ 6) (n5 := ρ 7) (H0 := η 0) (H1 := η 3) 
def p_29_s : List vG := [([(1319, [6, 4, 5], [2, 3], 0), (90, [6], [], -2147483648), (91, [6], [], 2147483647), (90, [5], [], -2147483648), (91, [5], [], 2147483647), (0, [4], [], 8)], (91, [6], [], 8)),
  ([], (4000, [0, 1, 2, 3, 6, 7], [3], 19))]
theorem r_29_s : vCovO true (eR0 e_29 L_29 cs_29 2000) p_29_s = true := by decide +kernel
theorem q_29_2 {q0 : Nat} {n0 n1 : Int} {H0 : gH} (f0 : n0 ≤ 2147483647) (f1 : (-2147483648) ≤ n0) (f2 : n1 ≤ 8) (f3 : (-2147483648) ≤ n1) (f4 : n0 ≤ n1) : n0 ≤ 2147483646 := by
  omega
theorem c_29_19_0 {q0 : Nat} : vOkm T0 (eP e_29 L_29 A_29 mu_29 (some q0)) 4 ([(45, [9, 8], [], 0), (90, [8], [], -2147483648), (91, [8], [], 8), (90, [9], [], -2147483648), (91, [9], [], 2147483647)], (91, [9], [], 2147483646)) := vOk_in fun ρ η h => by
  obtain ⟨f0, f1, f2, f3, f4, _⟩ := h
  exact q_29_2 (q0 := q0) (n0 := ρ 9) (n1 := ρ 8) (H0 := η 0) f4 f3 f2 f1 f0
theorem q_29_3 {q0 : Nat} {n0 n1 n2 n3 n4 n5 n6 n7 n8 n9 n10 n11 n12 n13 : Int} {H0 H1 : gH} (f0 : n0 ≤ 2147483647) (f1 : (-2147483648) ≤ n0) (f2 : n1 ≤ 8) (f3 : (-2147483648) ≤ n1) (f4 : (hLe T0 H0 H1 ∧ hFr s_29.2.2.2.2 H0 H1 ∧ hWt T0 H1) ∧ (True ∧ True) ∧ some q0 = some (mub_29_19 n2 n3 n4 n5 n6 n7 n8 n9 n1 n0 H0 H1)) (f5 : n0 ≤ n1) (f6 : n10 = 1) (f7 : n11 = o32 (fun x y => x <<< (y &&& 31)) n10 n1) (f8 : n12 = 1) (f9 : n13 = w32 (n11 - n12)) : True ∧ ∀ q, some q0 = some q → mub_29_34 n2 n3 n4 n5 n6 n7 n8 n9 n1 n0 n13 H0 H1 < q := by
  have g5 := Option.some.inj f4.2.2
  unfold mub_29_19 at g5
  unfold mub_29_34
  unfold w32 at *
  refine ⟨?_, fun q hq => ?_⟩
  · trivial
  · have g6 := Option.some.inj hq
    subst g6
    omega
theorem c_29_19_1 {q0 : Nat} : vOkm T0 (eP e_29 L_29 A_29 mu_29 (some q0)) 4 ([(2, [13, 11, 12], [], 0), (0, [12], [], 1), (7, [11, 10, 8], [], 0), (0, [10], [], 1), (45, [9, 8], [], 0), (5000, [0, 1, 2, 3, 4, 5, 6, 7, 8, 9], [0, 1], 19), (90, [8], [], -2147483648), (91, [8], [], 8), (90, [9], [], -2147483648), (91, [9], [], 2147483647)], (4000, [4, 5, 6, 7, 8, 9, 13], [1], 34)) := vOk_in fun ρ η h => by
  obtain ⟨f0, f1, f2, f3, f4, f5, f6, f7, f8, f9, _⟩ := h
  exact q_29_3 (q0 := q0) (n0 := ρ 9) (n1 := ρ 8) (n2 := ρ 0) (n3 := ρ 1) (n4 := ρ 2) (n5 := ρ 3) (n6 := ρ 4) (n7 := ρ 5) (n8 := ρ 6) (n9 := ρ 7) (n10 := ρ 10) (n11 := ρ 11) (n12 := ρ 12) (n13 := ρ 13) (H0 := η 0) (H1 := η 1) f9 f8 f7 f6 f5 f4 f3 f2 f1 f0
def p_29_19 : List vG := [([(45, [9, 8], [], 0), (90, [8], [], -2147483648), (91, [8], [], 8), (90, [9], [], -2147483648), (91, [9], [], 2147483647)], (91, [9], [], 2147483646)),
  ([(2, [13, 11, 12], [], 0), (0, [12], [], 1), (7, [11, 10, 8], [], 0), (0, [10], [], 1), (45, [9, 8], [], 0), (5000, [0, 1, 2, 3, 4, 5, 6, 7, 8, 9], [0, 1], 19), (90, [8], [], -2147483648), (91, [8], [], 8), (90, [9], [], -2147483648), (91, [9], [], 2147483647)], (4000, [4, 5, 6, 7, 8, 9, 13], [1], 34))]
theorem r_29_19 : vCovO true (eRc e_29 L_29 cs_29 2000 (19, [(0, (3, 2, 274, 0)), (1, (3, 6, -1, 0)), (2, (0, -2147483648, 2147483647, 0)), (3, (0, -2147483648, 2147483647, 0)), (4, (0, -2147483648, 8, 0)), (5, (0, -2147483648, 2147483647, 0))])) p_29_19 = true := by decide +kernel
theorem q_29_4 {q0 : Nat} {n0 n1 n2 n3 n4 n5 n6 n7 n8 n9 n10 n11 : Int} {H0 H1 : gH} (f0 : n0 ≤ 2147483647) (f1 : (-2147483648) ≤ n0) (f2 : n1 ≤ 2147483646) (f3 : (-2147483648) ≤ n1) (f4 : (hLe T0 H0 H1 ∧ hFr s_29.2.2.2.2 H0 H1 ∧ hWt T0 H1) ∧ (True ∧ True) ∧ some q0 = some (mub_29_34 n2 n3 n4 n5 n6 n7 n8 n9 n10 n1 n0 H0 H1)) (f5 : n0 < 0) (f6 : n11 = w32 (n1 + 1)) : True ∧ ∀ q, some q0 = some q → mub_29_19 n2 n3 n4 n5 n6 n7 n8 n9 n10 n11 H0 H1 < q := by
  have g5 := Option.some.inj f4.2.2
  unfold mub_29_34 at g5
  unfold mub_29_19
  unfold w32 at *
  refine ⟨?_, fun q hq => ?_⟩
  · trivial
  · have g6 := Option.some.inj hq
    subst g6
    omega
theorem c_29_34_0 {q0 : Nat} : vOkm T0 (eP e_29 L_29 A_29 mu_29 (some q0)) 4 ([(10, [11, 9], [], 1), (32, [10], [], 0), (5000, [0, 1, 2, 3, 4, 5, 6, 7, 8, 9, 10], [0, 1], 34), (90, [9], [], -2147483648), (91, [9], [], 2147483646), (90, [10], [], -2147483648), (91, [10], [], 2147483647)], (4000, [4, 5, 6, 7, 8, 11], [1], 19)) := vOk_in fun ρ η h => by
  obtain ⟨f0, f1, f2, f3, f4, f5, f6, _⟩ := h
  exact q_29_4 (q0 := q0) (n0 := ρ 10) (n1 := ρ 9) (n2 := ρ 0) (n3 := ρ 1) (n4 := ρ 2) (n5 := ρ 3) (n6 := ρ 4) (n7 := ρ 5) (n8 := ρ 6) (n9 := ρ 7) (n10 := ρ 8) (n11 := ρ 11) (H0 := η 0) (H1 := η 1) f6 f5 f4 f3 f2 f1 f0
theorem q_29_5 {q0 : Nat} {n0 n1 n2 n3 n4 n5 n6 n7 n8 n9 n10 n11 n12 : Int} {H0 H1 H2 : gH} (f0 : n0 ≤ 2147483647) (f1 : (-2147483648) ≤ n0) (f2 : n1 ≤ 2147483646) (f3 : (-2147483648) ≤ n1) (f4 : (hLe T0 H0 H1 ∧ hFr s_29.2.2.2.2 H0 H1 ∧ hWt T0 H1) ∧ (True ∧ True) ∧ some q0 = some (mub_29_34 n2 n3 n4 n5 n6 n7 n8 n9 n10 n1 n0 H0 H1)) (f5 : 0 ≤ n0) (f6 : n11 ≤ 2147483647) (f7 : (-2147483648) ≤ n11) (f8 : n11 ≠ n1) (f9 : n12 = w32 (n0 + (-1))) : True ∧ ∀ q, some q0 = some q → mub_29_34 n2 n3 n4 n5 n6 n7 n8 n9 n10 n1 n12 H0 H2 < q := by
  have g5 := Option.some.inj f4.2.2
  unfold mub_29_34 at g5
  unfold mub_29_34
  unfold w32 at *
  refine ⟨?_, fun q hq => ?_⟩
  · trivial
  · have g6 := Option.some.inj hq
    subst g6
    omega
theorem c_29_34_1 {q0 : Nat} : vOkm T0 (eP e_29 L_29 A_29 mu_29 (some q0)) 4 ([(10, [13, 10], [], -1), (41, [12, 9], [], 0), (90, [12], [], -2147483648), (91, [12], [], 2147483647), (33, [10], [], 0), (5000, [0, 1, 2, 3, 4, 5, 6, 7, 8, 9, 10], [0, 1], 34), (90, [9], [], -2147483648), (91, [9], [], 2147483646), (90, [10], [], -2147483648), (91, [10], [], 2147483647)], (4000, [4, 5, 6, 7, 8, 9, 13], [3], 34)) := vOk_in fun ρ η h => by
  obtain ⟨f0, f1, f2, f3, f4, f5, f6, f7, f8, f9, _⟩ := h
  exact q_29_5 (q0 := q0) (n0 := ρ 10) (n1 := ρ 9) (n2 := ρ 0) (n3 := ρ 1) (n4 := ρ 2) (n5 := ρ 3) (n6 := ρ 4) (n7 := ρ 5) (n8 := ρ 6) (n9 := ρ 7) (n10 := ρ 8) (n11 := ρ 12) (n12 := ρ 13) (H0 := η 0) (H1 := η 1) (H2 := η 3) f9 f8 f7 f6 f5 f4 f3 f2 f1 f0
theorem q_29_6 {q0 : Nat} {n0 n1 n2 n3 n4 n5 n6 n7 n8 n9 n10 n11 n12 : Int} {H0 H1 H2 : gH} (f0 : n0 ≤ 2147483647) (f1 : (-2147483648) ≤ n0) (f2 : n1 ≤ 2147483646) (f3 : (-2147483648) ≤ n1) (f4 : (hLe T0 H0 H1 ∧ hFr s_29.2.2.2.2 H0 H1 ∧ hWt T0 H1) ∧ (True ∧ True) ∧ some q0 = some (mub_29_34 n2 n3 n4 n5 n6 n7 n8 n9 n10 n1 n0 H0 H1)) (f5 : 0 ≤ n0) (f6 : n11 ≤ 2147483647) (f7 : (-2147483648) ≤ n11) (f8 : n11 = n1) (f9 : n12 = w32 (n0 + (-1))) : True ∧ ∀ q, some q0 = some q → mub_29_34 n2 n3 n4 n5 n6 n7 n8 n9 n10 n1 n12 H0 H2 < q := by
  have g5 := Option.some.inj f4.2.2
  unfold mub_29_34 at g5
  unfold mub_29_34
  unfold w32 at *
  refine ⟨?_, fun q hq => ?_⟩
  · trivial
  · have g6 := Option.some.inj hq
    subst g6
    omega
theorem c_29_34_2 {q0 : Nat} : vOkm T0 (eP e_29 L_29 A_29 mu_29 (some q0)) 4 ([(10, [14, 10], [], -1), (40, [12, 9], [], 0), (90, [12], [], -2147483648), (91, [12], [], 2147483647), (33, [10], [], 0), (5000, [0, 1, 2, 3, 4, 5, 6, 7, 8, 9, 10], [0, 1], 34), (90, [9], [], -2147483648), (91, [9], [], 2147483646), (90, [10], [], -2147483648), (91, [10], [], 2147483647)], (4000, [4, 5, 6, 7, 8, 9, 14], [4], 34)) := vOk_in fun ρ η h => by
  obtain ⟨f0, f1, f2, f3, f4, f5, f6, f7, f8, f9, _⟩ := h
  exact q_29_6 (q0 := q0) (n0 := ρ 10) (n1 := ρ 9) (n2 := ρ 0) (n3 := ρ 1) (n4 := ρ 2) (n5 := ρ 3) (n6 := ρ 4) (n7 := ρ 5) (n8 := ρ 6) (n9 := ρ 7) (n10 := ρ 8) (n11 := ρ 12) (n12 := ρ 14) (H0 := η 0) (H1 := η 1) (H2 := η 4) f9 f8 f7 f6 f5 f4 f3 f2 f1 f0
def p_29_34 : List vG := [([(10, [11, 9], [], 1), (32, [10], [], 0), (5000, [0, 1, 2, 3, 4, 5, 6, 7, 8, 9, 10], [0, 1], 34), (90, [9], [], -2147483648), (91, [9], [], 2147483646), (90, [10], [], -2147483648), (91, [10], [], 2147483647)], (4000, [4, 5, 6, 7, 8, 11], [1], 19)),
  ([(10, [13, 10], [], -1), (41, [12, 9], [], 0), (90, [12], [], -2147483648), (91, [12], [], 2147483647), (33, [10], [], 0), (5000, [0, 1, 2, 3, 4, 5, 6, 7, 8, 9, 10], [0, 1], 34), (90, [9], [], -2147483648), (91, [9], [], 2147483646), (90, [10], [], -2147483648), (91, [10], [], 2147483647)], (4000, [4, 5, 6, 7, 8, 9, 13], [3], 34)),
  ([(10, [14, 10], [], -1), (40, [12, 9], [], 0), (90, [12], [], -2147483648), (91, [12], [], 2147483647), (33, [10], [], 0), (5000, [0, 1, 2, 3, 4, 5, 6, 7, 8, 9, 10], [0, 1], 34), (90, [9], [], -2147483648), (91, [9], [], 2147483646), (90, [10], [], -2147483648), (91, [10], [], 2147483647)], (4000, [4, 5, 6, 7, 8, 9, 14], [4], 34))]
theorem r_29_34 : vCovO true (eRc e_29 L_29 cs_29 2000 (34, [(0, (3, 2, 274, 0)), (1, (3, 6, -1, 0)), (2, (0, -2147483648, 2147483647, 0)), (3, (0, -2147483648, 2147483647, 0)), (4, (0, -2147483648, 8, 0)), (5, (0, -2147483648, 2147483646, 0)), (6, (0, -2147483648, 2147483647, 0))])) p_29_34 = true := by decide +kernel
theorem m_29 (d : Nat) : eC e_29 (d + 7) := eC_ok (e := e_29) (L := L_29) (cs := cs_29) (n := 2000) (d := d + 6) (A := A_29) (μ := mu_29) (tp := true) (p0 := p_29_s) rfl ⟨m_30 (d + 5), ⟨m_31 d, ⟨m_32 (d + 4), ⟨m_35 (d + 1), ⟨m_315 (d + 5), ⟨m_319 (d + 5), trivial⟩⟩⟩⟩⟩⟩ rfl (.inr pre0_ok) (by decide +kernel) (fun _ => post0_ok) r_29_s (allC c_29_s_0 (allC c_29_s_1 allN)) (allC (.inl ⟨p_29_19, r_29_19, fun q0 => (allC c_29_19_0 (allC c_29_19_1 allN))⟩) (allC (.inl ⟨p_29_34, r_29_34, fun q0 => (allC c_29_34_0 (allC c_29_34_1 (allC c_29_34_2 allN)))⟩) allN))
/- Mixer.loudOfSound (II)I -/
noncomputable def s_33 : vM := ([(3, 2, 274, 0), (0, -2147483648, 2147483647, 0), (0, -2147483648, 2147483647, 0)], (0, -2147483648, 2147483647, 0), 0, 0, [(2, 8), (10, 0), (10, 1), (10, 2), (100, 0)])
noncomputable def e_33 : vE := (33, s_33, pre0, post0)
noncomputable def L_33 : List vE := [e_34, e_152, e_153, e_201, e_319]
def cs_33 : List vC := [(31, [(0, (3, 2, 274, 0)), (1, (0, -2147483648, 2147483647, 0)), (2, (0, -2147483648, 2147483647, 0)), (3, (0, -2147483648, 2147483647, 0))])]
def mub_33_31 (a0 a1 a2 x0 x1 x2 x3 : Int) (h0 h : gH) : Nat := (2147483648 - x3).toNat
def A_33 : Int → List Int → gH → gH → Prop := fun c xs h0 h => True
def mu_33 : Int → List Int → gH → gH → Nat := fun c xs h0 h => match c.toNat with
  | 31 => (match xs with
    | [a0, a1, a2, x0, x1, x2, x3] => mub_33_31 a0 a1 a2 x0 x1 x2 x3 h0 h
    | _ => 0)
  | _ => 0
theorem q_33_0 {n0 n1 n2 n3 : Int} {H0 H1 : gH}  : True ∧ ∀ q, none = some q → mub_33_31 n0 n1 n2 n0 n1 n2 n3 H0 H1 < q := by
  exact ⟨trivial, fun q hq => nomatch hq⟩
theorem c_33_s_0 : vOkm T0 (eP e_33 L_33 A_33 mu_33 none) 3 ([], (4000, [0, 1, 2, 10], [3], 31)) := vOk_in fun ρ η h => by
  obtain ⟨_⟩ := h
  exact q_33_0 (n0 := ρ 0) (n1 := ρ 1) (n2 := ρ 2) (n3 := ρ 10) (H0 := η 0) (H1 := η 3) 
def p_33_s : List vG := [([], (4000, [0, 1, 2, 10], [3], 31))]
theorem r_33_s : vCovO true (eR0 e_33 L_33 cs_33 2000) p_33_s = true := by decide +kernel
theorem q_33_1 {q0 : Nat} {n0 n1 n2 n3 n4 n5 n6 n7 n8 : Int} {H0 H1 H2 : gH} (f0 : n0 ≤ 2147483647) (f1 : (-2147483648) ≤ n0) (f2 : (hLe T0 H0 H1 ∧ hFr s_33.2.2.2.2 H0 H1 ∧ hWt T0 H1) ∧ (True ∧ True) ∧ some q0 = some (mub_33_31 n1 n2 n3 n4 n5 n6 n0 H0 H1)) (f3 : n7 ≤ 2147483647) (f4 : (-2147483648) ≤ n7) (f5 : n0 < n7) (f6 : n8 = w32 (n0 + 1)) : True ∧ ∀ q, some q0 = some q → mub_33_31 n1 n2 n3 n4 n5 n6 n8 H0 H2 < q := by
  have g5 := Option.some.inj f2.2.2
  unfold mub_33_31 at g5
  unfold mub_33_31
  unfold w32 at *
  refine ⟨?_, fun q hq => ?_⟩
  · trivial
  · have g6 := Option.some.inj hq
    subst g6
    omega
theorem c_33_31_0 {q0 : Nat} : vOkm T0 (eP e_33 L_33 A_33 mu_33 (some q0)) 3 ([(10, [11, 6], [], 1), (42, [6, 7], [], 0), (90, [7], [], -2147483648), (91, [7], [], 2147483647), (5000, [0, 1, 2, 3, 4, 5, 6], [0, 1], 31), (90, [6], [], -2147483648), (91, [6], [], 2147483647)], (4000, [3, 4, 5, 11], [3], 31)) := vOk_in fun ρ η h => by
  obtain ⟨f0, f1, f2, f3, f4, f5, f6, _⟩ := h
  exact q_33_1 (q0 := q0) (n0 := ρ 6) (n1 := ρ 0) (n2 := ρ 1) (n3 := ρ 2) (n4 := ρ 3) (n5 := ρ 4) (n6 := ρ 5) (n7 := ρ 7) (n8 := ρ 11) (H0 := η 0) (H1 := η 1) (H2 := η 3) f6 f5 f4 f3 f2 f1 f0
def p_33_31 : List vG := [([(10, [11, 6], [], 1), (42, [6, 7], [], 0), (90, [7], [], -2147483648), (91, [7], [], 2147483647), (5000, [0, 1, 2, 3, 4, 5, 6], [0, 1], 31), (90, [6], [], -2147483648), (91, [6], [], 2147483647)], (4000, [3, 4, 5, 11], [3], 31))]
theorem r_33_31 : vCovO true (eRc e_33 L_33 cs_33 2000 (31, [(0, (3, 2, 274, 0)), (1, (0, -2147483648, 2147483647, 0)), (2, (0, -2147483648, 2147483647, 0)), (3, (0, -2147483648, 2147483647, 0))])) p_33_31 = true := by decide +kernel
theorem m_33 (d : Nat) : eC e_33 (d + 4) := eC_ok (e := e_33) (L := L_33) (cs := cs_33) (n := 2000) (d := d + 3) (A := A_33) (μ := mu_33) (tp := true) (p0 := p_33_s) rfl ⟨m_34 (d + 1), ⟨m_152 d, ⟨m_153 (d + 1), ⟨m_201 (d + 2), ⟨m_319 (d + 2), trivial⟩⟩⟩⟩⟩ rfl (.inr pre0_ok) (by decide +kernel) (fun _ => post0_ok) r_33_s (allC c_33_s_0 allN) (allC (.inl ⟨p_33_31, r_33_31, fun q0 => (allC c_33_31_0 allN)⟩) allN)
/- Mixer.isHeard (II)Z -/
noncomputable def s_40 : vM := ([(3, 2, 274, 0), (0, -2147483648, 2147483647, 0), (0, -2147483648, 2147483647, 0)], (0, 0, 1, 0), 0, 0, [])
noncomputable def e_40 : vE := (40, s_40, pre0, post0)
noncomputable def L_40 : List vE := [e_39]
def cs_40 : List vC := []
def A_40 : Int → List Int → gH → gH → Prop := fun c xs h0 h => True
def mu_40 : Int → List Int → gH → gH → Nat := fun c xs h0 h => 0
def p_40_s : List vG := []
theorem r_40_s : vCovO true (eR0 e_40 L_40 cs_40 2000) p_40_s = true := by decide +kernel
theorem m_40 (d : Nat) : eC e_40 (d + 3) := eC_ok (e := e_40) (L := L_40) (cs := cs_40) (n := 2000) (d := d + 2) (A := A_40) (μ := mu_40) (tp := true) (p0 := p_40_s) rfl ⟨m_39 d, trivial⟩ rfl (.inr pre0_ok) (by decide +kernel) (fun _ => post0_ok) r_40_s allN allN
/- Picture.has (I)Z -/
noncomputable def s_51 : vM := ([(3, 3, 19, 0), (0, -2147483648, 2147483647, 0)], (0, 0, 1, 0), 0, 0, [])
noncomputable def e_51 : vE := (51, s_51, pre0, post0)
noncomputable def L_51 : List vE := []
def cs_51 : List vC := []
def A_51 : Int → List Int → gH → gH → Prop := fun c xs h0 h => True
def mu_51 : Int → List Int → gH → gH → Nat := fun c xs h0 h => 0
def p_51_s : List vG := []
theorem r_51_s : vCovO true (eR0 e_51 L_51 cs_51 2000) p_51_s = true := by decide +kernel
theorem m_51 (d : Nat) : eC e_51 (d + 1) := eC_ok (e := e_51) (L := L_51) (cs := cs_51) (n := 2000) (d := d + 0) (A := A_51) (μ := mu_51) (tp := true) (p0 := p_51_s) rfl trivial rfl (.inr pre0_ok) (by decide +kernel) (fun _ => post0_ok) r_51_s allN allN
/- Picture.last ()I -/
noncomputable def s_52 : vM := ([(3, 3, 19, 0)], (0, -2147483648, 2147483647, 0), 0, 0, [])
noncomputable def e_52 : vE := (52, s_52, pre0, post0)
noncomputable def L_52 : List vE := []
def cs_52 : List vC := []
def A_52 : Int → List Int → gH → gH → Prop := fun c xs h0 h => True
def mu_52 : Int → List Int → gH → gH → Nat := fun c xs h0 h => 0
def p_52_s : List vG := []
theorem r_52_s : vCovO true (eR0 e_52 L_52 cs_52 2000) p_52_s = true := by decide +kernel
theorem m_52 (d : Nat) : eC e_52 (d + 1) := eC_ok (e := e_52) (L := L_52) (cs := cs_52) (n := 2000) (d := d + 0) (A := A_52) (μ := mu_52) (tp := true) (p0 := p_52_s) rfl trivial rfl (.inr pre0_ok) (by decide +kernel) (fun _ => post0_ok) r_52_s allN allN
/- Picture.resize (I)Z -/
noncomputable def s_54 : vM := ([(3, 3, 19, 0), (0, -2147483648, 2147483647, 0)], (0, 0, 1, 0), 0, 0, [(100, 0)])
noncomputable def e_54 : vE := (54, s_54, pre0, post0)
noncomputable def L_54 : List vE := [e_201]
def cs_54 : List vC := []
def A_54 : Int → List Int → gH → gH → Prop := fun c xs h0 h => True
def mu_54 : Int → List Int → gH → gH → Nat := fun c xs h0 h => 0
def p_54_s : List vG := []
theorem r_54_s : vCovO true (eR0 e_54 L_54 cs_54 2000) p_54_s = true := by decide +kernel
theorem m_54 (d : Nat) : eC e_54 (d + 2) := eC_ok (e := e_54) (L := L_54) (cs := cs_54) (n := 2000) (d := d + 1) (A := A_54) (μ := mu_54) (tp := true) (p0 := p_54_s) rfl ⟨m_201 d, trivial⟩ rfl (.inr pre0_ok) (by decide +kernel) (fun _ => post0_ok) r_54_s allN allN
/- Picture.begin ()I -/
noncomputable def s_55 : vM := ([(3, 3, 19, 0)], (0, -2147483648, 2147483647, 0), 0, 0, [(3, 3)])
noncomputable def e_55 : vE := (55, s_55, pre0, post0)
noncomputable def L_55 : List vE := [e_52, e_53]
def cs_55 : List vC := []
def A_55 : Int → List Int → gH → gH → Prop := fun c xs h0 h => True
def mu_55 : Int → List Int → gH → gH → Nat := fun c xs h0 h => 0
def p_55_s : List vG := []
theorem r_55_s : vCovO true (eR0 e_55 L_55 cs_55 2000) p_55_s = true := by decide +kernel
theorem m_55 (d : Nat) : eC e_55 (d + 3) := eC_ok (e := e_55) (L := L_55) (cs := cs_55) (n := 2000) (d := d + 2) (A := A_55) (μ := mu_55) (tp := true) (p0 := p_55_s) rfl ⟨m_52 (d + 1), ⟨m_53 d, trivial⟩⟩ rfl (.inr pre0_ok) (by decide +kernel) (fun _ => post0_ok) r_55_s allN allN
/- Picture.tellLast ()V -/
noncomputable def s_56 : vM := ([(3, 3, 19, 0)], (9, 0, 0, 0), 0, 0, [(3, 4)])
noncomputable def e_56 : vE := (56, s_56, pre0, post0)
noncomputable def L_56 : List vE := [e_52]
def cs_56 : List vC := []
def A_56 : Int → List Int → gH → gH → Prop := fun c xs h0 h => True
def mu_56 : Int → List Int → gH → gH → Nat := fun c xs h0 h => 0
def p_56_s : List vG := []
theorem r_56_s : vCovO true (eR0 e_56 L_56 cs_56 2000) p_56_s = true := by decide +kernel
theorem m_56 (d : Nat) : eC e_56 (d + 2) := eC_ok (e := e_56) (L := L_56) (cs := cs_56) (n := 2000) (d := d + 1) (A := A_56) (μ := mu_56) (tp := true) (p0 := p_56_s) rfl ⟨m_52 d, trivial⟩ rfl (.inr pre0_ok) (by decide +kernel) (fun _ => post0_ok) r_56_s allN allN
/- Picture.extend (II)I -/
noncomputable def s_57 : vM := ([(3, 3, 19, 0), (0, -2147483648, 2147483647, 0), (0, -2147483648, 2147483647, 0)], (0, -2147483648, 2147483647, 0), 0, 0, [(100, 0)])
noncomputable def e_57 : vE := (57, s_57, pre0, post0)
noncomputable def L_57 : List vE := [e_52, e_53, e_199, e_201]
def cs_57 : List vC := [(56, [(0, (3, 3, 19, 0)), (1, (0, -2147483648, 2147483647, 0)), (2, (0, -2147483648, 2147483647, 0)), (3, (0, -2147483648, 2147483647, 0)), (4, (0, -2147483648, 2147483647, 0)), (5, (0, -2147483648, 2147483647, 0))])]
def mub_57_56 (a0 a1 a2 x0 x1 x2 x3 x4 x5 : Int) (h0 h : gH) : Nat := (2147483648 - x5).toNat
def A_57 : Int → List Int → gH → gH → Prop := fun c xs h0 h => True
def mu_57 : Int → List Int → gH → gH → Nat := fun c xs h0 h => match c.toNat with
  | 56 => (match xs with
    | [a0, a1, a2, x0, x1, x2, x3, x4, x5] => mub_57_56 a0 a1 a2 x0 x1 x2 x3 x4 x5 h0 h
    | _ => 0)
  | _ => 0
theorem q_57_0 {n0 n1 n2 n3 n4 n5 : Int} {H0 H1 : gH}  : True ∧ ∀ q, none = some q → mub_57_56 n0 n1 n2 n0 n1 n2 n3 n4 n5 H0 H1 < q := by
  exact ⟨trivial, fun q hq => nomatch hq⟩
theorem c_57_s_0 : vOkm T0 (eP e_57 L_57 A_57 mu_57 none) 3 ([], (4000, [0, 1, 2, 3, 4, 12], [3], 56)) := vOk_in fun ρ η h => by
  obtain ⟨_⟩ := h
  exact q_57_0 (n0 := ρ 0) (n1 := ρ 1) (n2 := ρ 2) (n3 := ρ 3) (n4 := ρ 4) (n5 := ρ 12) (H0 := η 0) (H1 := η 3) 
def p_57_s : List vG := [([], (4000, [0, 1, 2, 3, 4, 12], [3], 56))]
theorem r_57_s : vCovO true (eR0 e_57 L_57 cs_57 2000) p_57_s = true := by decide +kernel
theorem q_57_1 {q0 : Nat} {n0 n1 n2 n3 n4 n5 n6 n7 n8 n9 : Int} {H0 H1 H2 : gH} (f0 : n0 ≤ 2147483647) (f1 : (-2147483648) ≤ n0) (f2 : n1 ≤ 2147483647) (f3 : (-2147483648) ≤ n1) (f4 : (hLe T0 H0 H1 ∧ hFr s_57.2.2.2.2 H0 H1 ∧ hWt T0 H1) ∧ (True ∧ True) ∧ some q0 = some (mub_57_56 n2 n3 n4 n5 n6 n1 n7 n8 n0 H0 H1)) (f5 : n0 < n1) (f6 : n9 = w32 (n0 + 1)) : True ∧ ∀ q, some q0 = some q → mub_57_56 n2 n3 n4 n5 n6 n1 n7 n8 n9 H0 H2 < q := by
  have g5 := Option.some.inj f4.2.2
  unfold mub_57_56 at g5
  unfold mub_57_56
  unfold w32 at *
  refine ⟨?_, fun q hq => ?_⟩
  · trivial
  · have g6 := Option.some.inj hq
    subst g6
    omega
theorem c_57_56_0 {q0 : Nat} : vOkm T0 (eP e_57 L_57 A_57 mu_57 (some q0)) 3 ([(10, [16, 8], [], 1), (42, [8, 5], [], 0), (5000, [0, 1, 2, 3, 4, 5, 6, 7, 8], [0, 1], 56), (90, [5], [], -2147483648), (91, [5], [], 2147483647), (90, [8], [], -2147483648), (91, [8], [], 2147483647)], (4000, [3, 4, 5, 6, 7, 16], [2], 56)) := vOk_in fun ρ η h => by
  obtain ⟨f0, f1, f2, f3, f4, f5, f6, _⟩ := h
  exact q_57_1 (q0 := q0) (n0 := ρ 8) (n1 := ρ 5) (n2 := ρ 0) (n3 := ρ 1) (n4 := ρ 2) (n5 := ρ 3) (n6 := ρ 4) (n7 := ρ 6) (n8 := ρ 7) (n9 := ρ 16) (H0 := η 0) (H1 := η 1) (H2 := η 2) f6 f5 f4 f3 f2 f1 f0
theorem c_57_56_1 {q0 : Nat} : vOkm T0 (eP e_57 L_57 A_57 mu_57 (some q0)) 3 ([(10, [16, 8], [], 1), (42, [8, 5], [], 0), (5000, [0, 1, 2, 3, 4, 5, 6, 7, 8], [0, 1], 56), (90, [5], [], -2147483648), (91, [5], [], 2147483647), (90, [8], [], -2147483648), (91, [8], [], 2147483647)], (4000, [3, 4, 5, 6, 7, 16], [2], 56)) := vOk_in fun ρ η h => by
  obtain ⟨f0, f1, f2, f3, f4, f5, f6, _⟩ := h
  exact q_57_1 (q0 := q0) (n0 := ρ 8) (n1 := ρ 5) (n2 := ρ 0) (n3 := ρ 1) (n4 := ρ 2) (n5 := ρ 3) (n6 := ρ 4) (n7 := ρ 6) (n8 := ρ 7) (n9 := ρ 16) (H0 := η 0) (H1 := η 1) (H2 := η 2) f6 f5 f4 f3 f2 f1 f0
def p_57_56 : List vG := [([(10, [16, 8], [], 1), (42, [8, 5], [], 0), (5000, [0, 1, 2, 3, 4, 5, 6, 7, 8], [0, 1], 56), (90, [5], [], -2147483648), (91, [5], [], 2147483647), (90, [8], [], -2147483648), (91, [8], [], 2147483647)], (4000, [3, 4, 5, 6, 7, 16], [2], 56)),
  ([(10, [16, 8], [], 1), (42, [8, 5], [], 0), (5000, [0, 1, 2, 3, 4, 5, 6, 7, 8], [0, 1], 56), (90, [5], [], -2147483648), (91, [5], [], 2147483647), (90, [8], [], -2147483648), (91, [8], [], 2147483647)], (4000, [3, 4, 5, 6, 7, 16], [2], 56))]
theorem r_57_56 : vCovO true (eRc e_57 L_57 cs_57 2000 (56, [(0, (3, 3, 19, 0)), (1, (0, -2147483648, 2147483647, 0)), (2, (0, -2147483648, 2147483647, 0)), (3, (0, -2147483648, 2147483647, 0)), (4, (0, -2147483648, 2147483647, 0)), (5, (0, -2147483648, 2147483647, 0))])) p_57_56 = true := by decide +kernel
theorem m_57 (d : Nat) : eC e_57 (d + 3) := eC_ok (e := e_57) (L := L_57) (cs := cs_57) (n := 2000) (d := d + 2) (A := A_57) (μ := mu_57) (tp := true) (p0 := p_57_s) rfl ⟨m_52 (d + 1), ⟨m_53 d, ⟨m_199 (d + 1), ⟨m_201 (d + 1), trivial⟩⟩⟩⟩ rfl (.inr pre0_ok) (by decide +kernel) (fun _ => post0_ok) r_57_s (allC c_57_s_0 allN) (allC (.inl ⟨p_57_56, r_57_56, fun q0 => (allC c_57_56_0 (allC c_57_56_1 allN))⟩) allN)
/- Tokens.withLetter (JI)J -/
noncomputable def s_121 : vM := ([(1, 0, 0, 0), (0, -2147483648, 2147483647, 0)], (1, 0, 0, 0), 0, 0, [])
noncomputable def e_121 : vE := (121, s_121, pre0, post0)
noncomputable def L_121 : List vE := []
def cs_121 : List vC := []
def A_121 : Int → List Int → gH → gH → Prop := fun c xs h0 h => True
def mu_121 : Int → List Int → gH → gH → Nat := fun c xs h0 h => 0
def p_121_s : List vG := []
theorem r_121_s : vCovO true (eR0 e_121 L_121 cs_121 2000) p_121_s = true := by decide +kernel
theorem m_121 (d : Nat) : eC e_121 (d + 1) := eC_ok (e := e_121) (L := L_121) (cs := cs_121) (n := 2000) (d := d + 0) (A := A_121) (μ := mu_121) (tp := true) (p0 := p_121_s) rfl trivial rfl (.inr pre0_ok) (by decide +kernel) (fun _ => post0_ok) r_121_s allN allN
/- Tokens.wordKind (J)I -/
noncomputable def s_129 : vM := ([(3, 8, 31, 0), (1, 0, 0, 0)], (0, -2147483648, 2147483647, 0), 0, 0, [])
noncomputable def e_129 : vE := (129, s_129, pre0, post0)
noncomputable def L_129 : List vE := [e_200]
def cs_129 : List vC := [(2, [(0, (3, 8, 31, 0)), (1, (1, 0, 0, 0)), (3, (0, -2147483648, 2147483647, 0))])]
def mub_129_2 (a0 a1 x0 x1 x3 : Int) (h0 h : gH) : Nat := (2147483648 - x3).toNat
def A_129 : Int → List Int → gH → gH → Prop := fun c xs h0 h => True
def mu_129 : Int → List Int → gH → gH → Nat := fun c xs h0 h => match c.toNat with
  | 2 => (match xs with
    | [a0, a1, x0, x1, x3] => mub_129_2 a0 a1 x0 x1 x3 h0 h
    | _ => 0)
  | _ => 0
theorem q_129_0 {n0 n1 n2 : Int} {H0 : gH}  : True ∧ ∀ q, none = some q → mub_129_2 n0 n1 n0 n1 n2 H0 H0 < q := by
  exact ⟨trivial, fun q hq => nomatch hq⟩
theorem c_129_s_0 : vOkm T0 (eP e_129 L_129 A_129 mu_129 none) 2 ([], (4000, [0, 1, 2], [0], 2)) := vOk_in fun ρ η h => by
  obtain ⟨_⟩ := h
  exact q_129_0 (n0 := ρ 0) (n1 := ρ 1) (n2 := ρ 2) (H0 := η 0) 
def p_129_s : List vG := [([], (4000, [0, 1, 2], [0], 2))]
theorem r_129_s : vCovO true (eR0 e_129 L_129 cs_129 2000) p_129_s = true := by decide +kernel
theorem q_129_1 {q0 : Nat} {n0 n1 n2 n3 n4 n5 n6 : Int} {H0 H1 H2 : gH} (f0 : n0 ≤ 2147483647) (f1 : (-2147483648) ≤ n0) (f2 : (hLe T0 H0 H1 ∧ hFr s_129.2.2.2.2 H0 H1 ∧ hWt T0 H1) ∧ (True ∧ True) ∧ some q0 = some (mub_129_2 n1 n2 n3 n4 n0 H0 H1)) (f3 : n5 = 34) (f4 : n0 < n5) (f5 : n6 = w32 (n0 + 1)) : True ∧ ∀ q, some q0 = some q → mub_129_2 n1 n2 n3 n4 n6 H0 H2 < q := by
  have g5 := Option.some.inj f2.2.2
  unfold mub_129_2 at g5
  unfold mub_129_2
  unfold w32 at *
  refine ⟨?_, fun q hq => ?_⟩
  · trivial
  · have g6 := Option.some.inj hq
    subst g6
    omega
theorem c_129_2_0 {q0 : Nat} : vOkm T0 (eP e_129 L_129 A_129 mu_129 (some q0)) 2 ([(10, [9, 4], [], 1), (42, [4, 5], [], 0), (0, [5], [], 34), (5000, [0, 1, 2, 3, 4], [0, 1], 2), (90, [4], [], -2147483648), (91, [4], [], 2147483647)], (4000, [2, 3, 9], [2], 2)) := vOk_in fun ρ η h => by
  obtain ⟨f0, f1, f2, f3, f4, f5, _⟩ := h
  exact q_129_1 (q0 := q0) (n0 := ρ 4) (n1 := ρ 0) (n2 := ρ 1) (n3 := ρ 2) (n4 := ρ 3) (n5 := ρ 5) (n6 := ρ 9) (H0 := η 0) (H1 := η 1) (H2 := η 2) f5 f4 f3 f2 f1 f0
def p_129_2 : List vG := [([(10, [9, 4], [], 1), (42, [4, 5], [], 0), (0, [5], [], 34), (5000, [0, 1, 2, 3, 4], [0, 1], 2), (90, [4], [], -2147483648), (91, [4], [], 2147483647)], (4000, [2, 3, 9], [2], 2))]
theorem r_129_2 : vCovO true (eRc e_129 L_129 cs_129 2000 (2, [(0, (3, 8, 31, 0)), (1, (1, 0, 0, 0)), (3, (0, -2147483648, 2147483647, 0))])) p_129_2 = true := by decide +kernel
theorem m_129 (d : Nat) : eC e_129 (d + 2) := eC_ok (e := e_129) (L := L_129) (cs := cs_129) (n := 2000) (d := d + 1) (A := A_129) (μ := mu_129) (tp := true) (p0 := p_129_s) rfl ⟨m_200 d, trivial⟩ rfl (.inr pre0_ok) (by decide +kernel) (fun _ => post0_ok) r_129_s (allC c_129_s_0 allN) (allC (.inl ⟨p_129_2, r_129_2, fun q0 => (allC c_129_2_0 allN)⟩) allN)
/- Tokens.note (IIJ)V -/
noncomputable def s_126 : vM := ([(3, 8, 31, 0), (0, -2147483648, 2147483647, 0), (0, -2147483648, 2147483647, 0), (1, 0, 0, 0)], (9, 0, 0, 0), 0, 0, [(8, 4), (100, 0), (101, 0)])
noncomputable def e_126 : vE := (126, s_126, pre0, post0)
noncomputable def L_126 : List vE := [e_201, e_202]
def cs_126 : List vC := []
def A_126 : Int → List Int → gH → gH → Prop := fun c xs h0 h => True
def mu_126 : Int → List Int → gH → gH → Nat := fun c xs h0 h => 0
def p_126_s : List vG := []
theorem r_126_s : vCovO true (eR0 e_126 L_126 cs_126 2000) p_126_s = true := by decide +kernel
theorem m_126 (d : Nat) : eC e_126 (d + 2) := eC_ok (e := e_126) (L := L_126) (cs := cs_126) (n := 2000) (d := d + 1) (A := A_126) (μ := mu_126) (tp := true) (p0 := p_126_s) rfl ⟨m_201 d, ⟨m_202 d, trivial⟩⟩ rfl (.inr pre0_ok) (by decide +kernel) (fun _ => post0_ok) r_126_s allN allN
/- Tokens.scanName ([III)I -/
noncomputable def s_128 : vM := ([(3, 8, 31, 0), (2, 100, -1, 0), (0, -2147483648, 2147483647, 0), (0, -2147483648, 2147483647, 0)], (0, -2147483648, 2147483647, 0), 0, 0, [(8, 4), (100, 0), (101, 0)])
noncomputable def e_128 : vE := (128, s_128, pre0, post0)
noncomputable def L_128 : List vE := [e_121, e_126, e_129, e_199]
def cs_128 : List vC := [(6, [(0, (3, 8, 31, 0)), (1, (2, 100, -1, 0)), (2, (0, -2147483648, 2147483647, 0)), (3, (0, -2147483648, 2147483647, 0)), (4, (0, -2147483648, 2147483647, 0)), (5, (1, 0, 0, 0))])]
def mub_128_6 (a0 a1 a2 a3 x0 x1 x2 x3 x4 x5 : Int) (h0 h : gH) : Nat := (2147483648 - x4).toNat
def A_128 : Int → List Int → gH → gH → Prop := fun c xs h0 h => True
def mu_128 : Int → List Int → gH → gH → Nat := fun c xs h0 h => match c.toNat with
  | 6 => (match xs with
    | [a0, a1, a2, a3, x0, x1, x2, x3, x4, x5] => mub_128_6 a0 a1 a2 a3 x0 x1 x2 x3 x4 x5 h0 h
    | _ => 0)
  | _ => 0
theorem q_128_0 {n0 n1 n2 n3 n4 : Int} {H0 : gH}  : True ∧ ∀ q, none = some q → mub_128_6 n0 n1 n2 n3 n0 n1 n2 n3 n2 n4 H0 H0 < q := by
  exact ⟨trivial, fun q hq => nomatch hq⟩
theorem c_128_s_0 : vOkm T0 (eP e_128 L_128 A_128 mu_128 none) 4 ([], (4000, [0, 1, 2, 3, 2, 4], [0], 6)) := vOk_in fun ρ η h => by
  obtain ⟨_⟩ := h
  exact q_128_0 (n0 := ρ 0) (n1 := ρ 1) (n2 := ρ 2) (n3 := ρ 3) (n4 := ρ 4) (H0 := η 0) 
def p_128_s : List vG := [([], (4000, [0, 1, 2, 3, 2, 4], [0], 6))]
theorem r_128_s : vCovO true (eR0 e_128 L_128 cs_128 2000) p_128_s = true := by decide +kernel
theorem q_128_1 {q0 : Nat} {n0 n1 n2 n3 n4 n5 n6 n7 n8 n9 n10 n11 : Int} {H0 H1 H2 : gH} (f0 : n0 ≤ 2147483647) (f1 : (-2147483648) ≤ n0) (f2 : n1 ≤ 2147483647) (f3 : (-2147483648) ≤ n1) (f4 : (hLe T0 H0 H1 ∧ hFr s_128.2.2.2.2 H0 H1 ∧ hWt T0 H1) ∧ (True ∧ True) ∧ some q0 = some (mub_128_6 n2 n3 n4 n5 n6 n7 n8 n1 n0 n9 H0 H1)) (f5 : n0 < n1) (f6 : n10 = w32 (n0 + 1)) : True ∧ ∀ q, some q0 = some q → mub_128_6 n2 n3 n4 n5 n6 n7 n8 n1 n10 n11 H0 H2 < q := by
  have g5 := Option.some.inj f4.2.2
  unfold mub_128_6 at g5
  unfold mub_128_6
  unfold w32 at *
  refine ⟨?_, fun q hq => ?_⟩
  · trivial
  · have g6 := Option.some.inj hq
    subst g6
    omega
theorem c_128_6_0 {q0 : Nat} : vOkm T0 (eP e_128 L_128 A_128 mu_128 (some q0)) 4 ([(10, [16, 8], [], 1), (42, [8, 7], [], 0), (5000, [0, 1, 2, 3, 4, 5, 6, 7, 8, 9], [0, 1], 6), (90, [7], [], -2147483648), (91, [7], [], 2147483647), (90, [8], [], -2147483648), (91, [8], [], 2147483647)], (4000, [4, 5, 6, 7, 16, 15], [5], 6)) := vOk_in fun ρ η h => by
  obtain ⟨f0, f1, f2, f3, f4, f5, f6, _⟩ := h
  exact q_128_1 (q0 := q0) (n0 := ρ 8) (n1 := ρ 7) (n2 := ρ 0) (n3 := ρ 1) (n4 := ρ 2) (n5 := ρ 3) (n6 := ρ 4) (n7 := ρ 5) (n8 := ρ 6) (n9 := ρ 9) (n10 := ρ 16) (n11 := ρ 15) (H0 := η 0) (H1 := η 1) (H2 := η 5) f6 f5 f4 f3 f2 f1 f0
def p_128_6 : List vG := [([(10, [16, 8], [], 1), (42, [8, 7], [], 0), (5000, [0, 1, 2, 3, 4, 5, 6, 7, 8, 9], [0, 1], 6), (90, [7], [], -2147483648), (91, [7], [], 2147483647), (90, [8], [], -2147483648), (91, [8], [], 2147483647)], (4000, [4, 5, 6, 7, 16, 15], [5], 6))]
theorem r_128_6 : vCovO true (eRc e_128 L_128 cs_128 2000 (6, [(0, (3, 8, 31, 0)), (1, (2, 100, -1, 0)), (2, (0, -2147483648, 2147483647, 0)), (3, (0, -2147483648, 2147483647, 0)), (4, (0, -2147483648, 2147483647, 0)), (5, (1, 0, 0, 0))])) p_128_6 = true := by decide +kernel
theorem m_128 (d : Nat) : eC e_128 (d + 3) := eC_ok (e := e_128) (L := L_128) (cs := cs_128) (n := 2000) (d := d + 2) (A := A_128) (μ := mu_128) (tp := true) (p0 := p_128_s) rfl ⟨m_121 (d + 1), ⟨m_126 d, ⟨m_129 d, ⟨m_199 (d + 1), trivial⟩⟩⟩⟩ rfl (.inr pre0_ok) (by decide +kernel) (fun _ => post0_ok) r_128_s (allC c_128_s_0 allN) (allC (.inl ⟨p_128_6, r_128_6, fun q0 => (allC c_128_6_0 allN)⟩) allN)
/- Tokens.scanInt ([III)I -/
noncomputable def s_130 : vM := ([(3, 8, 31, 0), (2, 100, -1, 0), (0, -2147483648, 2147483647, 0), (0, -2147483648, 2147483647, 0)], (0, -2147483648, 2147483647, 0), 0, 0, [(8, 4), (100, 0), (101, 0)])
noncomputable def e_130 : vE := (130, s_130, pre0, post0)
noncomputable def L_130 : List vE := [e_126, e_199]
def cs_130 : List vC := [(6, [(0, (3, 8, 31, 0)), (1, (2, 100, -1, 0)), (2, (0, -2147483648, 2147483647, 0)), (3, (0, -2147483648, 2147483647, 0)), (4, (0, -2147483648, 2147483647, 0)), (5, (1, 0, 0, 0))])]
def mub_130_6 (a0 a1 a2 a3 x0 x1 x2 x3 x4 x5 : Int) (h0 h : gH) : Nat := (2147483648 - x4).toNat
def A_130 : Int → List Int → gH → gH → Prop := fun c xs h0 h => True
def mu_130 : Int → List Int → gH → gH → Nat := fun c xs h0 h => match c.toNat with
  | 6 => (match xs with
    | [a0, a1, a2, a3, x0, x1, x2, x3, x4, x5] => mub_130_6 a0 a1 a2 a3 x0 x1 x2 x3 x4 x5 h0 h
    | _ => 0)
  | _ => 0
theorem q_130_0 {n0 n1 n2 n3 n4 : Int} {H0 : gH}  : True ∧ ∀ q, none = some q → mub_130_6 n0 n1 n2 n3 n0 n1 n2 n3 n2 n4 H0 H0 < q := by
  exact ⟨trivial, fun q hq => nomatch hq⟩
theorem c_130_s_0 : vOkm T0 (eP e_130 L_130 A_130 mu_130 none) 4 ([], (4000, [0, 1, 2, 3, 2, 4], [0], 6)) := vOk_in fun ρ η h => by
  obtain ⟨_⟩ := h
  exact q_130_0 (n0 := ρ 0) (n1 := ρ 1) (n2 := ρ 2) (n3 := ρ 3) (n4 := ρ 4) (H0 := η 0) 
def p_130_s : List vG := [([], (4000, [0, 1, 2, 3, 2, 4], [0], 6))]
theorem r_130_s : vCovO true (eR0 e_130 L_130 cs_130 2000) p_130_s = true := by decide +kernel
theorem q_130_1 {q0 : Nat} {n0 n1 n2 n3 n4 n5 n6 n7 n8 n9 n10 n11 : Int} {H0 H1 H2 : gH} (f0 : n0 ≤ 2147483647) (f1 : (-2147483648) ≤ n0) (f2 : n1 ≤ 2147483647) (f3 : (-2147483648) ≤ n1) (f4 : (hLe T0 H0 H1 ∧ hFr s_130.2.2.2.2 H0 H1 ∧ hWt T0 H1) ∧ (True ∧ True) ∧ some q0 = some (mub_130_6 n2 n3 n4 n5 n6 n7 n8 n1 n0 n9 H0 H1)) (f5 : n0 < n1) (f6 : n10 = w32 (n0 + 1)) : True ∧ ∀ q, some q0 = some q → mub_130_6 n2 n3 n4 n5 n6 n7 n8 n1 n10 n11 H0 H2 < q := by
  have g5 := Option.some.inj f4.2.2
  unfold mub_130_6 at g5
  unfold mub_130_6
  unfold w32 at *
  refine ⟨?_, fun q hq => ?_⟩
  · trivial
  · have g6 := Option.some.inj hq
    subst g6
    omega
theorem c_130_6_0 {q0 : Nat} : vOkm T0 (eP e_130 L_130 A_130 mu_130 (some q0)) 4 ([(10, [21, 8], [], 1), (42, [8, 7], [], 0), (5000, [0, 1, 2, 3, 4, 5, 6, 7, 8, 9], [0, 1], 6), (90, [7], [], -2147483648), (91, [7], [], 2147483647), (90, [8], [], -2147483648), (91, [8], [], 2147483647)], (4000, [4, 5, 6, 7, 21, 20], [4], 6)) := vOk_in fun ρ η h => by
  obtain ⟨f0, f1, f2, f3, f4, f5, f6, _⟩ := h
  exact q_130_1 (q0 := q0) (n0 := ρ 8) (n1 := ρ 7) (n2 := ρ 0) (n3 := ρ 1) (n4 := ρ 2) (n5 := ρ 3) (n6 := ρ 4) (n7 := ρ 5) (n8 := ρ 6) (n9 := ρ 9) (n10 := ρ 21) (n11 := ρ 20) (H0 := η 0) (H1 := η 1) (H2 := η 4) f6 f5 f4 f3 f2 f1 f0
def p_130_6 : List vG := [([(10, [21, 8], [], 1), (42, [8, 7], [], 0), (5000, [0, 1, 2, 3, 4, 5, 6, 7, 8, 9], [0, 1], 6), (90, [7], [], -2147483648), (91, [7], [], 2147483647), (90, [8], [], -2147483648), (91, [8], [], 2147483647)], (4000, [4, 5, 6, 7, 21, 20], [4], 6))]
theorem r_130_6 : vCovO true (eRc e_130 L_130 cs_130 2000 (6, [(0, (3, 8, 31, 0)), (1, (2, 100, -1, 0)), (2, (0, -2147483648, 2147483647, 0)), (3, (0, -2147483648, 2147483647, 0)), (4, (0, -2147483648, 2147483647, 0)), (5, (1, 0, 0, 0))])) p_130_6 = true := by decide +kernel
theorem m_130 (d : Nat) : eC e_130 (d + 3) := eC_ok (e := e_130) (L := L_130) (cs := cs_130) (n := 2000) (d := d + 2) (A := A_130) (μ := mu_130) (tp := true) (p0 := p_130_s) rfl ⟨m_126 d, ⟨m_199 (d + 1), trivial⟩⟩ rfl (.inr pre0_ok) (by decide +kernel) (fun _ => post0_ok) r_130_s (allC c_130_s_0 allN) (allC (.inl ⟨p_130_6, r_130_6, fun q0 => (allC c_130_6_0 allN)⟩) allN)
/- Tokens.pairKind (I)I -/
noncomputable def s_131 : vM := ([(0, -2147483648, 2147483647, 0)], (0, -2147483648, 2147483647, 0), 0, 0, [])
noncomputable def e_131 : vE := (131, s_131, pre0, post0)
noncomputable def L_131 : List vE := []
def cs_131 : List vC := []
def A_131 : Int → List Int → gH → gH → Prop := fun c xs h0 h => True
def mu_131 : Int → List Int → gH → gH → Nat := fun c xs h0 h => 0
def p_131_s : List vG := []
theorem r_131_s : vCovO true (eR0 e_131 L_131 cs_131 2000) p_131_s = true := by decide +kernel
theorem m_131 (d : Nat) : eC e_131 (d + 1) := eC_ok (e := e_131) (L := L_131) (cs := cs_131) (n := 2000) (d := d + 0) (A := A_131) (μ := mu_131) (tp := true) (p0 := p_131_s) rfl trivial rfl (.inr pre0_ok) (by decide +kernel) (fun _ => post0_ok) r_131_s allN allN
/- Tokens.signKind (I)I -/
noncomputable def s_132 : vM := ([(0, -2147483648, 2147483647, 0)], (0, -2147483648, 2147483647, 0), 0, 0, [])
noncomputable def e_132 : vE := (132, s_132, pre0, post0)
noncomputable def L_132 : List vE := []
def cs_132 : List vC := []
def A_132 : Int → List Int → gH → gH → Prop := fun c xs h0 h => True
def mu_132 : Int → List Int → gH → gH → Nat := fun c xs h0 h => 0
def p_132_s : List vG := []
theorem r_132_s : vCovO true (eR0 e_132 L_132 cs_132 2000) p_132_s = true := by decide +kernel
theorem m_132 (d : Nat) : eC e_132 (d + 1) := eC_ok (e := e_132) (L := L_132) (cs := cs_132) (n := 2000) (d := d + 0) (A := A_132) (μ := mu_132) (tp := true) (p0 := p_132_s) rfl trivial rfl (.inr pre0_ok) (by decide +kernel) (fun _ => post0_ok) r_132_s allN allN
/- Tokens.scanOne ([III)I -/
noncomputable def s_127 : vM := ([(3, 8, 31, 0), (2, 100, -1, 0), (0, -2147483648, 2147483647, 0), (0, -2147483648, 2147483647, 0)], (0, -2147483648, 2147483647, 0), 0, 0, [(8, 4), (100, 0), (101, 0)])
noncomputable def e_127 : vE := (127, s_127, pre0, post0)
noncomputable def L_127 : List vE := [e_126, e_128, e_130, e_131, e_132, e_199]
def cs_127 : List vC := []
def A_127 : Int → List Int → gH → gH → Prop := fun c xs h0 h => True
def mu_127 : Int → List Int → gH → gH → Nat := fun c xs h0 h => 0
def p_127_s : List vG := []
theorem r_127_s : vCovO true (eR0 e_127 L_127 cs_127 2000) p_127_s = true := by decide +kernel
theorem m_127 (d : Nat) : eC e_127 (d + 4) := eC_ok (e := e_127) (L := L_127) (cs := cs_127) (n := 2000) (d := d + 3) (A := A_127) (μ := mu_127) (tp := true) (p0 := p_127_s) rfl ⟨m_126 (d + 1), ⟨m_128 d, ⟨m_130 d, ⟨m_131 (d + 2), ⟨m_132 (d + 2), ⟨m_199 (d + 2), trivial⟩⟩⟩⟩⟩⟩ rfl (.inr pre0_ok) (by decide +kernel) (fun _ => post0_ok) r_127_s allN allN
