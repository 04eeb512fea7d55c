/-! CONTRACTS of methods (printed by wip/gen/emit.py). -/
/- Reader.fill (LMixStage$Sheet;)V -/
noncomputable def s_82 : vM := ([(3, 4, 30, 0), (3, 6, -1, 0)], (9, 0, 0, 0), 1, 1, [(1, 0), (1, 1), (1, 2), (1, 3), (1, 4), (1, 5), (1, 6), (1, 7), (1, 8), (1, 9), (1, 10), (1, 11), (1, 12), (1, 13), (1, 14), (1, 15), (1, 16), (1, 18), (6, 2), (6, 3), (6, 4), (106, 0), (796, 0)])
def preb_82 (a0 a1 : Int) (h : gH) : Prop := hK h (a1).toNat = 6 ∧ hV h (a1).toNat 2 ≤ 40
def pre_82 : List Int → gH → Prop := fun xs h => match xs with
  | [a0, a1] => preb_82 a0 a1 h
  | _ => False
def postb_82 (a0 a1 : Int) (h0 h : gH) : Prop := (h.length : Int) ≤ h0.length + 2 * (hV h (a1).toNat 2 - hV h0 (a1).toNat 2) ∧ hV h (a1).toNat 2 ≤ 40
def post_82 : List Int → gH → gH → Prop := fun xs h0 h => match xs with
  | [a0, a1] => postb_82 a0 a1 h0 h
  | _ => True
noncomputable def e_82 : vE := (82, s_82, pre_82, post_82)
noncomputable def L_82 : List vE := [e_83]
def cs_82 : List vC := []
def A_82 : Int → List Int → gH → gH → Prop := fun c xs h0 h => True
def mu_82 : Int → List Int → gH → gH → Nat := fun c xs h0 h => 0
theorem q_82_0 {n0 n1 n2 n3 n4 n5 : Int} {H0 : gH} (f0 : 0 ≤ n0) (f1 : n1 = 30) (f2 : hWt T0 H0 ∧ preb_82 n1 n0 H0) (f3 : n2 ≤ 2147483647) (f4 : (-2147483648) ≤ n2) (f5 : n2 = hV H0 (n1).toNat 13) (f6 : n3 = (-1)) (f7 : n4 = 0) (f8 : n5 = 0) : preb_83 8 n1 n0 n2 n3 n4 n5 H0 := by
  unfold preb_82 at f2
  unfold preb_83
  have e0 : n2 = hV H0 30 13 := (by rw [f1] at f5; exact f5 : n2 = hV H0 30 13)
  subst e0
  first | trivial | omega
theorem c_82_s_0 : vOkm T0 (eP e_82 L_82 A_82 mu_82 none) 2 ([(0, [5], [], 0), (0, [4], [], 0), (0, [3], [], -1), (20, [2, 0], [0], 13), (90, [2], [], -2147483648), (91, [2], [], 2147483647), (6000, [0, 1], [0], 0), (0, [0], [], 30), (51, [1], [], 0)], (2083, [0, 1, 2, 3, 4, 5], [0], 0)) := vOk_inI fun ρ η f0 f1 f2 f3 f4 f5 f6 f7 f8 => q_82_0 (n0 := ρ 1) (n1 := ρ 0) (n2 := ρ 2) (n3 := ρ 3) (n4 := ρ 4) (n5 := ρ 5) (H0 := η 0) f8 f7 f6 f5 f4 f3 f2 f1 f0
theorem q_82_1 {n0 n1 n2 n3 n4 n5 : Int} {H0 H1 : gH} (f0 : 0 ≤ n0) (f1 : n1 = 30) (f2 : hWt T0 H0 ∧ preb_82 n1 n0 H0) (f3 : n2 ≤ 2147483647) (f4 : (-2147483648) ≤ n2) (f5 : n2 = hV H0 (n1).toNat 13) (f6 : n3 = (-1)) (f7 : n4 = 0) (f8 : n5 = 0) (f9 : (hLe T0 H0 H1 ∧ hFr s_83.2.2.2.2 H0 H1 ∧ ((1 : Int) = 0 → H1.length = H0.length) ∧ hWt T0 H1) ∧ postb_83 n1 n0 n2 n3 n4 n5 H0 H1) : postb_82 n1 n0 H0 H1 := by
  unfold preb_82 at f2
  unfold postb_83 at f9
  unfold postb_82
  have e0 : n2 = hV H0 30 13 := (by rw [f1] at f5; exact f5 : n2 = hV H0 30 13)
  subst e0
  omega
theorem c_82_s_1 : vOkm T0 (eP e_82 L_82 A_82 mu_82 none) 2 ([(1083, [0, 1, 2, 3, 4, 5], [0, 1], 1), (0, [5], [], 0), (0, [4], [], 0), (0, [3], [], -1), (20, [2, 0], [0], 13), (90, [2], [], -2147483648), (91, [2], [], 2147483647), (6000, [0, 1], [0], 0), (0, [0], [], 30), (51, [1], [], 0)], (3000, [], [1], 12)) := vOk_inI fun ρ η f0 f1 f2 f3 f4 f5 f6 f7 f8 f9 => q_82_1 (n0 := ρ 1) (n1 := ρ 0) (n2 := ρ 2) (n3 := ρ 3) (n4 := ρ 4) (n5 := ρ 5) (H0 := η 0) (H1 := η 1) f9 f8 f7 f6 f5 f4 f3 f2 f1 f0
def p_82_s : List vG := [([(0, [5], [], 0), (0, [4], [], 0), (0, [3], [], -1), (20, [2, 0], [0], 13), (90, [2], [], -2147483648), (91, [2], [], 2147483647), (6000, [0, 1], [0], 0), (0, [0], [], 30), (51, [1], [], 0)], (2083, [0, 1, 2, 3, 4, 5], [0], 0)),
  ([(1083, [0, 1, 2, 3, 4, 5], [0, 1], 1), (0, [5], [], 0), (0, [4], [], 0), (0, [3], [], -1), (20, [2, 0], [0], 13), (90, [2], [], -2147483648), (91, [2], [], 2147483647), (6000, [0, 1], [0], 0), (0, [0], [], 30), (51, [1], [], 0)], (3000, [], [1], 12))]
theorem r_82_s : vCovO false (eR0 e_82 L_82 cs_82 2000) p_82_s = true := by decide +kernel
theorem m_82 (d : Nat) : eC e_82 (d + 13) := eC_ok (e := e_82) (L := L_82) (cs := cs_82) (n := 2000) (d := d + 12) (A := A_82) (μ := mu_82) (tp := false) (p0 := p_82_s) rfl ⟨m_83 d, trivial⟩ rfl (.inl rfl) (by decide +kernel) (fun z => nomatch z) r_82_s (allC c_82_s_0 (allC c_82_s_1 allN)) allN
/- MixStage.tellSheet ()V -/
noncomputable def s_193 : vM := ([(3, 11, 7, 0)], (9, 0, 0, 0), 1, 1, [(1, 0), (1, 1), (1, 2), (1, 3), (1, 4), (1, 5), (1, 6), (1, 7), (1, 8), (1, 9), (1, 10), (1, 11), (1, 12), (1, 13), (1, 14), (1, 15), (1, 16), (1, 18), (3, 4), (6, 2), (6, 3), (6, 4), (11, 4), (104, 0), (106, 0), (796, 0)])
def preb_193 (a0 : Int) (h : gH) : Prop := True
def pre_193 : List Int → gH → Prop := fun xs h => match xs with
  | [a0] => preb_193 a0 h
  | _ => False
def postb_193 (a0 : Int) (h0 h : gH) : Prop := (h.length : Int) ≤ h0.length + 82 * (hV h 7 4 - hV h0 7 4)
def post_193 : List Int → gH → gH → Prop := fun xs h0 h => match xs with
  | [a0] => postb_193 a0 h0 h
  | _ => True
noncomputable def e_193 : vE := (193, s_193, pre_193, post_193)
noncomputable def L_193 : List vE := [e_56, e_82]
def cs_193 : List vC := [(20, [(0, (3, 11, 7, 0))]), (35, [(0, (3, 11, 7, 0)), (1, (3, 6, -1, 0))])]
def Ab_193_20 (a0 x0 : Int) (h0 h : gH) : Prop := 0 ≤ hV h 7 4 ∧ hV h 7 4 < 8 ∧ h.length = h0.length ∧ hV h 7 4 = hV h0 7 4
def mub_193_20 (a0 x0 : Int) (h0 h : gH) : Nat := 1
def Ab_193_35 (a0 x0 x1 : Int) (h0 h : gH) : Prop := 0 ≤ hV h 7 4 ∧ hV h 7 4 < 8 ∧ hK h (x1).toNat = 6 ∧ hV h (x1).toNat 2 = 0 ∧ h.length = h0.length + 2 ∧ hV h 7 4 = hV h0 7 4
def mub_193_35 (a0 x0 x1 : Int) (h0 h : gH) : Nat := 0
def A_193 : Int → List Int → gH → gH → Prop := fun c xs h0 h => match c.toNat with
  | 20 => 0 ≤ hV h 7 4 ∧ hV h 7 4 < 8 ∧ h.length = h0.length ∧ hV h 7 4 = hV h0 7 4
  | 35 => (match xs with
    | [a0, x0, x1] => Ab_193_35 a0 x0 x1 h0 h
    | _ => False)
  | _ => True
def mu_193 : Int → List Int → gH → gH → Nat := fun c xs h0 h => match c.toNat with
  | 20 => 1
  | 35 => 0
  | _ => 0
theorem q_193_0 {n0 n1 : Int} {H0 : gH} (f0 : n0 = 7) (f1 : hWt T0 H0 ∧ preb_193 n0 H0) (f2 : n1 ≤ 8) (f3 : 0 ≤ n1) (f4 : n1 = hV H0 (n0).toNat 4) (f5 : n1 < 0) : postb_193 n0 H0 H0 := by
  unfold preb_193 at f1
  unfold postb_193
  have e0 : n1 = hV H0 7 4 := (by rw [f0] at f4; exact f4 : n1 = hV H0 7 4)
  subst e0
  omega
theorem c_193_s_0 : vOkm T0 (eP e_193 L_193 A_193 mu_193 none) 1 ([(32, [1], [], 0), (20, [1, 0], [0], 4), (90, [1], [], 0), (91, [1], [], 8), (6000, [0], [0], 0), (0, [0], [], 7)], (3000, [], [0], 19)) := vOk_inI fun ρ η f0 f1 f2 f3 f4 f5 => q_193_0 (n0 := ρ 0) (n1 := ρ 1) (H0 := η 0) f5 f4 f3 f2 f1 f0
theorem q_193_1 {n0 n1 n2 n3 n4 : Int} {H0 : gH} (f0 : n0 = 7) (f1 : hWt T0 H0 ∧ preb_193 n0 H0) (f2 : n1 ≤ 8) (f3 : 0 ≤ n1) (f4 : n1 = hV H0 (n0).toNat 4) (f5 : 0 ≤ n1) (f6 : n2 ≤ 8) (f7 : 0 ≤ n2) (f8 : n2 = hV H0 (n0).toNat 4) (f9 : n3 = 9) (f10 : n3 = hV H0 (n0).toNat 3) (f11 : n4 = (hN H0 (n3).toNat : Int)) (f12 : n4 = 8) (f13 : n2 < n4) : Ab_193_20 n0 n0 H0 H0 ∧ ∀ q, none = some q → mub_193_20 n0 n0 H0 H0 < q := by
  unfold preb_193 at f1
  unfold Ab_193_20
  have e0 : n1 = hV H0 7 4 := (by rw [f0] at f4; exact f4 : n1 = hV H0 7 4)
  have e1 : n2 = hV H0 7 4 := (by rw [f0] at f8; exact f8 : n2 = hV H0 7 4)
  subst e0
  subst e1
  refine ⟨?_, fun q hq => ?_⟩
  · omega
  · exact nomatch hq
theorem c_193_s_1 : vOkm T0 (eP e_193 L_193 A_193 mu_193 none) 1 ([(42, [2, 4], [], 0), (0, [4], [], 8), (21, [4, 3], [0], 0), (20, [3, 0], [0], 3), (0, [3], [], 9), (20, [2, 0], [0], 4), (90, [2], [], 0), (91, [2], [], 8), (33, [1], [], 0), (20, [1, 0], [0], 4), (90, [1], [], 0), (91, [1], [], 8), (6000, [0], [0], 0), (0, [0], [], 7)], (4000, [0], [0], 20)) := vOk_inI fun ρ η f0 f1 f2 f3 f4 f5 f6 f7 f8 f9 f10 f11 f12 f13 => q_193_1 (n0 := ρ 0) (n1 := ρ 1) (n2 := ρ 2) (n3 := ρ 3) (n4 := ρ 4) (H0 := η 0) f13 f12 f11 f10 f9 f8 f7 f6 f5 f4 f3 f2 f1 f0
theorem q_193_2 {n0 n1 n2 n3 n4 : Int} {H0 : gH} (f0 : n0 = 7) (f1 : hWt T0 H0 ∧ preb_193 n0 H0) (f2 : n1 ≤ 8) (f3 : 0 ≤ n1) (f4 : n1 = hV H0 (n0).toNat 4) (f5 : 0 ≤ n1) (f6 : n2 ≤ 8) (f7 : 0 ≤ n2) (f8 : n2 = hV H0 (n0).toNat 4) (f9 : n3 = 9) (f10 : n3 = hV H0 (n0).toNat 3) (f11 : n4 = (hN H0 (n3).toNat : Int)) (f12 : n4 = 8) (f13 : n4 ≤ n2) : postb_193 n0 H0 H0 := by
  unfold preb_193 at f1
  unfold postb_193
  have e0 : n1 = hV H0 7 4 := (by rw [f0] at f4; exact f4 : n1 = hV H0 7 4)
  have e1 : n2 = hV H0 7 4 := (by rw [f0] at f8; exact f8 : n2 = hV H0 7 4)
  subst e0
  subst e1
  omega
theorem c_193_s_2 : vOkm T0 (eP e_193 L_193 A_193 mu_193 none) 1 ([(43, [2, 4], [], 0), (0, [4], [], 8), (21, [4, 3], [0], 0), (20, [3, 0], [0], 3), (0, [3], [], 9), (20, [2, 0], [0], 4), (90, [2], [], 0), (91, [2], [], 8), (33, [1], [], 0), (20, [1, 0], [0], 4), (90, [1], [], 0), (91, [1], [], 8), (6000, [0], [0], 0), (0, [0], [], 7)], (3000, [], [0], 19)) := vOk_inI fun ρ η f0 f1 f2 f3 f4 f5 f6 f7 f8 f9 f10 f11 f12 f13 => q_193_2 (n0 := ρ 0) (n1 := ρ 1) (n2 := ρ 2) (n3 := ρ 3) (n4 := ρ 4) (H0 := η 0) f13 f12 f11 f10 f9 f8 f7 f6 f5 f4 f3 f2 f1 f0
def p_193_s : List vG := [([(32, [1], [], 0), (20, [1, 0], [0], 4), (90, [1], [], 0), (91, [1], [], 8), (6000, [0], [0], 0), (0, [0], [], 7)], (3000, [], [0], 19)),
  ([(42, [2, 4], [], 0), (0, [4], [], 8), (21, [4, 3], [0], 0), (20, [3, 0], [0], 3), (0, [3], [], 9), (20, [2, 0], [0], 4), (90, [2], [], 0), (91, [2], [], 8), (33, [1], [], 0), (20, [1, 0], [0], 4), (90, [1], [], 0), (91, [1], [], 8), (6000, [0], [0], 0), (0, [0], [], 7)], (4000, [0], [0], 20)),
  ([(43, [2, 4], [], 0), (0, [4], [], 8), (21, [4, 3], [0], 0), (20, [3, 0], [0], 3), (0, [3], [], 9), (20, [2, 0], [0], 4), (90, [2], [], 0), (91, [2], [], 8), (33, [1], [], 0), (20, [1, 0], [0], 4), (90, [1], [], 0), (91, [1], [], 8), (6000, [0], [0], 0), (0, [0], [], 7)], (3000, [], [0], 19))]
theorem r_193_s : vCovO false (eR0 e_193 L_193 cs_193 2000) p_193_s = true := by decide +kernel
theorem kF_193_7_8 : vFree s_193.2.2.2.2 7 8 = true := by decide +kernel
theorem q_193_3 {q0 : Nat} {n0 n1 n2 n3 : Int} {H0 H1 : gH} (f0 : 0 ≤ n0) (f1 : n1 = 7) (f2 : n2 = 7) (f3 : (hLe T0 H0 H1 ∧ hFr s_193.2.2.2.2 H0 H1 ∧ hWt T0 H1) ∧ (Ab_193_35 n2 n1 n0 H0 H1 ∧ preb_193 n2 H0) ∧ some q0 = some (mub_193_35 n2 n1 n0 H0 H1)) (f4 : n3 = 30) (f5 : n3 = hV H1 (n1).toNat 8) : preb_82 n3 n0 H1 := by
  have g4 := f3.2.1.1
  unfold Ab_193_35 at g4
  have g3 := f3.2.1.2
  unfold preb_193 at g3
  have g5 := Option.some.inj f3.2.2
  unfold mub_193_35 at g5
  unfold preb_82
  have e0 : hV H1 7 8 = hV H0 7 8 := f3.1.2.1.1 7 8 kF_193_7_8
  first | trivial | omega
theorem c_193_35_0 {q0 : Nat} : vOkm T0 (eP e_193 L_193 A_193 mu_193 (some q0)) 1 ([(20, [3, 1], [1], 8), (0, [3], [], 30), (5000, [0, 1, 2], [0, 1], 35), (0, [0], [], 7), (0, [1], [], 7), (51, [2], [], 0)], (2082, [3, 2], [1], 0)) := vOk_inI fun ρ η f0 f1 f2 f3 f4 f5 => q_193_3 (q0 := q0) (n0 := ρ 2) (n1 := ρ 1) (n2 := ρ 0) (n3 := ρ 3) (H0 := η 0) (H1 := η 1) f5 f4 f3 f2 f1 f0
theorem kF_82_7_6 : vFree s_82.2.2.2.2 7 6 = true := by decide +kernel
theorem kF_193_7_6 : vFree s_193.2.2.2.2 7 6 = true := by decide +kernel
theorem kF_56_7_4 : vFree s_56.2.2.2.2 7 4 = true := by decide +kernel
theorem kF_82_7_4 : vFree s_82.2.2.2.2 7 4 = true := by decide +kernel
theorem q_193_4 {q0 : Nat} {n0 n1 n2 n3 n4 n5 : Int} {H0 H1 H2 H3 : gH} (f0 : 0 ≤ n0) (f1 : n1 = 7) (f2 : n2 = 7) (f3 : (hLe T0 H0 H1 ∧ hFr s_193.2.2.2.2 H0 H1 ∧ hWt T0 H1) ∧ (Ab_193_35 n2 n1 n0 H0 H1 ∧ preb_193 n2 H0) ∧ some q0 = some (mub_193_35 n2 n1 n0 H0 H1)) (f4 : n3 = 30) (f5 : n3 = hV H1 (n1).toNat 8) (f6 : (hLe T0 H1 H2 ∧ hFr s_82.2.2.2.2 H1 H2 ∧ ((1 : Int) = 0 → H2.length = H1.length) ∧ hWt T0 H2) ∧ postb_82 n3 n0 H1 H2) (f7 : n4 = 19) (f8 : n4 = hV H2 (n1).toNat 6) (f9 : (hLe T0 H2 H3 ∧ hFr s_56.2.2.2.2 H2 H3 ∧ ((0 : Int) = 0 → H3.length = H2.length) ∧ hWt T0 H3) ∧ True) (f10 : n5 ≤ 8) (f11 : 0 ≤ n5) (f12 : n5 = hV H3 (n1).toNat 4) : 0 ≤ n5 ∧ n5 < 8 := by
  have g4 := f3.2.1.1
  unfold Ab_193_35 at g4
  have g3 := f3.2.1.2
  unfold preb_193 at g3
  have g5 := Option.some.inj f3.2.2
  unfold mub_193_35 at g5
  unfold postb_82 at f6
  have e0 : hV H1 7 8 = hV H0 7 8 := f3.1.2.1.1 7 8 kF_193_7_8
  have e1 : hV H2 7 6 = hV H1 7 6 := f6.1.2.1.1 7 6 kF_82_7_6
  have e2 : hV H1 7 6 = hV H0 7 6 := f3.1.2.1.1 7 6 kF_193_7_6
  have e5 : n5 = hV H1 7 4 := (by rw [f1] at f12; exact f12 : n5 = hV H3 7 4).trans (((f9.1.2.1.1 7 4 kF_56_7_4)).trans (f6.1.2.1.1 7 4 kF_82_7_4))
  have l9 := f9.1.2.2.1 rfl
  subst e5
  omega
theorem c_193_35_1 {q0 : Nat} : vOkm T0 (eP e_193 L_193 A_193 mu_193 (some q0)) 1 ([(20, [6, 1], [3], 4), (90, [6], [], 0), (91, [6], [], 8), (1056, [4], [2, 3], 0), (20, [4, 1], [2], 6), (0, [4], [], 19), (1082, [3, 2], [1, 2], 1), (20, [3, 1], [1], 8), (0, [3], [], 30), (5000, [0, 1, 2], [0, 1], 35), (0, [0], [], 7), (0, [1], [], 7), (51, [2], [], 0)], (70, [6], [], 8)) := vOk_inI fun ρ η f0 f1 f2 f3 f4 f5 f6 f7 f8 f9 f10 f11 f12 => q_193_4 (q0 := q0) (n0 := ρ 2) (n1 := ρ 1) (n2 := ρ 0) (n3 := ρ 3) (n4 := ρ 4) (n5 := ρ 6) (H0 := η 0) (H1 := η 1) (H2 := η 2) (H3 := η 3) f12 f11 f10 f9 f8 f7 f6 f5 f4 f3 f2 f1 f0
theorem kF_56_7_3 : vFree s_56.2.2.2.2 7 3 = true := by decide +kernel
theorem kF_82_7_3 : vFree s_82.2.2.2.2 7 3 = true := by decide +kernel
theorem kF_193_7_3 : vFree s_193.2.2.2.2 7 3 = true := by decide +kernel
theorem q_193_5 {q0 : Nat} {n0 n1 n2 n3 n4 n5 n6 n7 n8 n9 : Int} {H0 H1 H2 H3 H4 : gH} (f0 : 0 ≤ n0) (f1 : n1 = 7) (f2 : n2 = 7) (f3 : (hLe T0 H0 H1 ∧ hFr s_193.2.2.2.2 H0 H1 ∧ hWt T0 H1) ∧ (Ab_193_35 n2 n1 n0 H0 H1 ∧ preb_193 n2 H0) ∧ some q0 = some (mub_193_35 n2 n1 n0 H0 H1)) (f4 : n3 = 30) (f5 : n3 = hV H1 (n1).toNat 8) (f6 : (hLe T0 H1 H2 ∧ hFr s_82.2.2.2.2 H1 H2 ∧ ((1 : Int) = 0 → H2.length = H1.length) ∧ hWt T0 H2) ∧ postb_82 n3 n0 H1 H2) (f7 : n4 = 19) (f8 : n4 = hV H2 (n1).toNat 6) (f9 : (hLe T0 H2 H3 ∧ hFr s_56.2.2.2.2 H2 H3 ∧ ((0 : Int) = 0 → H3.length = H2.length) ∧ hWt T0 H3) ∧ True) (f10 : n5 = 9) (f11 : n5 = hV H3 (n1).toNat 3) (f12 : n6 ≤ 8) (f13 : 0 ≤ n6) (f14 : n6 = hV H3 (n1).toNat 4) (f15 : hUpd H4 H3 n5 n6 n0) (f16 : n7 ≤ 8) (f17 : 0 ≤ n7) (f18 : n7 = hV H4 (n1).toNat 4) (f19 : n8 = 1) (f20 : n9 = w32 (n7 + n8)) : 0 ≤ n9 := by
  have g4 := f3.2.1.1
  unfold Ab_193_35 at g4
  have g3 := f3.2.1.2
  unfold preb_193 at g3
  have g5 := Option.some.inj f3.2.2
  unfold mub_193_35 at g5
  unfold postb_82 at f6
  have e0 : hV H1 7 8 = hV H0 7 8 := f3.1.2.1.1 7 8 kF_193_7_8
  have e1 : hV H2 7 6 = hV H1 7 6 := f6.1.2.1.1 7 6 kF_82_7_6
  have e2 : hV H1 7 6 = hV H0 7 6 := f3.1.2.1.1 7 6 kF_193_7_6
  have e3 : hV H3 7 3 = hV H2 7 3 := f9.1.2.1.1 7 3 kF_56_7_3
  have e4 : hV H2 7 3 = hV H1 7 3 := f6.1.2.1.1 7 3 kF_82_7_3
  have e5 : hV H1 7 3 = hV H0 7 3 := f3.1.2.1.1 7 3 kF_193_7_3
  have e8 : n6 = hV H1 7 4 := (by rw [f1] at f14; exact f14 : n6 = hV H3 7 4).trans (((f9.1.2.1.1 7 4 kF_56_7_4)).trans (f6.1.2.1.1 7 4 kF_82_7_4))
  have e10 : n7 = hV H1 7 4 := (by rw [f1] at f18; exact f18 : n7 = hV H4 7 4).trans (((uPlace f15 7 4 (iS (show n5 = ((9 : Nat) : Int) from f10) rfl))).trans (((f9.1.2.1.1 7 4 kF_56_7_4)).trans (f6.1.2.1.1 7 4 kF_82_7_4)))
  have l9 := f9.1.2.2.1 rfl
  have l15 := f15.2.1
  subst e8
  subst e10
  unfold w32 at f20
  omega
theorem c_193_35_2 {q0 : Nat} : vOkm T0 (eP e_193 L_193 A_193 mu_193 (some q0)) 1 ([(1, [9, 7, 8], [], 0), (0, [8], [], 1), (20, [7, 1], [4], 4), (90, [7], [], 0), (91, [7], [], 8), (80, [5, 6, 2], [4, 3], 2), (20, [6, 1], [3], 4), (90, [6], [], 0), (91, [6], [], 8), (20, [5, 1], [3], 3), (0, [5], [], 9), (1056, [4], [2, 3], 0), (20, [4, 1], [2], 6), (0, [4], [], 19), (1082, [3, 2], [1, 2], 1), (20, [3, 1], [1], 8), (0, [3], [], 30), (5000, [0, 1, 2], [0, 1], 35), (0, [0], [], 7), (0, [1], [], 7), (51, [2], [], 0)], (90, [9], [], 0)) := vOk_inI fun ρ η f0 f1 f2 f3 f4 f5 f6 f7 f8 f9 f10 f11 f12 f13 f14 f15 f16 f17 f18 f19 f20 => q_193_5 (q0 := q0) (n0 := ρ 2) (n1 := ρ 1) (n2 := ρ 0) (n3 := ρ 3) (n4 := ρ 4) (n5 := ρ 5) (n6 := ρ 6) (n7 := ρ 7) (n8 := ρ 8) (n9 := ρ 9) (H0 := η 0) (H1 := η 1) (H2 := η 2) (H3 := η 3) (H4 := η 4) f20 f19 f18 f17 f16 f15 f14 f13 f12 f11 f10 f9 f8 f7 f6 f5 f4 f3 f2 f1 f0
theorem q_193_6 {q0 : Nat} {n0 n1 n2 n3 n4 n5 n6 n7 n8 n9 : Int} {H0 H1 H2 H3 H4 : gH} (f0 : 0 ≤ n0) (f1 : n1 = 7) (f2 : n2 = 7) (f3 : (hLe T0 H0 H1 ∧ hFr s_193.2.2.2.2 H0 H1 ∧ hWt T0 H1) ∧ (Ab_193_35 n2 n1 n0 H0 H1 ∧ preb_193 n2 H0) ∧ some q0 = some (mub_193_35 n2 n1 n0 H0 H1)) (f4 : n3 = 30) (f5 : n3 = hV H1 (n1).toNat 8) (f6 : (hLe T0 H1 H2 ∧ hFr s_82.2.2.2.2 H1 H2 ∧ ((1 : Int) = 0 → H2.length = H1.length) ∧ hWt T0 H2) ∧ postb_82 n3 n0 H1 H2) (f7 : n4 = 19) (f8 : n4 = hV H2 (n1).toNat 6) (f9 : (hLe T0 H2 H3 ∧ hFr s_56.2.2.2.2 H2 H3 ∧ ((0 : Int) = 0 → H3.length = H2.length) ∧ hWt T0 H3) ∧ True) (f10 : n5 = 9) (f11 : n5 = hV H3 (n1).toNat 3) (f12 : n6 ≤ 8) (f13 : 0 ≤ n6) (f14 : n6 = hV H3 (n1).toNat 4) (f15 : hUpd H4 H3 n5 n6 n0) (f16 : n7 ≤ 8) (f17 : 0 ≤ n7) (f18 : n7 = hV H4 (n1).toNat 4) (f19 : n8 = 1) (f20 : n9 = w32 (n7 + n8)) : n9 ≤ 8 := by
  have g4 := f3.2.1.1
  unfold Ab_193_35 at g4
  have g3 := f3.2.1.2
  unfold preb_193 at g3
  have g5 := Option.some.inj f3.2.2
  unfold mub_193_35 at g5
  unfold postb_82 at f6
  have e0 : hV H1 7 8 = hV H0 7 8 := f3.1.2.1.1 7 8 kF_193_7_8
  have e1 : hV H2 7 6 = hV H1 7 6 := f6.1.2.1.1 7 6 kF_82_7_6
  have e2 : hV H1 7 6 = hV H0 7 6 := f3.1.2.1.1 7 6 kF_193_7_6
  have e3 : hV H3 7 3 = hV H2 7 3 := f9.1.2.1.1 7 3 kF_56_7_3
  have e4 : hV H2 7 3 = hV H1 7 3 := f6.1.2.1.1 7 3 kF_82_7_3
  have e5 : hV H1 7 3 = hV H0 7 3 := f3.1.2.1.1 7 3 kF_193_7_3
  have e8 : n6 = hV H1 7 4 := (by rw [f1] at f14; exact f14 : n6 = hV H3 7 4).trans (((f9.1.2.1.1 7 4 kF_56_7_4)).trans (f6.1.2.1.1 7 4 kF_82_7_4))
  have e10 : n7 = hV H1 7 4 := (by rw [f1] at f18; exact f18 : n7 = hV H4 7 4).trans (((uPlace f15 7 4 (iS (show n5 = ((9 : Nat) : Int) from f10) rfl))).trans (((f9.1.2.1.1 7 4 kF_56_7_4)).trans (f6.1.2.1.1 7 4 kF_82_7_4)))
  have l9 := f9.1.2.2.1 rfl
  have l15 := f15.2.1
  subst e8
  subst e10
  unfold w32 at f20
  omega
theorem c_193_35_3 {q0 : Nat} : vOkm T0 (eP e_193 L_193 A_193 mu_193 (some q0)) 1 ([(1, [9, 7, 8], [], 0), (0, [8], [], 1), (20, [7, 1], [4], 4), (90, [7], [], 0), (91, [7], [], 8), (80, [5, 6, 2], [4, 3], 2), (20, [6, 1], [3], 4), (90, [6], [], 0), (91, [6], [], 8), (20, [5, 1], [3], 3), (0, [5], [], 9), (1056, [4], [2, 3], 0), (20, [4, 1], [2], 6), (0, [4], [], 19), (1082, [3, 2], [1, 2], 1), (20, [3, 1], [1], 8), (0, [3], [], 30), (5000, [0, 1, 2], [0, 1], 35), (0, [0], [], 7), (0, [1], [], 7), (51, [2], [], 0)], (91, [9], [], 8)) := vOk_inI fun ρ η f0 f1 f2 f3 f4 f5 f6 f7 f8 f9 f10 f11 f12 f13 f14 f15 f16 f17 f18 f19 f20 => q_193_6 (q0 := q0) (n0 := ρ 2) (n1 := ρ 1) (n2 := ρ 0) (n3 := ρ 3) (n4 := ρ 4) (n5 := ρ 5) (n6 := ρ 6) (n7 := ρ 7) (n8 := ρ 8) (n9 := ρ 9) (H0 := η 0) (H1 := η 1) (H2 := η 2) (H3 := η 3) (H4 := η 4) f20 f19 f18 f17 f16 f15 f14 f13 f12 f11 f10 f9 f8 f7 f6 f5 f4 f3 f2 f1 f0
theorem q_193_7 {q0 : Nat} {n0 n1 n2 n3 n4 n5 n6 n7 n8 n9 n10 : Int} {H0 H1 H2 H3 H4 H5 : gH} (f0 : 0 ≤ n0) (f1 : n1 = 7) (f2 : n2 = 7) (f3 : (hLe T0 H0 H1 ∧ hFr s_193.2.2.2.2 H0 H1 ∧ hWt T0 H1) ∧ (Ab_193_35 n2 n1 n0 H0 H1 ∧ preb_193 n2 H0) ∧ some q0 = some (mub_193_35 n2 n1 n0 H0 H1)) (f4 : n3 = 30) (f5 : n3 = hV H1 (n1).toNat 8) (f6 : (hLe T0 H1 H2 ∧ hFr s_82.2.2.2.2 H1 H2 ∧ ((1 : Int) = 0 → H2.length = H1.length) ∧ hWt T0 H2) ∧ postb_82 n3 n0 H1 H2) (f7 : n4 = 19) (f8 : n4 = hV H2 (n1).toNat 6) (f9 : (hLe T0 H2 H3 ∧ hFr s_56.2.2.2.2 H2 H3 ∧ ((0 : Int) = 0 → H3.length = H2.length) ∧ hWt T0 H3) ∧ True) (f10 : n5 = 9) (f11 : n5 = hV H3 (n1).toNat 3) (f12 : n6 ≤ 8) (f13 : 0 ≤ n6) (f14 : n6 = hV H3 (n1).toNat 4) (f15 : hUpd H4 H3 n5 n6 n0) (f16 : n7 ≤ 8) (f17 : 0 ≤ n7) (f18 : n7 = hV H4 (n1).toNat 4) (f19 : n8 = 1) (f20 : n9 = w32 (n7 + n8)) (f21 : n10 = 4) (f22 : hUpd H5 H4 n1 n10 n9) : postb_193 n2 H0 H5 := by
  have g4 := f3.2.1.1
  unfold Ab_193_35 at g4
  have g3 := f3.2.1.2
  unfold preb_193 at g3
  have g5 := Option.some.inj f3.2.2
  unfold mub_193_35 at g5
  unfold postb_82 at f6
  unfold postb_193
  have e0 : hV H1 7 8 = hV H0 7 8 := f3.1.2.1.1 7 8 kF_193_7_8
  have e1 : hV H2 7 6 = hV H1 7 6 := f6.1.2.1.1 7 6 kF_82_7_6
  have e2 : hV H1 7 6 = hV H0 7 6 := f3.1.2.1.1 7 6 kF_193_7_6
  have e3 : hV H3 7 3 = hV H2 7 3 := f9.1.2.1.1 7 3 kF_56_7_3
  have e4 : hV H2 7 3 = hV H1 7 3 := f6.1.2.1.1 7 3 kF_82_7_3
  have e5 : hV H1 7 3 = hV H0 7 3 := f3.1.2.1.1 7 3 kF_193_7_3
  have e8 : n6 = hV H1 7 4 := (by rw [f1] at f14; exact f14 : n6 = hV H3 7 4).trans (((f9.1.2.1.1 7 4 kF_56_7_4)).trans (f6.1.2.1.1 7 4 kF_82_7_4))
  have e10 : n7 = hV H1 7 4 := (by rw [f1] at f18; exact f18 : n7 = hV H4 7 4).trans (((uPlace f15 7 4 (iS (show n5 = ((9 : Nat) : Int) from f10) rfl))).trans (((f9.1.2.1.1 7 4 kF_56_7_4)).trans (f6.1.2.1.1 7 4 kF_82_7_4)))
  have e12 : hV H5 7 4 = n9 := (uSame f22 7 4 f1.symm f21.symm)
  have l9 := f9.1.2.2.1 rfl
  have l15 := f15.2.1
  have l22 := f22.2.1
  try simp only [e12] at g3
  try simp only [e12]
  subst e8
  subst e10
  unfold w32 at f20
  omega
theorem c_193_35_4 {q0 : Nat} : vOkm T0 (eP e_193 L_193 A_193 mu_193 (some q0)) 1 ([(80, [1, 10, 9], [5, 4], 0), (0, [10], [], 4), (1, [9, 7, 8], [], 0), (0, [8], [], 1), (20, [7, 1], [4], 4), (90, [7], [], 0), (91, [7], [], 8), (80, [5, 6, 2], [4, 3], 2), (20, [6, 1], [3], 4), (90, [6], [], 0), (91, [6], [], 8), (20, [5, 1], [3], 3), (0, [5], [], 9), (1056, [4], [2, 3], 0), (20, [4, 1], [2], 6), (0, [4], [], 19), (1082, [3, 2], [1, 2], 1), (20, [3, 1], [1], 8), (0, [3], [], 30), (5000, [0, 1, 2], [0, 1], 35), (0, [0], [], 7), (0, [1], [], 7), (51, [2], [], 0)], (3000, [], [5], 70)) := vOk_inI fun ρ η f0 f1 f2 f3 f4 f5 f6 f7 f8 f9 f10 f11 f12 f13 f14 f15 f16 f17 f18 f19 f20 f21 f22 => q_193_7 (q0 := q0) (n0 := ρ 2) (n1 := ρ 1) (n2 := ρ 0) (n3 := ρ 3) (n4 := ρ 4) (n5 := ρ 5) (n6 := ρ 6) (n7 := ρ 7) (n8 := ρ 8) (n9 := ρ 9) (n10 := ρ 10) (H0 := η 0) (H1 := η 1) (H2 := η 2) (H3 := η 3) (H4 := η 4) (H5 := η 5) f22 f21 f20 f19 f18 f17 f16 f15 f14 f13 f12 f11 f10 f9 f8 f7 f6 f5 f4 f3 f2 f1 f0
def p_193_35 : List vG := [([(20, [3, 1], [1], 8), (0, [3], [], 30), (5000, [0, 1, 2], [0, 1], 35), (0, [0], [], 7), (0, [1], [], 7), (51, [2], [], 0)], (2082, [3, 2], [1], 0)),
  ([(20, [6, 1], [3], 4), (90, [6], [], 0), (91, [6], [], 8), (1056, [4], [2, 3], 0), (20, [4, 1], [2], 6), (0, [4], [], 19), (1082, [3, 2], [1, 2], 1), (20, [3, 1], [1], 8), (0, [3], [], 30), (5000, [0, 1, 2], [0, 1], 35), (0, [0], [], 7), (0, [1], [], 7), (51, [2], [], 0)], (70, [6], [], 8)),
  ([(1, [9, 7, 8], [], 0), (0, [8], [], 1), (20, [7, 1], [4], 4), (90, [7], [], 0), (91, [7], [], 8), (80, [5, 6, 2], [4, 3], 2), (20, [6, 1], [3], 4), (90, [6], [], 0), (91, [6], [], 8), (20, [5, 1], [3], 3), (0, [5], [], 9), (1056, [4], [2, 3], 0), (20, [4, 1], [2], 6), (0, [4], [], 19), (1082, [3, 2], [1, 2], 1), (20, [3, 1], [1], 8), (0, [3], [], 30), (5000, [0, 1, 2], [0, 1], 35), (0, [0], [], 7), (0, [1], [], 7), (51, [2], [], 0)], (90, [9], [], 0)),
  ([(1, [9, 7, 8], [], 0), (0, [8], [], 1), (20, [7, 1], [4], 4), (90, [7], [], 0), (91, [7], [], 8), (80, [5, 6, 2], [4, 3], 2), (20, [6, 1], [3], 4), (90, [6], [], 0), (91, [6], [], 8), (20, [5, 1], [3], 3), (0, [5], [], 9), (1056, [4], [2, 3], 0), (20, [4, 1], [2], 6), (0, [4], [], 19), (1082, [3, 2], [1, 2], 1), (20, [3, 1], [1], 8), (0, [3], [], 30), (5000, [0, 1, 2], [0, 1], 35), (0, [0], [], 7), (0, [1], [], 7), (51, [2], [], 0)], (91, [9], [], 8)),
  ([(80, [1, 10, 9], [5, 4], 0), (0, [10], [], 4), (1, [9, 7, 8], [], 0), (0, [8], [], 1), (20, [7, 1], [4], 4), (90, [7], [], 0), (91, [7], [], 8), (80, [5, 6, 2], [4, 3], 2), (20, [6, 1], [3], 4), (90, [6], [], 0), (91, [6], [], 8), (20, [5, 1], [3], 3), (0, [5], [], 9), (1056, [4], [2, 3], 0), (20, [4, 1], [2], 6), (0, [4], [], 19), (1082, [3, 2], [1, 2], 1), (20, [3, 1], [1], 8), (0, [3], [], 30), (5000, [0, 1, 2], [0, 1], 35), (0, [0], [], 7), (0, [1], [], 7), (51, [2], [], 0)], (3000, [], [5], 70))]
theorem r_193_35 : vCovO false (eRc e_193 L_193 cs_193 2000 (35, [(0, (3, 11, 7, 0)), (1, (3, 6, -1, 0))])) p_193_35 = true := by decide +kernel
theorem z_gf {K : Nat → gL → List Value → gH → Option gO} {pc a b i : Nat} {lv : gL} {r : List Value} {lh : gH} {F : Nat → Value} {v : Value} (h : lh[i]? = some (.inl (a, F))) (hv : F b = v) (q : Nat) (hq : pc + 3 = q) : gI_get K pc a b lv (.ref i :: r) lh = K q lv (v :: r) lh := by
  subst hq hv
  unfold gI_get
  dsimp only
  rw [h]
  dsimp only
  rw [Nat.beq_refl]
  rfl
theorem z_virt0 {K : Nat → gL → List Value → gH → Option gO} {ih : Nat → Nat → Nat → gL → List Value → gH → Option gO} {d pc a i k : Nat} {v : Int} {lv : gL} {r : List Value} {lh : gH} {F : Nat → Value} (h : lh[i]? = some (.inl (k, F))) (hk : Int.toNat v = k) (hr : gCat r = true) (hm : Nat.ble 1 (gMax a) = true) : gI_virt K (gCall ih (d + 1)) pc a 0 v lv (.ref i :: r) lh = gBack K pc lv 3 r (ih a d 0 (lv_args 0 [.ref i]) [] lh) := by
  unfold gI_virt
  rw [List.drop_zero]
  dsimp only
  rw [h]
  dsimp only
  rw [hk, hr, show (k == k) = true from beq_self_eq_true k]
  show gBack K pc lv 3 r (bif Nat.ble 1 (gMax a) then ih a d 0 (lv_args 0 [.ref i]) [] lh else none) = _
  rw [hm]
  rfl
theorem z_back1 {K : Nat → gL → List Value → gH → Option gO} {lv : gL} {n : Nat} {r : List Value} {x : Option gO} {h : gH} {p : Nat} {pc : Nat} {v : Value} (e : x = some (h, p, [v])) (q : Nat) (hq : pc + n = q) : gBack K pc lv n r x = K q lv (v :: r) h := by
  subst hq
  rw [e]
  rfl
theorem st_193_20 {n d : Nat} {lv : gL} {st : List Value} {lh : gH} : gRun (n + 1) 193 d 20 lv st lh = gI_new (gRun n 193 d) 20 6 lv st lh := gs (e := (20, .new 20, 6, 0, 0, [1029, 4042, 1017])) rfl
theorem st_193_23 {n d : Nat} {lv : gL} {st : List Value} {lh : gH} : gRun (n + 1) 193 d 23 lv st lh = gI_dup (gRun n 193 d) 23 lv st lh := gs (e := (23, .dup, 0, 0, 0, [])) rfl
theorem st_193_24 {n d : Nat} {lv : gL} {st : List Value} {lh : gH} : gRun (n + 1) 193 d 24 lv st lh = gI_aload (gRun n 193 d) 24 lv st lh 0 1 := gs (e := (24, .aload_n 0, 0, 0, 0, [])) rfl
theorem st_193_25 {n d : Nat} {lv : gL} {st : List Value} {lh : gH} : gRun (n + 1) 193 d 25 lv st lh = gI_get (gRun n 193 d) 25 11 6 lv st lh := gs (e := (25, .getfield 39, 11, 6, 0, [3011])) rfl
theorem st_193_28 {n d : Nat} {lv : gL} {st : List Value} {lh : gH} : gRun (n + 1) 193 d 28 lv st lh = gI_virt (gRun n 193 d) (gCall (gRun n) d) 28 52 0 3 lv st lh := gs (e := (28, .invokevirtual 112, 52, 0, 3, [4043, 4045, 50, 1003, 4046])) rfl
theorem st_193_31 {n d : Nat} {lv : gL} {st : List Value} {lh : gH} : gRun (n + 1) 193 d 31 lv st lh = gI_spec (gRun n 193 d) (gCall (gRun n) d) (Nat.ble 1 d) 31 114 1 lv st lh := gs (e := (31, .invokespecial 338, 114, 1, 1, [4047, 4048, 1017, 4049])) rfl
theorem st_193_34 {n d : Nat} {lv : gL} {st : List Value} {lh : gH} : gRun (n + 1) 193 d 34 lv st lh = gI_astore (gRun n 193 d) 34 lv st lh 1 1 := gs (e := (34, .astore_n 1, 0, 0, 0, [])) rfl
theorem st_52_0 {n d : Nat} {lv : gL} {st : List Value} {lh : gH} : gRun (n + 1) 52 d 0 lv st lh = gI_aload (gRun n 52 d) 0 lv st lh 0 1 := gs (e := (0, .aload_n 0, 0, 0, 0, [])) rfl
theorem st_52_1 {n d : Nat} {lv : gL} {st : List Value} {lh : gH} : gRun (n + 1) 52 d 1 lv st lh = gI_get (gRun n 52 d) 1 3 3 lv st lh := gs (e := (1, .getfield 21, 3, 3, 0, [1089])) rfl
theorem run_52 {H : gH} {G : Nat → Value} {x : Int32} (h : H[19]? = some (.inl (3, G))) (hx : G 3 = .int x) (d : Nat) : gRun 6 52 (d + 1) 0 (lv_args 0 [.ref 19]) [] H = some (H, 6, [.int (x - 1)]) := by
  refine st_52_0.trans ?_
  refine (z_aload (x := 19) rfl 1 rfl).trans ?_
  refine st_52_1.trans ?_
  refine (z_gf h hx 4 rfl).trans ?_
  refine Eq.trans (b := gI_iret (gRt 52) 6 [.int (x - 1)] H) rfl ?_
  show (bif decide (narrow .int (.int (x - 1)) = .int (x - 1)) then _ else none) = _
  rw [decide_eq_true (show narrow .int (.int (x - 1)) = .int (x - 1) from rfl)]
  rfl
theorem go_193 {n d : Nat} {lv : gL} {lh : gH} {o : gO} {F G : Nat → Value} {x : Int32} (h7 : 7 ≤ lh.length) (h19 : 19 < lh.length) (g0 : gLk 0 lv = some (.ref 7)) (hF : lh[7]? = some (.inl (11, F))) (hF6 : F 6 = .ref 19) (hG : lh[19]? = some (.inl (3, G))) (hG3 : G 3 = .int x) (e : gRun n 193 (d + 2) 35 (gSt1 lv 1 (.ref lh.length)) [] (lh ++ cs_new_114 (x - 1) lh.length) = some o) : gRun (n + 70) 193 (d + 2) 20 lv [] lh = some o := by
  have r1 := run_114 (h := lh) h7 d (x - 1)
  have r2 := gRun_le (n := 20) (m := n + 64) (Nat.le_trans (by decide) (Nat.le_add_left 64 n)) _ _ _ _ _ _ _ r1
  have r3 := gRun_le (n := n) (m := n + 63) (Nat.le_add_right n 63) _ _ _ _ _ _ _ e
  have k7 : (lh ++ [.inl (6, fun j => defaultValue (gYt 6 j))])[7]? = some (.inl (11, F)) := (app_lo (Nat.lt_trans (by decide) h19)).trans hF
  have k19 : (lh ++ [.inl (6, fun j => defaultValue (gYt 6 j))])[19]? = some (.inl (3, G)) := (app_lo h19).trans hG
  have r4 := run_52 k19 hG3 d
  have r5 := gRun_le (n := 6) (m := n + 65) (Nat.le_trans (by decide) (Nat.le_add_left 65 n)) _ _ _ _ _ _ _ r4
  refine st_193_20.trans ?_
  refine (z_new 23 rfl).trans ?_
  refine st_193_23.trans ?_
  refine (z_dup 24 rfl).trans ?_
  refine st_193_24.trans ?_
  refine (z_aload g0 25 rfl).trans ?_
  refine st_193_25.trans ?_
  refine (z_gf k7 hF6 28 rfl).trans ?_
  refine st_193_28.trans ?_
  refine (z_virt0 k19 rfl rfl rfl).trans ?_
  refine (z_back1 r5 31 rfl).trans ?_
  refine st_193_31.trans ?_
  refine (z_spec1 rfl rfl).trans ?_
  refine (z_back r2 34 rfl).trans ?_
  refine st_193_34.trans ?_
  refine (z_astore 35 rfl).trans ?_
  exact r3
theorem hand_193_20 (d : Nat) : eHand e_193 A_193 mu_193 cs_193 (d + 1) (20, [(0, (3, 11, 7, 0))]) := by
  intro Q xs h0 q hp ih lv lh ys hW hL hA hAs hmu
  obtain ⟨b0, rfl⟩ : ∃ b0, xs = [b0] := by
    rcases xs with _ | ⟨b0, _ | ⟨b1, xs⟩⟩ <;> first | exact hp.elim | exact ⟨_, rfl⟩
  have h3 := hW.1.len
  have h7 : 7 ≤ lh.length := Nat.le_trans (by decide) h3
  have h23 : 23 < lh.length := Nat.lt_of_lt_of_le (by decide) h3
  obtain ⟨y0, t0, rfl, ⟨w0, g0, z0, k0, _⟩, hA0⟩ := vAts_inv hA
  have ht := vAts_nil hA0
  subst ht
  have h19 : 19 < lh.length := Nat.lt_of_lt_of_le (by decide) h3
  obtain ⟨i0, rfl, q0⟩ := k0
  have hi : (i0 : Int) = 7 := by
    rcases q0.2.2.1 with z | z
    · exact absurd z (by decide)
    · rw [if_pos (by decide)] at z
      exact z
  have hi2 : i0 = 7 := Int.ofNat.inj hi
  subst hi2
  obtain ⟨F, f1, f2, f3⟩ := q0.obj (by decide)
  have hv := hW.2 7 6 q0.lt (by rw [f2]; decide)
  rw [q0.2.1.1, f3] at hv
  have hn : F 6 ≠ .null := by
    rw [← f3]
    exact q0.2.2.2 6 (by rw [f2]; decide) (by decide +kernel)
  obtain ⟨j, j1, j2, j3⟩ : ∃ i, F 6 = .ref i ∧ isA T0 lh 3 19 i ∧ (2 ≤ 21 → i = 21 - 2) := by
    rcases (show F 6 = .null ∨ ∃ i, F 6 = .ref i ∧ isA T0 lh 3 19 i ∧ (2 ≤ 21 → i = 21 - 2) from hv) with z | z
    · exact absurd z hn
    · exact z
  have j4 : j = 19 := j3 (by decide)
  subst j4
  obtain ⟨G, p1, p2, p3⟩ := j2.obj (by decide)
  have hx := hW.2 19 3 j2.lt (by rw [p2]; decide)
  rw [j2.2.1.1, p3] at hx
  obtain ⟨x, x1, _, _⟩ := (show ∃ x : Int32, G 3 = .int x ∧ (-2147483648 : Int) ≤ x.toInt ∧ x.toInt ≤ 2147483647 from hx)
  have hnew := new_114 hW (x - 1)
  have hat : vAts T0 (lh ++ cs_new_114 (x - 1) lh.length) (gSt1 lv 1 (.ref lh.length)) ([(0, (3, 11, 7, 0))] ++ [(1, (3, 6, -1, 0))]) ([y0] ++ [(lh.length : Int)]) := vAts.snoc (q := (1, (3, 6, -1, 0))) ⟨.ref lh.length, rfl, rfl, (show vOK T0 _ (3, 6, -1, 0) (.ref lh.length) from ⟨_, rfl, hnew.2⟩), rfl⟩ (hA.sto (hLe.app _ _) (by decide))
  have hl : (lh ++ cs_new_114 (x - 1) lh.length).length = lh.length + 2 := by rw [List.length_append]; rfl
  have ha : 0 ≤ hV (lh ++ cs_new_114 (x - 1) lh.length) 7 4 ∧ hV (lh ++ cs_new_114 (x - 1) lh.length) 7 4 < 8 ∧ hK (lh ++ cs_new_114 (x - 1) lh.length) ((lh.length : Int)).toNat = 6 ∧ hV (lh ++ cs_new_114 (x - 1) lh.length) ((lh.length : Int)).toNat 2 = 0 ∧ (lh ++ cs_new_114 (x - 1) lh.length).length = h0.length + 2 ∧ hV (lh ++ cs_new_114 (x - 1) lh.length) 7 4 = hV h0 7 4 := by
    obtain ⟨a1, a2, a3, a4⟩ : 0 ≤ hV lh 7 4 ∧ hV lh 7 4 < 8 ∧ lh.length = h0.length ∧ hV lh 7 4 = hV h0 7 4 := hAs
    have p3 : hV (lh ++ cs_new_114 (x - 1) lh.length) 7 4 = hV lh 7 4 := by
      unfold hV hVal
      rw [app_lo q0.lt]
    have p4 : hV (lh ++ cs_new_114 (x - 1) lh.length) lh.length 2 = 0 := by
      unfold hV
      rw [show hVal (lh ++ cs_new_114 (x - 1) lh.length) lh.length 2 = F_114 (x - 1) lh.length 2 from (hK_obj (h := lh) (cs := cs_new_114 (x - 1) lh.length) (i := 0) (k := 6) (F := F_114 (x - 1) lh.length) rfl (by decide)).2.2 2]
      rfl
    rw [p3, Int.toNat_natCast, hnew.2.2.1.1, p4, hl, a3]
    exact ⟨a1, a2, rfl, rfl, rfl, a4⟩
  obtain ⟨n, o, e, hq⟩ := ih 0 (by rw [← (show (1 : Nat) = q from hmu)]; decide) (35, [(0, (3, 11, 7, 0)), (1, (3, 6, -1, 0))]) (by unfold cs_193; simp) _ _ _ hnew.1 (hL.trans (hLw.app _ _ (Nat.le_of_ble_eq_true rfl))) hat ha rfl
  exact ⟨n + 70, o, go_193 h7 h19 g0 f1 j1 p1 x1 e, hq⟩

theorem m_193 (d : Nat) : eC e_193 (d + 14) := eC_ok (e := e_193) (L := L_193) (cs := cs_193) (n := 2000) (d := d + 13) (A := A_193) (μ := mu_193) (tp := false) (p0 := p_193_s) rfl ⟨m_56 (d + 11), ⟨m_82 d, trivial⟩⟩ rfl (.inl rfl) (by decide +kernel) (fun z => nomatch z) r_193_s (allC c_193_s_0 (allC c_193_s_1 (allC c_193_s_2 allN))) (allC (.inr (hand_193_20 (d + 12))) (allC (.inl ⟨p_193_35, r_193_35, fun q0 => (allC c_193_35_0 (allC c_193_35_1 (allC c_193_35_2 (allC c_193_35_3 (allC c_193_35_4 allN)))))⟩) allN))
/- MixStage.read ()I -/
noncomputable def s_157 : vM := ([(3, 11, 7, 0)], (0, -2147483648, 2147483647, 0), 0, 1, [(1, 0), (1, 1), (1, 2), (1, 3), (1, 4), (1, 5), (1, 6), (1, 7), (1, 8), (1, 9), (1, 10), (1, 11), (1, 12), (1, 13), (1, 14), (1, 15), (1, 16), (1, 18), (3, 4), (4, 1), (4, 2), (4, 3), (4, 4), (4, 5), (4, 6), (4, 7), (4, 8), (4, 13), (4, 15), (5, 0), (5, 2), (6, 2), (6, 3), (6, 4), (8, 4), (11, 1), (11, 2), (11, 4), (11, 5), (100, 0), (104, 0), (106, 0), (716, 0), (725, 0), (733, 0), (740, 0), (796, 0)])
def postb_157 (r a0 : Int) (h0 h : gH) : Prop := (h.length : Int) ≤ h0.length + 82 * (hV h 7 4 - hV h0 7 4)
def post_157 : List Int → gH → gH → Prop := fun xs h0 h => match xs with
  | [r, a0] => postb_157 r a0 h0 h
  | _ => True
noncomputable def e_157 : vE := (157, s_157, pre0, post_157)
noncomputable def L_157 : List vE := [e_60, e_62, e_63, e_193]
def cs_157 : List vC := []
def A_157 : Int → List Int → gH → gH → Prop := fun c xs h0 h => True
def mu_157 : Int → List Int → gH → gH → Nat := fun c xs h0 h => 0
theorem kF_60_7_8 : vFree s_60.2.2.2.2 7 8 = true := by decide +kernel
theorem kF_62_7_4 : vFree s_62.2.2.2.2 7 4 = true := by decide +kernel
theorem kF_60_7_4 : vFree s_60.2.2.2.2 7 4 = true := by decide +kernel
theorem q_157_0 {n0 n1 n2 n3 n4 n5 n6 n7 n8 n9 n10 n11 : Int} {H0 H1 H2 H3 H4 : gH} (f0 : n0 = 7) (f1 : hWt T0 H0 ∧ True) (f2 : n1 ≤ 8) (f3 : 0 ≤ n1) (f4 : n1 = hV H0 (n0).toNat 4) (f5 : n2 = 8) (f6 : n1 < n2) (f7 : n3 = 30) (f8 : n3 = hV H0 (n0).toNat 8) (f9 : n4 = 8) (f10 : n4 = hV H0 (n0).toNat 0) (f11 : n5 ≤ 2147483647) (f12 : (-2147483648) ≤ n5) (f13 : n5 = hV H0 (n0).toNat 1) (f14 : n6 ≤ 2147483647) (f15 : (-2147483648) ≤ n6) (f16 : (hLe T0 H0 H1 ∧ hFr s_60.2.2.2.2 H0 H1 ∧ ((0 : Int) = 0 → H1.length = H0.length) ∧ hWt T0 H1) ∧ True) (f17 : n7 = 30) (f18 : n7 = hV H1 (n0).toNat 8) (f19 : n8 ≤ 2147483647) (f20 : (-2147483648) ≤ n8) (f21 : (hLe T0 H1 H2 ∧ hFr s_62.2.2.2.2 H1 H2 ∧ ((0 : Int) = 0 → H2.length = H1.length) ∧ hWt T0 H2) ∧ True) (f22 : n9 = 2) (f23 : hUpd H3 H2 n0 n9 n8) (f24 : n10 = 0) (f25 : n11 = 1) (f26 : hUpd H4 H3 n0 n11 n10) (f27 : n6 ≠ 0) (f28 : n6 ≠ 0) : postb_157 n6 n0 H0 H4 := by
  unfold postb_157
  have e0 : n1 = hV H0 7 4 := (by rw [f0] at f4; exact f4 : n1 = hV H0 7 4)
  have e1 : n5 = hV H0 7 1 := (by rw [f0] at f13; exact f13 : n5 = hV H0 7 1)
  have e2 : hV H1 7 8 = hV H0 7 8 := f16.1.2.1.1 7 8 kF_60_7_8
  have e7 : hV H4 7 4 = hV H0 7 4 := ((uSlot f26 7 4 (iS (show n11 = ((1 : Nat) : Int) from f25) rfl))).trans (((uSlot f23 7 4 (iS (show n9 = ((2 : Nat) : Int) from f22) rfl))).trans (((f21.1.2.1.1 7 4 kF_62_7_4)).trans (f16.1.2.1.1 7 4 kF_60_7_4)))
  have l16 := f16.1.2.2.1 rfl
  have l21 := f21.1.2.2.1 rfl
  have l23 := f23.2.1
  have l26 := f26.2.1
  try simp only [e7]
  subst e0
  subst e1
  omega
theorem c_157_s_0 : vOkm T0 (eP e_157 L_157 A_157 mu_157 none) 1 ([(31, [6], [], 0), (31, [6], [], 0), (80, [0, 11, 10], [4, 3], 0), (0, [11], [], 1), (0, [10], [], 0), (80, [0, 9, 8], [3, 2], 0), (0, [9], [], 2), (1062, [8, 7], [1, 2], 0), (90, [8], [], -2147483648), (91, [8], [], 2147483647), (20, [7, 0], [1], 8), (0, [7], [], 30), (1060, [6, 3, 4, 5], [0, 1], 0), (90, [6], [], -2147483648), (91, [6], [], 2147483647), (20, [5, 0], [0], 1), (90, [5], [], -2147483648), (91, [5], [], 2147483647), (20, [4, 0], [0], 0), (0, [4], [], 8), (20, [3, 0], [0], 8), (0, [3], [], 30), (42, [1, 2], [], 0), (0, [2], [], 8), (20, [1, 0], [0], 4), (90, [1], [], 0), (91, [1], [], 8), (6000, [0], [0], 0), (0, [0], [], 7)], (3000, [6], [4], 85)) := vOk_inI fun ρ η f0 f1 f2 f3 f4 f5 f6 f7 f8 f9 f10 f11 f12 f13 f14 f15 f16 f17 f18 f19 f20 f21 f22 f23 f24 f25 f26 f27 f28 => q_157_0 (n0 := ρ 0) (n1 := ρ 1) (n2 := ρ 2) (n3 := ρ 3) (n4 := ρ 4) (n5 := ρ 5) (n6 := ρ 6) (n7 := ρ 7) (n8 := ρ 8) (n9 := ρ 9) (n10 := ρ 10) (n11 := ρ 11) (H0 := η 0) (H1 := η 1) (H2 := η 2) (H3 := η 3) (H4 := η 4) f28 f27 f26 f25 f24 f23 f22 f21 f20 f19 f18 f17 f16 f15 f14 f13 f12 f11 f10 f9 f8 f7 f6 f5 f4 f3 f2 f1 f0
theorem q_157_1 {n0 n1 n2 n3 n4 n5 n6 n7 n8 n9 : Int} {H0 H1 H2 H3 H4 : gH} (f0 : n0 = 7) (f1 : hWt T0 H0 ∧ True) (f2 : n1 = 30) (f3 : n1 = hV H0 (n0).toNat 8) (f4 : n2 = 8) (f5 : n2 = hV H0 (n0).toNat 0) (f6 : n3 ≤ 2147483647) (f7 : (-2147483648) ≤ n3) (f8 : n3 = hV H0 (n0).toNat 1) (f9 : n4 ≤ 2147483647) (f10 : (-2147483648) ≤ n4) (f11 : (hLe T0 H0 H1 ∧ hFr s_60.2.2.2.2 H0 H1 ∧ ((0 : Int) = 0 → H1.length = H0.length) ∧ hWt T0 H1) ∧ True) (f12 : n5 = 30) (f13 : n5 = hV H1 (n0).toNat 8) (f14 : n6 ≤ 2147483647) (f15 : (-2147483648) ≤ n6) (f16 : (hLe T0 H1 H2 ∧ hFr s_62.2.2.2.2 H1 H2 ∧ ((0 : Int) = 0 → H2.length = H1.length) ∧ hWt T0 H2) ∧ True) (f17 : n7 = 2) (f18 : hUpd H3 H2 n0 n7 n6) (f19 : n8 = 0) (f20 : n9 = 1) (f21 : hUpd H4 H3 n0 n9 n8) (f22 : n4 ≠ 0) (f23 : n4 = 0) : preb_193 n0 H4 := by
  unfold preb_193
  have e0 : n3 = hV H0 7 1 := (by rw [f0] at f8; exact f8 : n3 = hV H0 7 1)
  have e1 : hV H1 7 8 = hV H0 7 8 := f11.1.2.1.1 7 8 kF_60_7_8
  have l11 := f11.1.2.2.1 rfl
  have l16 := f16.1.2.2.1 rfl
  have l18 := f18.2.1
  have l21 := f21.2.1
  subst e0
  first | trivial | omega
theorem c_157_s_1 : vOkm T0 (eP e_157 L_157 A_157 mu_157 none) 1 ([(30, [6], [], 0), (31, [6], [], 0), (80, [0, 11, 10], [4, 3], 0), (0, [11], [], 1), (0, [10], [], 0), (80, [0, 9, 8], [3, 2], 0), (0, [9], [], 2), (1062, [8, 7], [1, 2], 0), (90, [8], [], -2147483648), (91, [8], [], 2147483647), (20, [7, 0], [1], 8), (0, [7], [], 30), (1060, [6, 3, 4, 5], [0, 1], 0), (90, [6], [], -2147483648), (91, [6], [], 2147483647), (20, [5, 0], [0], 1), (90, [5], [], -2147483648), (91, [5], [], 2147483647), (20, [4, 0], [0], 0), (0, [4], [], 8), (20, [3, 0], [0], 8), (0, [3], [], 30), (6000, [0], [0], 0), (0, [0], [], 7)], (2193, [0], [4], 0)) := vOk_inI fun ρ η f0 f1 f2 f3 f4 f5 f6 f7 f8 f9 f10 f11 f12 f13 f14 f15 f16 f17 f18 f19 f20 f21 f22 f23 => q_157_1 (n0 := ρ 0) (n1 := ρ 3) (n2 := ρ 4) (n3 := ρ 5) (n4 := ρ 6) (n5 := ρ 7) (n6 := ρ 8) (n7 := ρ 9) (n8 := ρ 10) (n9 := ρ 11) (H0 := η 0) (H1 := η 1) (H2 := η 2) (H3 := η 3) (H4 := η 4) f23 f22 f21 f20 f19 f18 f17 f16 f15 f14 f13 f12 f11 f10 f9 f8 f7 f6 f5 f4 f3 f2 f1 f0
theorem q_157_2 {n0 n1 n2 n3 n4 n5 n6 n7 n8 n9 n10 n11 : Int} {H0 H1 H2 H3 H4 H5 : gH} (f0 : n0 = 7) (f1 : hWt T0 H0 ∧ True) (f2 : n1 ≤ 8) (f3 : 0 ≤ n1) (f4 : n1 = hV H0 (n0).toNat 4) (f5 : n2 = 8) (f6 : n1 < n2) (f7 : n3 = 30) (f8 : n3 = hV H0 (n0).toNat 8) (f9 : n4 = 8) (f10 : n4 = hV H0 (n0).toNat 0) (f11 : n5 ≤ 2147483647) (f12 : (-2147483648) ≤ n5) (f13 : n5 = hV H0 (n0).toNat 1) (f14 : n6 ≤ 2147483647) (f15 : (-2147483648) ≤ n6) (f16 : (hLe T0 H0 H1 ∧ hFr s_60.2.2.2.2 H0 H1 ∧ ((0 : Int) = 0 → H1.length = H0.length) ∧ hWt T0 H1) ∧ True) (f17 : n7 = 30) (f18 : n7 = hV H1 (n0).toNat 8) (f19 : n8 ≤ 2147483647) (f20 : (-2147483648) ≤ n8) (f21 : (hLe T0 H1 H2 ∧ hFr s_62.2.2.2.2 H1 H2 ∧ ((0 : Int) = 0 → H2.length = H1.length) ∧ hWt T0 H2) ∧ True) (f22 : n9 = 2) (f23 : hUpd H3 H2 n0 n9 n8) (f24 : n10 = 0) (f25 : n11 = 1) (f26 : hUpd H4 H3 n0 n11 n10) (f27 : n6 ≠ 0) (f28 : n6 = 0) (f29 : (hLe T0 H4 H5 ∧ hFr s_193.2.2.2.2 H4 H5 ∧ ((1 : Int) = 0 → H5.length = H4.length) ∧ hWt T0 H5) ∧ postb_193 n0 H4 H5) : postb_157 n6 n0 H0 H5 := by
  unfold postb_193 at f29
  unfold postb_157
  have e0 : n1 = hV H0 7 4 := (by rw [f0] at f4; exact f4 : n1 = hV H0 7 4)
  have e1 : n5 = hV H0 7 1 := (by rw [f0] at f13; exact f13 : n5 = hV H0 7 1)
  have e2 : hV H1 7 8 = hV H0 7 8 := f16.1.2.1.1 7 8 kF_60_7_8
  have e7 : hV H4 7 4 = hV H0 7 4 := ((uSlot f26 7 4 (iS (show n11 = ((1 : Nat) : Int) from f25) rfl))).trans (((uSlot f23 7 4 (iS (show n9 = ((2 : Nat) : Int) from f22) rfl))).trans (((f21.1.2.1.1 7 4 kF_62_7_4)).trans (f16.1.2.1.1 7 4 kF_60_7_4)))
  have l16 := f16.1.2.2.1 rfl
  have l21 := f21.1.2.2.1 rfl
  have l23 := f23.2.1
  have l26 := f26.2.1
  try simp only [e7] at f29
  subst e0
  subst e1
  omega
theorem c_157_s_2 : vOkm T0 (eP e_157 L_157 A_157 mu_157 none) 1 ([(1193, [0], [4, 5], 1), (30, [6], [], 0), (31, [6], [], 0), (80, [0, 11, 10], [4, 3], 0), (0, [11], [], 1), (0, [10], [], 0), (80, [0, 9, 8], [3, 2], 0), (0, [9], [], 2), (1062, [8, 7], [1, 2], 0), (90, [8], [], -2147483648), (91, [8], [], 2147483647), (20, [7, 0], [1], 8), (0, [7], [], 30), (1060, [6, 3, 4, 5], [0, 1], 0), (90, [6], [], -2147483648), (91, [6], [], 2147483647), (20, [5, 0], [0], 1), (90, [5], [], -2147483648), (91, [5], [], 2147483647), (20, [4, 0], [0], 0), (0, [4], [], 8), (20, [3, 0], [0], 8), (0, [3], [], 30), (42, [1, 2], [], 0), (0, [2], [], 8), (20, [1, 0], [0], 4), (90, [1], [], 0), (91, [1], [], 8), (6000, [0], [0], 0), (0, [0], [], 7)], (3000, [6], [5], 85)) := vOk_inI fun ρ η f0 f1 f2 f3 f4 f5 f6 f7 f8 f9 f10 f11 f12 f13 f14 f15 f16 f17 f18 f19 f20 f21 f22 f23 f24 f25 f26 f27 f28 f29 => q_157_2 (n0 := ρ 0) (n1 := ρ 1) (n2 := ρ 2) (n3 := ρ 3) (n4 := ρ 4) (n5 := ρ 5) (n6 := ρ 6) (n7 := ρ 7) (n8 := ρ 8) (n9 := ρ 9) (n10 := ρ 10) (n11 := ρ 11) (H0 := η 0) (H1 := η 1) (H2 := η 2) (H3 := η 3) (H4 := η 4) (H5 := η 5) f29 f28 f27 f26 f25 f24 f23 f22 f21 f20 f19 f18 f17 f16 f15 f14 f13 f12 f11 f10 f9 f8 f7 f6 f5 f4 f3 f2 f1 f0
theorem kF_62_7_8 : vFree s_62.2.2.2.2 7 8 = true := by decide +kernel
theorem q_157_3 {n0 n1 n2 n3 n4 n5 n6 n7 n8 n9 n10 n11 n12 : Int} {H0 H1 H2 H3 H4 : gH} (f0 : n0 = 7) (f1 : hWt T0 H0 ∧ True) (f2 : n1 ≤ 8) (f3 : 0 ≤ n1) (f4 : n1 = hV H0 (n0).toNat 4) (f5 : n2 = 8) (f6 : n1 < n2) (f7 : n3 = 30) (f8 : n3 = hV H0 (n0).toNat 8) (f9 : n4 = 8) (f10 : n4 = hV H0 (n0).toNat 0) (f11 : n5 ≤ 2147483647) (f12 : (-2147483648) ≤ n5) (f13 : n5 = hV H0 (n0).toNat 1) (f14 : n6 ≤ 2147483647) (f15 : (-2147483648) ≤ n6) (f16 : (hLe T0 H0 H1 ∧ hFr s_60.2.2.2.2 H0 H1 ∧ ((0 : Int) = 0 → H1.length = H0.length) ∧ hWt T0 H1) ∧ True) (f17 : n7 = 30) (f18 : n7 = hV H1 (n0).toNat 8) (f19 : n8 ≤ 2147483647) (f20 : (-2147483648) ≤ n8) (f21 : (hLe T0 H1 H2 ∧ hFr s_62.2.2.2.2 H1 H2 ∧ ((0 : Int) = 0 → H2.length = H1.length) ∧ hWt T0 H2) ∧ True) (f22 : n9 = 2) (f23 : hUpd H3 H2 n0 n9 n8) (f24 : n10 = 0) (f25 : n11 = 1) (f26 : hUpd H4 H3 n0 n11 n10) (f27 : n6 = 0) (f28 : n12 = 30) (f29 : n12 = hV H4 (n0).toNat 8) (f30 : n6 ≠ 0) : postb_157 n6 n0 H0 H4 := by
  unfold postb_157
  have e0 : n1 = hV H0 7 4 := (by rw [f0] at f4; exact f4 : n1 = hV H0 7 4)
  have e1 : n5 = hV H0 7 1 := (by rw [f0] at f13; exact f13 : n5 = hV H0 7 1)
  have e2 : hV H1 7 8 = hV H0 7 8 := f16.1.2.1.1 7 8 kF_60_7_8
  have e3 : hV H4 7 8 = hV H3 7 8 := uSlot f26 7 8 (iS (show n11 = ((1 : Nat) : Int) from f25) rfl)
  have e4 : hV H3 7 8 = hV H2 7 8 := uSlot f23 7 8 (iS (show n9 = ((2 : Nat) : Int) from f22) rfl)
  have e5 : hV H2 7 8 = hV H1 7 8 := f21.1.2.1.1 7 8 kF_62_7_8
  have e10 : hV H4 7 4 = hV H0 7 4 := ((uSlot f26 7 4 (iS (show n11 = ((1 : Nat) : Int) from f25) rfl))).trans (((uSlot f23 7 4 (iS (show n9 = ((2 : Nat) : Int) from f22) rfl))).trans (((f21.1.2.1.1 7 4 kF_62_7_4)).trans (f16.1.2.1.1 7 4 kF_60_7_4)))
  have l16 := f16.1.2.2.1 rfl
  have l21 := f21.1.2.2.1 rfl
  have l23 := f23.2.1
  have l26 := f26.2.1
  try simp only [e10]
  subst e0
  subst e1
  omega
theorem c_157_s_3 : vOkm T0 (eP e_157 L_157 A_157 mu_157 none) 1 ([(31, [6], [], 0), (20, [12, 0], [4], 8), (0, [12], [], 30), (30, [6], [], 0), (80, [0, 11, 10], [4, 3], 0), (0, [11], [], 1), (0, [10], [], 0), (80, [0, 9, 8], [3, 2], 0), (0, [9], [], 2), (1062, [8, 7], [1, 2], 0), (90, [8], [], -2147483648), (91, [8], [], 2147483647), (20, [7, 0], [1], 8), (0, [7], [], 30), (1060, [6, 3, 4, 5], [0, 1], 0), (90, [6], [], -2147483648), (91, [6], [], 2147483647), (20, [5, 0], [0], 1), (90, [5], [], -2147483648), (91, [5], [], 2147483647), (20, [4, 0], [0], 0), (0, [4], [], 8), (20, [3, 0], [0], 8), (0, [3], [], 30), (42, [1, 2], [], 0), (0, [2], [], 8), (20, [1, 0], [0], 4), (90, [1], [], 0), (91, [1], [], 8), (6000, [0], [0], 0), (0, [0], [], 7)], (3000, [6], [4], 85)) := vOk_inI fun ρ η f0 f1 f2 f3 f4 f5 f6 f7 f8 f9 f10 f11 f12 f13 f14 f15 f16 f17 f18 f19 f20 f21 f22 f23 f24 f25 f26 f27 f28 f29 f30 => q_157_3 (n0 := ρ 0) (n1 := ρ 1) (n2 := ρ 2) (n3 := ρ 3) (n4 := ρ 4) (n5 := ρ 5) (n6 := ρ 6) (n7 := ρ 7) (n8 := ρ 8) (n9 := ρ 9) (n10 := ρ 10) (n11 := ρ 11) (n12 := ρ 12) (H0 := η 0) (H1 := η 1) (H2 := η 2) (H3 := η 3) (H4 := η 4) f30 f29 f28 f27 f26 f25 f24 f23 f22 f21 f20 f19 f18 f17 f16 f15 f14 f13 f12 f11 f10 f9 f8 f7 f6 f5 f4 f3 f2 f1 f0
theorem q_157_4 {n0 n1 n2 n3 n4 n5 n6 n7 n8 n9 n10 : Int} {H0 H1 H2 H3 H4 : gH} (f0 : n0 = 7) (f1 : hWt T0 H0 ∧ True) (f2 : n1 = 30) (f3 : n1 = hV H0 (n0).toNat 8) (f4 : n2 = 8) (f5 : n2 = hV H0 (n0).toNat 0) (f6 : n3 ≤ 2147483647) (f7 : (-2147483648) ≤ n3) (f8 : n3 = hV H0 (n0).toNat 1) (f9 : n4 ≤ 2147483647) (f10 : (-2147483648) ≤ n4) (f11 : (hLe T0 H0 H1 ∧ hFr s_60.2.2.2.2 H0 H1 ∧ ((0 : Int) = 0 → H1.length = H0.length) ∧ hWt T0 H1) ∧ True) (f12 : n5 = 30) (f13 : n5 = hV H1 (n0).toNat 8) (f14 : n6 ≤ 2147483647) (f15 : (-2147483648) ≤ n6) (f16 : (hLe T0 H1 H2 ∧ hFr s_62.2.2.2.2 H1 H2 ∧ ((0 : Int) = 0 → H2.length = H1.length) ∧ hWt T0 H2) ∧ True) (f17 : n7 = 2) (f18 : hUpd H3 H2 n0 n7 n6) (f19 : n8 = 0) (f20 : n9 = 1) (f21 : hUpd H4 H3 n0 n9 n8) (f22 : n4 = 0) (f23 : n10 = 30) (f24 : n10 = hV H4 (n0).toNat 8) (f25 : n4 = 0) : preb_193 n0 H4 := by
  unfold preb_193
  have e0 : n3 = hV H0 7 1 := (by rw [f0] at f8; exact f8 : n3 = hV H0 7 1)
  have e1 : hV H1 7 8 = hV H0 7 8 := f11.1.2.1.1 7 8 kF_60_7_8
  have e2 : hV H4 7 8 = hV H3 7 8 := uSlot f21 7 8 (iS (show n9 = ((1 : Nat) : Int) from f20) rfl)
  have e3 : hV H3 7 8 = hV H2 7 8 := uSlot f18 7 8 (iS (show n7 = ((2 : Nat) : Int) from f17) rfl)
  have e4 : hV H2 7 8 = hV H1 7 8 := f16.1.2.1.1 7 8 kF_62_7_8
  have l11 := f11.1.2.2.1 rfl
  have l16 := f16.1.2.2.1 rfl
  have l18 := f18.2.1
  have l21 := f21.2.1
  subst e0
  first | trivial | omega
theorem c_157_s_4 : vOkm T0 (eP e_157 L_157 A_157 mu_157 none) 1 ([(30, [6], [], 0), (20, [12, 0], [4], 8), (0, [12], [], 30), (30, [6], [], 0), (80, [0, 11, 10], [4, 3], 0), (0, [11], [], 1), (0, [10], [], 0), (80, [0, 9, 8], [3, 2], 0), (0, [9], [], 2), (1062, [8, 7], [1, 2], 0), (90, [8], [], -2147483648), (91, [8], [], 2147483647), (20, [7, 0], [1], 8), (0, [7], [], 30), (1060, [6, 3, 4, 5], [0, 1], 0), (90, [6], [], -2147483648), (91, [6], [], 2147483647), (20, [5, 0], [0], 1), (90, [5], [], -2147483648), (91, [5], [], 2147483647), (20, [4, 0], [0], 0), (0, [4], [], 8), (20, [3, 0], [0], 8), (0, [3], [], 30), (6000, [0], [0], 0), (0, [0], [], 7)], (2193, [0], [4], 0)) := vOk_inI fun ρ η f0 f1 f2 f3 f4 f5 f6 f7 f8 f9 f10 f11 f12 f13 f14 f15 f16 f17 f18 f19 f20 f21 f22 f23 f24 f25 => q_157_4 (n0 := ρ 0) (n1 := ρ 3) (n2 := ρ 4) (n3 := ρ 5) (n4 := ρ 6) (n5 := ρ 7) (n6 := ρ 8) (n7 := ρ 9) (n8 := ρ 10) (n9 := ρ 11) (n10 := ρ 12) (H0 := η 0) (H1 := η 1) (H2 := η 2) (H3 := η 3) (H4 := η 4) f25 f24 f23 f22 f21 f20 f19 f18 f17 f16 f15 f14 f13 f12 f11 f10 f9 f8 f7 f6 f5 f4 f3 f2 f1 f0
theorem q_157_5 {n0 n1 n2 n3 n4 n5 n6 n7 n8 n9 n10 n11 n12 : Int} {H0 H1 H2 H3 H4 H5 : gH} (f0 : n0 = 7) (f1 : hWt T0 H0 ∧ True) (f2 : n1 ≤ 8) (f3 : 0 ≤ n1) (f4 : n1 = hV H0 (n0).toNat 4) (f5 : n2 = 8) (f6 : n1 < n2) (f7 : n3 = 30) (f8 : n3 = hV H0 (n0).toNat 8) (f9 : n4 = 8) (f10 : n4 = hV H0 (n0).toNat 0) (f11 : n5 ≤ 2147483647) (f12 : (-2147483648) ≤ n5) (f13 : n5 = hV H0 (n0).toNat 1) (f14 : n6 ≤ 2147483647) (f15 : (-2147483648) ≤ n6) (f16 : (hLe T0 H0 H1 ∧ hFr s_60.2.2.2.2 H0 H1 ∧ ((0 : Int) = 0 → H1.length = H0.length) ∧ hWt T0 H1) ∧ True) (f17 : n7 = 30) (f18 : n7 = hV H1 (n0).toNat 8) (f19 : n8 ≤ 2147483647) (f20 : (-2147483648) ≤ n8) (f21 : (hLe T0 H1 H2 ∧ hFr s_62.2.2.2.2 H1 H2 ∧ ((0 : Int) = 0 → H2.length = H1.length) ∧ hWt T0 H2) ∧ True) (f22 : n9 = 2) (f23 : hUpd H3 H2 n0 n9 n8) (f24 : n10 = 0) (f25 : n11 = 1) (f26 : hUpd H4 H3 n0 n11 n10) (f27 : n6 = 0) (f28 : n12 = 30) (f29 : n12 = hV H4 (n0).toNat 8) (f30 : n6 = 0) (f31 : (hLe T0 H4 H5 ∧ hFr s_193.2.2.2.2 H4 H5 ∧ ((1 : Int) = 0 → H5.length = H4.length) ∧ hWt T0 H5) ∧ postb_193 n0 H4 H5) : postb_157 n6 n0 H0 H5 := by
  unfold postb_193 at f31
  unfold postb_157
  have e0 : n1 = hV H0 7 4 := (by rw [f0] at f4; exact f4 : n1 = hV H0 7 4)
  have e1 : n5 = hV H0 7 1 := (by rw [f0] at f13; exact f13 : n5 = hV H0 7 1)
  have e2 : hV H1 7 8 = hV H0 7 8 := f16.1.2.1.1 7 8 kF_60_7_8
  have e3 : hV H4 7 8 = hV H3 7 8 := uSlot f26 7 8 (iS (show n11 = ((1 : Nat) : Int) from f25) rfl)
  have e4 : hV H3 7 8 = hV H2 7 8 := uSlot f23 7 8 (iS (show n9 = ((2 : Nat) : Int) from f22) rfl)
  have e5 : hV H2 7 8 = hV H1 7 8 := f21.1.2.1.1 7 8 kF_62_7_8
  have e10 : hV H4 7 4 = hV H0 7 4 := ((uSlot f26 7 4 (iS (show n11 = ((1 : Nat) : Int) from f25) rfl))).trans (((uSlot f23 7 4 (iS (show n9 = ((2 : Nat) : Int) from f22) rfl))).trans (((f21.1.2.1.1 7 4 kF_62_7_4)).trans (f16.1.2.1.1 7 4 kF_60_7_4)))
  have l16 := f16.1.2.2.1 rfl
  have l21 := f21.1.2.2.1 rfl
  have l23 := f23.2.1
  have l26 := f26.2.1
  try simp only [e10] at f31
  subst e0
  subst e1
  omega
theorem c_157_s_5 : vOkm T0 (eP e_157 L_157 A_157 mu_157 none) 1 ([(1193, [0], [4, 5], 1), (30, [6], [], 0), (20, [12, 0], [4], 8), (0, [12], [], 30), (30, [6], [], 0), (80, [0, 11, 10], [4, 3], 0), (0, [11], [], 1), (0, [10], [], 0), (80, [0, 9, 8], [3, 2], 0), (0, [9], [], 2), (1062, [8, 7], [1, 2], 0), (90, [8], [], -2147483648), (91, [8], [], 2147483647), (20, [7, 0], [1], 8), (0, [7], [], 30), (1060, [6, 3, 4, 5], [0, 1], 0), (90, [6], [], -2147483648), (91, [6], [], 2147483647), (20, [5, 0], [0], 1), (90, [5], [], -2147483648), (91, [5], [], 2147483647), (20, [4, 0], [0], 0), (0, [4], [], 8), (20, [3, 0], [0], 8), (0, [3], [], 30), (42, [1, 2], [], 0), (0, [2], [], 8), (20, [1, 0], [0], 4), (90, [1], [], 0), (91, [1], [], 8), (6000, [0], [0], 0), (0, [0], [], 7)], (3000, [6], [5], 85)) := vOk_inI fun ρ η f0 f1 f2 f3 f4 f5 f6 f7 f8 f9 f10 f11 f12 f13 f14 f15 f16 f17 f18 f19 f20 f21 f22 f23 f24 f25 f26 f27 f28 f29 f30 f31 => q_157_5 (n0 := ρ 0) (n1 := ρ 1) (n2 := ρ 2) (n3 := ρ 3) (n4 := ρ 4) (n5 := ρ 5) (n6 := ρ 6) (n7 := ρ 7) (n8 := ρ 8) (n9 := ρ 9) (n10 := ρ 10) (n11 := ρ 11) (n12 := ρ 12) (H0 := η 0) (H1 := η 1) (H2 := η 2) (H3 := η 3) (H4 := η 4) (H5 := η 5) f31 f30 f29 f28 f27 f26 f25 f24 f23 f22 f21 f20 f19 f18 f17 f16 f15 f14 f13 f12 f11 f10 f9 f8 f7 f6 f5 f4 f3 f2 f1 f0
theorem kF_62_7_5 : vFree s_62.2.2.2.2 7 5 = true := by decide +kernel
theorem kF_60_7_5 : vFree s_60.2.2.2.2 7 5 = true := by decide +kernel
theorem kF_63_7_4 : vFree s_63.2.2.2.2 7 4 = true := by decide +kernel
theorem q_157_6 {n0 n1 n2 n3 n4 n5 n6 n7 n8 n9 n10 n11 n12 n13 n14 n15 n16 : Int} {H0 H1 H2 H3 H4 H5 H6 : gH} (f0 : n0 = 7) (f1 : hWt T0 H0 ∧ True) (f2 : n1 ≤ 8) (f3 : 0 ≤ n1) (f4 : n1 = hV H0 (n0).toNat 4) (f5 : n2 = 8) (f6 : n1 < n2) (f7 : n3 = 30) (f8 : n3 = hV H0 (n0).toNat 8) (f9 : n4 = 8) (f10 : n4 = hV H0 (n0).toNat 0) (f11 : n5 ≤ 2147483647) (f12 : (-2147483648) ≤ n5) (f13 : n5 = hV H0 (n0).toNat 1) (f14 : n6 ≤ 2147483647) (f15 : (-2147483648) ≤ n6) (f16 : (hLe T0 H0 H1 ∧ hFr s_60.2.2.2.2 H0 H1 ∧ ((0 : Int) = 0 → H1.length = H0.length) ∧ hWt T0 H1) ∧ True) (f17 : n7 = 30) (f18 : n7 = hV H1 (n0).toNat 8) (f19 : n8 ≤ 2147483647) (f20 : (-2147483648) ≤ n8) (f21 : (hLe T0 H1 H2 ∧ hFr s_62.2.2.2.2 H1 H2 ∧ ((0 : Int) = 0 → H2.length = H1.length) ∧ hWt T0 H2) ∧ True) (f22 : n9 = 2) (f23 : hUpd H3 H2 n0 n9 n8) (f24 : n10 = 0) (f25 : n11 = 1) (f26 : hUpd H4 H3 n0 n11 n10) (f27 : n6 = 0) (f28 : n12 = 30) (f29 : n12 = hV H4 (n0).toNat 8) (f30 : n13 = 30) (f31 : n13 = hV H4 (n0).toNat 8) (f32 : 0 ≤ n14) (f33 : n14 = hV H4 (n0).toNat 5) (f34 : 0 ≤ n15) (f35 : (hLe T0 H4 H5 ∧ hFr s_63.2.2.2.2 H4 H5 ∧ ((0 : Int) = 0 → H5.length = H4.length) ∧ hWt T0 H5) ∧ True) (f36 : n16 = 5) (f37 : hUpd H6 H5 n0 n16 n15) : postb_157 n6 n0 H0 H6 := by
  unfold postb_157
  have e0 : n1 = hV H0 7 4 := (by rw [f0] at f4; exact f4 : n1 = hV H0 7 4)
  have e1 : n5 = hV H0 7 1 := (by rw [f0] at f13; exact f13 : n5 = hV H0 7 1)
  have e2 : hV H1 7 8 = hV H0 7 8 := f16.1.2.1.1 7 8 kF_60_7_8
  have e3 : hV H4 7 8 = hV H3 7 8 := uSlot f26 7 8 (iS (show n11 = ((1 : Nat) : Int) from f25) rfl)
  have e4 : hV H3 7 8 = hV H2 7 8 := uSlot f23 7 8 (iS (show n9 = ((2 : Nat) : Int) from f22) rfl)
  have e5 : hV H2 7 8 = hV H1 7 8 := f21.1.2.1.1 7 8 kF_62_7_8
  have e10 : n14 = hV H0 7 5 := (by rw [f0] at f33; exact f33 : n14 = hV H4 7 5).trans (((uSlot f26 7 5 (iS (show n11 = ((1 : Nat) : Int) from f25) rfl))).trans (((uSlot f23 7 5 (iS (show n9 = ((2 : Nat) : Int) from f22) rfl))).trans (((f21.1.2.1.1 7 5 kF_62_7_5)).trans (f16.1.2.1.1 7 5 kF_60_7_5))))
  have e17 : hV H6 7 4 = hV H0 7 4 := ((uSlot f37 7 4 (iS (show n16 = ((5 : Nat) : Int) from f36) rfl))).trans (((f35.1.2.1.1 7 4 kF_63_7_4)).trans (((uSlot f26 7 4 (iS (show n11 = ((1 : Nat) : Int) from f25) rfl))).trans (((uSlot f23 7 4 (iS (show n9 = ((2 : Nat) : Int) from f22) rfl))).trans (((f21.1.2.1.1 7 4 kF_62_7_4)).trans (f16.1.2.1.1 7 4 kF_60_7_4)))))
  have l16 := f16.1.2.2.1 rfl
  have l21 := f21.1.2.2.1 rfl
  have l23 := f23.2.1
  have l26 := f26.2.1
  have l35 := f35.1.2.2.1 rfl
  have l37 := f37.2.1
  try simp only [e17]
  subst e0
  subst e1
  subst e10
  omega
theorem c_157_s_6 : vOkm T0 (eP e_157 L_157 A_157 mu_157 none) 1 ([(80, [0, 17, 16], [6, 5], 2), (0, [17], [], 5), (1063, [16, 14, 15], [4, 5], 0), (51, [16], [], 0), (20, [15, 0], [4], 5), (51, [15], [], 0), (20, [14, 0], [4], 8), (0, [14], [], 30), (20, [12, 0], [4], 8), (0, [12], [], 30), (30, [6], [], 0), (80, [0, 11, 10], [4, 3], 0), (0, [11], [], 1), (0, [10], [], 0), (80, [0, 9, 8], [3, 2], 0), (0, [9], [], 2), (1062, [8, 7], [1, 2], 0), (90, [8], [], -2147483648), (91, [8], [], 2147483647), (20, [7, 0], [1], 8), (0, [7], [], 30), (1060, [6, 3, 4, 5], [0, 1], 0), (90, [6], [], -2147483648), (91, [6], [], 2147483647), (20, [5, 0], [0], 1), (90, [5], [], -2147483648), (91, [5], [], 2147483647), (20, [4, 0], [0], 0), (0, [4], [], 8), (20, [3, 0], [0], 8), (0, [3], [], 30), (42, [1, 2], [], 0), (0, [2], [], 8), (20, [1, 0], [0], 4), (90, [1], [], 0), (91, [1], [], 8), (6000, [0], [0], 0), (0, [0], [], 7)], (3000, [6], [6], 85)) := vOk_inI fun ρ η f0 f1 f2 f3 f4 f5 f6 f7 f8 f9 f10 f11 f12 f13 f14 f15 f16 f17 f18 f19 f20 f21 f22 f23 f24 f25 f26 f27 f28 f29 f30 f31 f32 f33 f34 f35 f36 f37 => q_157_6 (n0 := ρ 0) (n1 := ρ 1) (n2 := ρ 2) (n3 := ρ 3) (n4 := ρ 4) (n5 := ρ 5) (n6 := ρ 6) (n7 := ρ 7) (n8 := ρ 8) (n9 := ρ 9) (n10 := ρ 10) (n11 := ρ 11) (n12 := ρ 12) (n13 := ρ 14) (n14 := ρ 15) (n15 := ρ 16) (n16 := ρ 17) (H0 := η 0) (H1 := η 1) (H2 := η 2) (H3 := η 3) (H4 := η 4) (H5 := η 5) (H6 := η 6) f37 f36 f35 f34 f33 f32 f31 f30 f29 f28 f27 f26 f25 f24 f23 f22 f21 f20 f19 f18 f17 f16 f15 f14 f13 f12 f11 f10 f9 f8 f7 f6 f5 f4 f3 f2 f1 f0
theorem q_157_7 {n0 n1 n2 n3 : Int} {H0 : gH} (f0 : n0 = 7) (f1 : hWt T0 H0 ∧ True) (f2 : n1 ≤ 8) (f3 : 0 ≤ n1) (f4 : n1 = hV H0 (n0).toNat 4) (f5 : n2 = 8) (f6 : n2 ≤ n1) (f7 : n3 = (-2)) : postb_157 n3 n0 H0 H0 := by
  unfold postb_157
  have e0 : n1 = hV H0 7 4 := (by rw [f0] at f4; exact f4 : n1 = hV H0 7 4)
  subst e0
  omega
theorem c_157_s_7 : vOkm T0 (eP e_157 L_157 A_157 mu_157 none) 1 ([(0, [3], [], -2), (43, [1, 2], [], 0), (0, [2], [], 8), (20, [1, 0], [0], 4), (90, [1], [], 0), (91, [1], [], 8), (6000, [0], [0], 0), (0, [0], [], 7)], (3000, [3], [0], 11)) := vOk_inI fun ρ η f0 f1 f2 f3 f4 f5 f6 f7 => q_157_7 (n0 := ρ 0) (n1 := ρ 1) (n2 := ρ 2) (n3 := ρ 3) (H0 := η 0) f7 f6 f5 f4 f3 f2 f1 f0
def p_157_s : List vG := [([(31, [6], [], 0), (31, [6], [], 0), (80, [0, 11, 10], [4, 3], 0), (0, [11], [], 1), (0, [10], [], 0), (80, [0, 9, 8], [3, 2], 0), (0, [9], [], 2), (1062, [8, 7], [1, 2], 0), (90, [8], [], -2147483648), (91, [8], [], 2147483647), (20, [7, 0], [1], 8), (0, [7], [], 30), (1060, [6, 3, 4, 5], [0, 1], 0), (90, [6], [], -2147483648), (91, [6], [], 2147483647), (20, [5, 0], [0], 1), (90, [5], [], -2147483648), (91, [5], [], 2147483647), (20, [4, 0], [0], 0), (0, [4], [], 8), (20, [3, 0], [0], 8), (0, [3], [], 30), (42, [1, 2], [], 0), (0, [2], [], 8), (20, [1, 0], [0], 4), (90, [1], [], 0), (91, [1], [], 8), (6000, [0], [0], 0), (0, [0], [], 7)], (3000, [6], [4], 85)),
  ([(30, [6], [], 0), (31, [6], [], 0), (80, [0, 11, 10], [4, 3], 0), (0, [11], [], 1), (0, [10], [], 0), (80, [0, 9, 8], [3, 2], 0), (0, [9], [], 2), (1062, [8, 7], [1, 2], 0), (90, [8], [], -2147483648), (91, [8], [], 2147483647), (20, [7, 0], [1], 8), (0, [7], [], 30), (1060, [6, 3, 4, 5], [0, 1], 0), (90, [6], [], -2147483648), (91, [6], [], 2147483647), (20, [5, 0], [0], 1), (90, [5], [], -2147483648), (91, [5], [], 2147483647), (20, [4, 0], [0], 0), (0, [4], [], 8), (20, [3, 0], [0], 8), (0, [3], [], 30), (6000, [0], [0], 0), (0, [0], [], 7)], (2193, [0], [4], 0)),
  ([(1193, [0], [4, 5], 1), (30, [6], [], 0), (31, [6], [], 0), (80, [0, 11, 10], [4, 3], 0), (0, [11], [], 1), (0, [10], [], 0), (80, [0, 9, 8], [3, 2], 0), (0, [9], [], 2), (1062, [8, 7], [1, 2], 0), (90, [8], [], -2147483648), (91, [8], [], 2147483647), (20, [7, 0], [1], 8), (0, [7], [], 30), (1060, [6, 3, 4, 5], [0, 1], 0), (90, [6], [], -2147483648), (91, [6], [], 2147483647), (20, [5, 0], [0], 1), (90, [5], [], -2147483648), (91, [5], [], 2147483647), (20, [4, 0], [0], 0), (0, [4], [], 8), (20, [3, 0], [0], 8), (0, [3], [], 30), (42, [1, 2], [], 0), (0, [2], [], 8), (20, [1, 0], [0], 4), (90, [1], [], 0), (91, [1], [], 8), (6000, [0], [0], 0), (0, [0], [], 7)], (3000, [6], [5], 85)),
  ([(31, [6], [], 0), (20, [12, 0], [4], 8), (0, [12], [], 30), (30, [6], [], 0), (80, [0, 11, 10], [4, 3], 0), (0, [11], [], 1), (0, [10], [], 0), (80, [0, 9, 8], [3, 2], 0), (0, [9], [], 2), (1062, [8, 7], [1, 2], 0), (90, [8], [], -2147483648), (91, [8], [], 2147483647), (20, [7, 0], [1], 8), (0, [7], [], 30), (1060, [6, 3, 4, 5], [0, 1], 0), (90, [6], [], -2147483648), (91, [6], [], 2147483647), (20, [5, 0], [0], 1), (90, [5], [], -2147483648), (91, [5], [], 2147483647), (20, [4, 0], [0], 0), (0, [4], [], 8), (20, [3, 0], [0], 8), (0, [3], [], 30), (42, [1, 2], [], 0), (0, [2], [], 8), (20, [1, 0], [0], 4), (90, [1], [], 0), (91, [1], [], 8), (6000, [0], [0], 0), (0, [0], [], 7)], (3000, [6], [4], 85)),
  ([(30, [6], [], 0), (20, [12, 0], [4], 8), (0, [12], [], 30), (30, [6], [], 0), (80, [0, 11, 10], [4, 3], 0), (0, [11], [], 1), (0, [10], [], 0), (80, [0, 9, 8], [3, 2], 0), (0, [9], [], 2), (1062, [8, 7], [1, 2], 0), (90, [8], [], -2147483648), (91, [8], [], 2147483647), (20, [7, 0], [1], 8), (0, [7], [], 30), (1060, [6, 3, 4, 5], [0, 1], 0), (90, [6], [], -2147483648), (91, [6], [], 2147483647), (20, [5, 0], [0], 1), (90, [5], [], -2147483648), (91, [5], [], 2147483647), (20, [4, 0], [0], 0), (0, [4], [], 8), (20, [3, 0], [0], 8), (0, [3], [], 30), (6000, [0], [0], 0), (0, [0], [], 7)], (2193, [0], [4], 0)),
  ([(1193, [0], [4, 5], 1), (30, [6], [], 0), (20, [12, 0], [4], 8), (0, [12], [], 30), (30, [6], [], 0), (80, [0, 11, 10], [4, 3], 0), (0, [11], [], 1), (0, [10], [], 0), (80, [0, 9, 8], [3, 2], 0), (0, [9], [], 2), (1062, [8, 7], [1, 2], 0), (90, [8], [], -2147483648), (91, [8], [], 2147483647), (20, [7, 0], [1], 8), (0, [7], [], 30), (1060, [6, 3, 4, 5], [0, 1], 0), (90, [6], [], -2147483648), (91, [6], [], 2147483647), (20, [5, 0], [0], 1), (90, [5], [], -2147483648), (91, [5], [], 2147483647), (20, [4, 0], [0], 0), (0, [4], [], 8), (20, [3, 0], [0], 8), (0, [3], [], 30), (42, [1, 2], [], 0), (0, [2], [], 8), (20, [1, 0], [0], 4), (90, [1], [], 0), (91, [1], [], 8), (6000, [0], [0], 0), (0, [0], [], 7)], (3000, [6], [5], 85)),
  ([(80, [0, 17, 16], [6, 5], 2), (0, [17], [], 5), (1063, [16, 14, 15], [4, 5], 0), (51, [16], [], 0), (20, [15, 0], [4], 5), (51, [15], [], 0), (20, [14, 0], [4], 8), (0, [14], [], 30), (20, [12, 0], [4], 8), (0, [12], [], 30), (30, [6], [], 0), (80, [0, 11, 10], [4, 3], 0), (0, [11], [], 1), (0, [10], [], 0), (80, [0, 9, 8], [3, 2], 0), (0, [9], [], 2), (1062, [8, 7], [1, 2], 0), (90, [8], [], -2147483648), (91, [8], [], 2147483647), (20, [7, 0], [1], 8), (0, [7], [], 30), (1060, [6, 3, 4, 5], [0, 1], 0), (90, [6], [], -2147483648), (91, [6], [], 2147483647), (20, [5, 0], [0], 1), (90, [5], [], -2147483648), (91, [5], [], 2147483647), (20, [4, 0], [0], 0), (0, [4], [], 8), (20, [3, 0], [0], 8), (0, [3], [], 30), (42, [1, 2], [], 0), (0, [2], [], 8), (20, [1, 0], [0], 4), (90, [1], [], 0), (91, [1], [], 8), (6000, [0], [0], 0), (0, [0], [], 7)], (3000, [6], [6], 85)),
  ([(0, [3], [], -2), (43, [1, 2], [], 0), (0, [2], [], 8), (20, [1, 0], [0], 4), (90, [1], [], 0), (91, [1], [], 8), (6000, [0], [0], 0), (0, [0], [], 7)], (3000, [3], [0], 11))]
theorem r_157_s : vCovO false (eR0 e_157 L_157 cs_157 2000) p_157_s = true := by decide +kernel
theorem m_157 (d : Nat) : eC e_157 (d + 15) := eC_ok (e := e_157) (L := L_157) (cs := cs_157) (n := 2000) (d := d + 14) (A := A_157) (μ := mu_157) (tp := false) (p0 := p_157_s) rfl ⟨m_60 (d + 7), ⟨m_62 (d + 11), ⟨m_63 (d + 13), ⟨m_193 d, trivial⟩⟩⟩⟩ rfl (.inr pre0_ok) (by decide +kernel) (fun z => nomatch z) r_157_s (allC c_157_s_0 (allC c_157_s_1 (allC c_157_s_2 (allC c_157_s_3 (allC c_157_s_4 (allC c_157_s_5 (allC c_157_s_6 (allC c_157_s_7 allN)))))))) allN
