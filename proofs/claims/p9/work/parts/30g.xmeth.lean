/-! CONTRACTS of methods (printed by wip/gen/emit.py). -/
/- MixStage.mute (I)I -/
noncomputable def s_167 : vM := ([(3, 11, 7, 0), (0, -2147483648, 2147483647, 0)], (0, -2147483648, 2147483647, 0), 0, 1, [(0, 1), (0, 2), (7, 8), (105, 0)])
def postb_167 (r a0 a1 : Int) (h0 h : gH) : Prop := (h.length : Int) ≤ h0.length + 3 * (hV h 23 1 - hV h0 23 1)
def post_167 : List Int → gH → gH → Prop := fun xs h0 h => match xs with
  | [r, a0, a1] => postb_167 r a0 a1 h0 h
  | _ => True
noncomputable def e_167 : vE := (167, s_167, pre0, post_167)
noncomputable def L_167 : List vE := [e_3, e_4]
def cs_167 : List vC := []
def A_167 : Int → List Int → gH → gH → Prop := fun c xs h0 h => True
def mu_167 : Int → List Int → gH → gH → Nat := fun c xs h0 h => 0
theorem kF_3_23_1 : vFree s_3.2.2.2.2 23 1 = true := by decide +kernel
theorem q_167_0 {n0 n1 n2 n3 n4 n5 : Int} {H0 H1 : gH} (f0 : n0 ≤ 2147483647) (f1 : (-2147483648) ≤ n0) (f2 : n1 = 7) (f3 : hWt T0 H0 ∧ True) (f4 : n2 = 23) (f5 : n2 = hV H0 (n1).toNat 7) (f6 : n3 = 2) (f7 : (hLe T0 H0 H1 ∧ hFr s_3.2.2.2.2 H0 H1 ∧ ((0 : Int) = 0 → H1.length = H0.length) ∧ hWt T0 H1) ∧ True) (f8 : n4 = -1) (f9 : n5 = (-1)) : postb_167 n5 n1 n0 H0 H1 := by
  unfold postb_167
  have e1 : hV H1 23 1 = hV H0 23 1 := (f7.1.2.1.1 23 1 kF_3_23_1)
  have l7 := f7.1.2.2.1 rfl
  try simp only [e1]
  omega
theorem c_167_s_0 : vOkm T0 (eP e_167 L_167 A_167 mu_167 none) 2 ([(0, [5], [], -1), (50, [4], [], 0), (1003, [4, 2, 1, 3], [0, 1], 0), (0, [3], [], 2), (20, [2, 0], [0], 7), (0, [2], [], 23), (6000, [0, 1], [0], 0), (0, [0], [], 7), (90, [1], [], -2147483648), (91, [1], [], 2147483647)], (3000, [5], [1], 28)) := vOk_inI fun ρ η f0 f1 f2 f3 f4 f5 f6 f7 f8 f9 => q_167_0 (n0 := ρ 1) (n1 := ρ 0) (n2 := ρ 2) (n3 := ρ 3) (n4 := ρ 4) (n5 := ρ 5) (H0 := η 0) (H1 := η 1) f9 f8 f7 f6 f5 f4 f3 f2 f1 f0
theorem kF_3_7_7 : vFree s_3.2.2.2.2 7 7 = true := by decide +kernel
theorem q_167_1 {n0 n1 n2 n3 n4 n5 n6 n7 n8 n9 n10 : Int} {H0 H1 H2 : gH} (f0 : n0 ≤ 2147483647) (f1 : (-2147483648) ≤ n0) (f2 : n1 = 7) (f3 : hWt T0 H0 ∧ True) (f4 : n2 = 23) (f5 : n2 = hV H0 (n1).toNat 7) (f6 : n3 = 2) (f7 : (hLe T0 H0 H1 ∧ hFr s_3.2.2.2.2 H0 H1 ∧ ((0 : Int) = 0 → H1.length = H0.length) ∧ hWt T0 H1) ∧ True) (f8 : 0 ≤ n4) (f9 : n5 = 23) (f10 : n5 = hV H1 (n1).toNat 7) (f11 : n6 = 5) (f12 : n7 = 0) (f13 : n8 = 0) (f14 : n9 = 0) (f15 : n10 ≤ 2147483647) (f16 : (-2147483648) ≤ n10) (f17 : (hLe T0 H1 H2 ∧ hFr s_4.2.2.2.2 H1 H2 ∧ ((1 : Int) = 0 → H2.length = H1.length) ∧ hWt T0 H2) ∧ postb_4 n10 n5 n6 n7 n8 n0 n9 H1 H2) : postb_167 n10 n1 n0 H0 H2 := by
  unfold postb_4 at f17
  unfold postb_167
  have e0 : hV H1 7 7 = hV H0 7 7 := f7.1.2.1.1 7 7 kF_3_7_7
  have e2 : hV H1 23 1 = hV H0 23 1 := (f7.1.2.1.1 23 1 kF_3_23_1)
  have l7 := f7.1.2.2.1 rfl
  try simp only [e2] at f17
  omega
theorem c_167_s_1 : vOkm T0 (eP e_167 L_167 A_167 mu_167 none) 2 ([(1004, [10, 5, 6, 7, 8, 1, 9], [1, 2], 1), (90, [10], [], -2147483648), (91, [10], [], 2147483647), (0, [9], [], 0), (0, [8], [], 0), (0, [7], [], 0), (0, [6], [], 5), (20, [5, 0], [1], 7), (0, [5], [], 23), (51, [4], [], 0), (1003, [4, 2, 1, 3], [0, 1], 0), (0, [3], [], 2), (20, [2, 0], [0], 7), (0, [2], [], 23), (6000, [0, 1], [0], 0), (0, [0], [], 7), (90, [1], [], -2147483648), (91, [1], [], 2147483647)], (3000, [10], [2], 28)) := vOk_inI fun ρ η f0 f1 f2 f3 f4 f5 f6 f7 f8 f9 f10 f11 f12 f13 f14 f15 f16 f17 => q_167_1 (n0 := ρ 1) (n1 := ρ 0) (n2 := ρ 2) (n3 := ρ 3) (n4 := ρ 4) (n5 := ρ 5) (n6 := ρ 6) (n7 := ρ 7) (n8 := ρ 8) (n9 := ρ 9) (n10 := ρ 10) (H0 := η 0) (H1 := η 1) (H2 := η 2) f17 f16 f15 f14 f13 f12 f11 f10 f9 f8 f7 f6 f5 f4 f3 f2 f1 f0
def p_167_s : List vG := [([(0, [5], [], -1), (50, [4], [], 0), (1003, [4, 2, 1, 3], [0, 1], 0), (0, [3], [], 2), (20, [2, 0], [0], 7), (0, [2], [], 23), (6000, [0, 1], [0], 0), (0, [0], [], 7), (90, [1], [], -2147483648), (91, [1], [], 2147483647)], (3000, [5], [1], 28)),
  ([(1004, [10, 5, 6, 7, 8, 1, 9], [1, 2], 1), (90, [10], [], -2147483648), (91, [10], [], 2147483647), (0, [9], [], 0), (0, [8], [], 0), (0, [7], [], 0), (0, [6], [], 5), (20, [5, 0], [1], 7), (0, [5], [], 23), (51, [4], [], 0), (1003, [4, 2, 1, 3], [0, 1], 0), (0, [3], [], 2), (20, [2, 0], [0], 7), (0, [2], [], 23), (6000, [0, 1], [0], 0), (0, [0], [], 7), (90, [1], [], -2147483648), (91, [1], [], 2147483647)], (3000, [10], [2], 28))]
theorem r_167_s : vCovO false (eR0 e_167 L_167 cs_167 2000) p_167_s = true := by decide +kernel
theorem m_167 (d : Nat) : eC e_167 (d + 3) := eC_ok (e := e_167) (L := L_167) (cs := cs_167) (n := 2000) (d := d + 2) (A := A_167) (μ := mu_167) (tp := false) (p0 := p_167_s) rfl ⟨m_3 d, ⟨m_4 d, trivial⟩⟩ rfl (.inr pre0_ok) (by decide +kernel) (fun z => nomatch z) r_167_s (allC c_167_s_0 (allC c_167_s_1 allN)) allN
/- MixStage.mixed ()I -/
noncomputable def s_168 : vM := ([(3, 11, 7, 0)], (0, -2147483648, 2147483647, 0), 0, 1, [(0, 1), (0, 2), (7, 8), (105, 0)])
def postb_168 (r a0 : Int) (h0 h : gH) : Prop := (h.length : Int) ≤ h0.length + 3 * (hV h 23 1 - hV h0 23 1)
def post_168 : List Int → gH → gH → Prop := fun xs h0 h => match xs with
  | [r, a0] => postb_168 r a0 h0 h
  | _ => True
noncomputable def e_168 : vE := (168, s_168, pre0, post_168)
noncomputable def L_168 : List vE := [e_4]
def cs_168 : List vC := []
def A_168 : Int → List Int → gH → gH → Prop := fun c xs h0 h => True
def mu_168 : Int → List Int → gH → gH → Nat := fun c xs h0 h => 0
theorem q_168_0 {n0 n1 n2 n3 n4 n5 n6 n7 : Int} {H0 H1 : gH} (f0 : n0 = 7) (f1 : hWt T0 H0 ∧ True) (f2 : n1 = 23) (f3 : n1 = hV H0 (n0).toNat 7) (f4 : n2 = 6) (f5 : n3 = 0) (f6 : n4 = 0) (f7 : n5 = (-1)) (f8 : n6 = 0) (f9 : n7 ≤ 2147483647) (f10 : (-2147483648) ≤ n7) (f11 : (hLe T0 H0 H1 ∧ hFr s_4.2.2.2.2 H0 H1 ∧ ((1 : Int) = 0 → H1.length = H0.length) ∧ hWt T0 H1) ∧ postb_4 n7 n1 n2 n3 n4 n5 n6 H0 H1) : postb_168 n7 n0 H0 H1 := by
  unfold postb_4 at f11
  unfold postb_168
  omega
theorem c_168_s_0 : vOkm T0 (eP e_168 L_168 A_168 mu_168 none) 1 ([(1004, [7, 1, 2, 3, 4, 5, 6], [0, 1], 1), (90, [7], [], -2147483648), (91, [7], [], 2147483647), (0, [6], [], 0), (0, [5], [], -1), (0, [4], [], 0), (0, [3], [], 0), (0, [2], [], 6), (20, [1, 0], [0], 7), (0, [1], [], 23), (6000, [0], [0], 0), (0, [0], [], 7)], (3000, [7], [1], 13)) := vOk_inI fun ρ η f0 f1 f2 f3 f4 f5 f6 f7 f8 f9 f10 f11 => q_168_0 (n0 := ρ 0) (n1 := ρ 1) (n2 := ρ 2) (n3 := ρ 3) (n4 := ρ 4) (n5 := ρ 5) (n6 := ρ 6) (n7 := ρ 7) (H0 := η 0) (H1 := η 1) f11 f10 f9 f8 f7 f6 f5 f4 f3 f2 f1 f0
def p_168_s : List vG := [([(1004, [7, 1, 2, 3, 4, 5, 6], [0, 1], 1), (90, [7], [], -2147483648), (91, [7], [], 2147483647), (0, [6], [], 0), (0, [5], [], -1), (0, [4], [], 0), (0, [3], [], 0), (0, [2], [], 6), (20, [1, 0], [0], 7), (0, [1], [], 23), (6000, [0], [0], 0), (0, [0], [], 7)], (3000, [7], [1], 13))]
theorem r_168_s : vCovO false (eR0 e_168 L_168 cs_168 2000) p_168_s = true := by decide +kernel
theorem m_168 (d : Nat) : eC e_168 (d + 3) := eC_ok (e := e_168) (L := L_168) (cs := cs_168) (n := 2000) (d := d + 2) (A := A_168) (μ := mu_168) (tp := false) (p0 := p_168_s) rfl ⟨m_4 d, trivial⟩ rfl (.inr pre0_ok) (by decide +kernel) (fun z => nomatch z) r_168_s (allC c_168_s_0 allN) allN
/- MixStage.wave (IIIII)Z -/
noncomputable def s_169 : vM := ([(3, 11, 7, 0), (0, -2147483648, 2147483647, 0), (0, -2147483648, 2147483647, 0), (0, -2147483648, 2147483647, 0), (0, -2147483648, 2147483647, 0), (0, -2147483648, 2147483647, 0)], (0, 0, 1, 0), 0, 0, [(0, 2), (7, 8), (780, 0)])
noncomputable def e_169 : vE := (169, s_169, pre0, post0)
noncomputable def L_169 : List vE := [e_2, e_5, e_118, e_201k780]
def cs_169 : List vC := [(34, [(0, (3, 11, 7, 0)), (1, (0, -2147483648, 2147483647, 0)), (2, (0, -2147483648, 2147483647, 0)), (3, (0, -2147483648, 2147483647, 0)), (4, (0, -2147483648, 2147483647, 0)), (5, (0, -2147483648, 2147483647, 0)), (6, (3, 7, -1, 0)), (7, (0, -2147483648, 2147483647, 0))])]
def mub_169_34 (a0 a1 a2 a3 a4 a5 x0 x1 x2 x3 x4 x5 x6 x7 : Int) (h0 h : gH) : Nat := (2147483648 - x7).toNat
def A_169 : Int → List Int → gH → gH → Prop := fun c xs h0 h => True
def mu_169 : Int → List Int → gH → gH → Nat := fun c xs h0 h => match c.toNat with
  | 34 => (match xs with
    | [a0, a1, a2, a3, a4, a5, x0, x1, x2, x3, x4, x5, x6, x7] => mub_169_34 a0 a1 a2 a3 a4 a5 x0 x1 x2 x3 x4 x5 x6 x7 h0 h
    | _ => 0)
  | _ => 0
theorem q_169_0 {n0 n1 n2 n3 n4 n5 n6 : Int} {H0 H1 : gH}  : True ∧ ∀ q, none = some q → mub_169_34 n0 n1 n2 n3 n4 n5 n0 n1 n2 n3 n4 n5 n6 n2 H0 H1 < q := by
  exact ⟨trivial, fun q hq => nomatch hq⟩
theorem c_169_s_0 : vOkm T0 (eP e_169 L_169 A_169 mu_169 none) 6 ([], (4000, [0, 1, 2, 3, 4, 5, 7, 2], [2], 34)) := vOk_inI fun ρ η => q_169_0 (n0 := ρ 0) (n1 := ρ 1) (n2 := ρ 2) (n3 := ρ 3) (n4 := ρ 4) (n5 := ρ 5) (n6 := ρ 7) (H0 := η 0) (H1 := η 2)
def p_169_s : List vG := [([], (4000, [0, 1, 2, 3, 4, 5, 7, 2], [2], 34))]
theorem r_169_s : vCovO true (eR0 e_169 L_169 cs_169 2000) p_169_s = true := by decide +kernel
theorem q_169_1 {q0 : Nat} {n0 n1 n2 n3 n4 n5 n6 n7 n8 n9 n10 n11 n12 n13 n14 n15 : Int} {H0 H1 H2 : gH} (f0 : n0 ≤ 2147483647) (f1 : (-2147483648) ≤ n0) (f2 : n1 ≤ 2147483647) (f3 : (-2147483648) ≤ n1) (f4 : (hLe T0 H0 H1 ∧ hFr s_169.2.2.2.2 H0 H1 ∧ hWt T0 H1) ∧ (True ∧ True) ∧ some q0 = some (mub_169_34 n2 n3 n4 n5 n6 n7 n8 n9 n10 n1 n11 n12 n13 n0 H0 H1)) (f5 : n0 < n1) (f6 : n14 = 240) (f7 : n0 < n14) (f8 : n15 = w32 (n0 + 1)) : True ∧ ∀ q, some q0 = some q → mub_169_34 n2 n3 n4 n5 n6 n7 n8 n9 n10 n1 n11 n12 n13 n15 H0 H2 < q := by
  have g5 := Option.some.inj f4.2.2
  unfold mub_169_34 at g5
  unfold mub_169_34
  unfold w32 at f8
  refine ⟨?_, fun q hq => ?_⟩
  · trivial
  · have g6 := Option.some.inj hq
    subst g6
    omega
theorem c_169_34_0 {q0 : Nat} : vOkm T0 (eP e_169 L_169 A_169 mu_169 (some q0)) 6 ([(10, [19, 13], [], 1), (42, [13, 14], [], 0), (0, [14], [], 240), (42, [13, 9], [], 0), (5000, [0, 1, 2, 3, 4, 5, 6, 7, 8, 9, 10, 11, 12, 13], [0, 1], 34), (90, [9], [], -2147483648), (91, [9], [], 2147483647), (90, [13], [], -2147483648), (91, [13], [], 2147483647)], (4000, [6, 7, 8, 9, 10, 11, 12, 19], [2], 34)) := vOk_inI fun ρ η f0 f1 f2 f3 f4 f5 f6 f7 f8 => q_169_1 (q0 := q0) (n0 := ρ 13) (n1 := ρ 9) (n2 := ρ 0) (n3 := ρ 1) (n4 := ρ 2) (n5 := ρ 3) (n6 := ρ 4) (n7 := ρ 5) (n8 := ρ 6) (n9 := ρ 7) (n10 := ρ 8) (n11 := ρ 10) (n12 := ρ 11) (n13 := ρ 12) (n14 := ρ 14) (n15 := ρ 19) (H0 := η 0) (H1 := η 1) (H2 := η 2) f8 f7 f6 f5 f4 f3 f2 f1 f0
def p_169_34 : List vG := [([(10, [19, 13], [], 1), (42, [13, 14], [], 0), (0, [14], [], 240), (42, [13, 9], [], 0), (5000, [0, 1, 2, 3, 4, 5, 6, 7, 8, 9, 10, 11, 12, 13], [0, 1], 34), (90, [9], [], -2147483648), (91, [9], [], 2147483647), (90, [13], [], -2147483648), (91, [13], [], 2147483647)], (4000, [6, 7, 8, 9, 10, 11, 12, 19], [2], 34))]
theorem r_169_34 : vCovO true (eRc e_169 L_169 cs_169 2000 (34, [(0, (3, 11, 7, 0)), (1, (0, -2147483648, 2147483647, 0)), (2, (0, -2147483648, 2147483647, 0)), (3, (0, -2147483648, 2147483647, 0)), (4, (0, -2147483648, 2147483647, 0)), (5, (0, -2147483648, 2147483647, 0)), (6, (3, 7, -1, 0)), (7, (0, -2147483648, 2147483647, 0))])) p_169_34 = true := by decide +kernel
theorem m_169 (d : Nat) : eC e_169 (d + 3) := eC_ok (e := e_169) (L := L_169) (cs := cs_169) (n := 2000) (d := d + 2) (A := A_169) (μ := mu_169) (tp := true) (p0 := p_169_s) rfl ⟨m_2 (d + 1), ⟨m_5 (d + 1), ⟨m_118 d, ⟨m_201k780 (d + 1), trivial⟩⟩⟩⟩ rfl (.inr pre0_ok) (by decide +kernel) (fun _ => post0_ok) r_169_s (allC c_169_s_0 allN) (allC (.inl ⟨p_169_34, r_169_34, fun q0 => (allC c_169_34_0 allN)⟩) allN)
/- MixStage.sample (III)Z -/
noncomputable def s_170 : vM := ([(3, 11, 7, 0), (0, -2147483648, 2147483647, 0), (0, -2147483648, 2147483647, 0), (0, -2147483648, 2147483647, 0)], (0, 0, 1, 0), 0, 0, [(0, 2), (7, 8), (780, 0)])
noncomputable def e_170 : vE := (170, s_170, pre0, post0)
noncomputable def L_170 : List vE := [e_2, e_5, e_198, e_201k780]
def cs_170 : List vC := []
def A_170 : Int → List Int → gH → gH → Prop := fun c xs h0 h => True
def mu_170 : Int → List Int → gH → gH → Nat := fun c xs h0 h => 0
def p_170_s : List vG := []
theorem r_170_s : vCovO true (eR0 e_170 L_170 cs_170 2000) p_170_s = true := by decide +kernel
theorem m_170 (d : Nat) : eC e_170 (d + 2) := eC_ok (e := e_170) (L := L_170) (cs := cs_170) (n := 2000) (d := d + 1) (A := A_170) (μ := mu_170) (tp := true) (p0 := p_170_s) rfl ⟨m_2 d, ⟨m_5 d, ⟨m_198 d, ⟨m_201k780 d, trivial⟩⟩⟩⟩ rfl (.inr pre0_ok) (by decide +kernel) (fun _ => post0_ok) r_170_s allN allN
/- MixStage.mouth (II)I -/
noncomputable def s_171 : vM := ([(3, 11, 7, 0), (0, -2147483648, 2147483647, 0), (0, -2147483648, 2147483647, 0)], (0, -2147483648, 2147483647, 0), 0, 0, [(7, 7), (788, 0)])
noncomputable def e_171 : vE := (171, s_171, pre0, post0)
noncomputable def L_171 : List vE := [e_3, e_201k788]
def cs_171 : List vC := []
def A_171 : Int → List Int → gH → gH → Prop := fun c xs h0 h => True
def mu_171 : Int → List Int → gH → gH → Nat := fun c xs h0 h => 0
def p_171_s : List vG := []
theorem r_171_s : vCovO true (eR0 e_171 L_171 cs_171 2000) p_171_s = true := by decide +kernel
theorem m_171 (d : Nat) : eC e_171 (d + 3) := eC_ok (e := e_171) (L := L_171) (cs := cs_171) (n := 2000) (d := d + 2) (A := A_171) (μ := mu_171) (tp := true) (p0 := p_171_s) rfl ⟨m_3 d, ⟨m_201k788 (d + 1), trivial⟩⟩ rfl (.inr pre0_ok) (by decide +kernel) (fun _ => post0_ok) r_171_s allN allN
/- MixStage.mark (II)Z -/
noncomputable def s_172 : vM := ([(3, 11, 7, 0), (0, -2147483648, 2147483647, 0), (0, -2147483648, 2147483647, 0)], (0, 0, 1, 0), 0, 0, [(0, 2), (708, 0)])
noncomputable def e_172 : vE := (172, s_172, pre0, post0)
noncomputable def L_172 : List vE := [e_6]
def cs_172 : List vC := []
def A_172 : Int → List Int → gH → gH → Prop := fun c xs h0 h => True
def mu_172 : Int → List Int → gH → gH → Nat := fun c xs h0 h => 0
def p_172_s : List vG := []
theorem r_172_s : vCovO true (eR0 e_172 L_172 cs_172 2000) p_172_s = true := by decide +kernel
theorem m_172 (d : Nat) : eC e_172 (d + 3) := eC_ok (e := e_172) (L := L_172) (cs := cs_172) (n := 2000) (d := d + 2) (A := A_172) (μ := mu_172) (tp := true) (p0 := p_172_s) rfl ⟨m_6 d, trivial⟩ rfl (.inr pre0_ok) (by decide +kernel) (fun _ => post0_ok) r_172_s allN allN
/- MixStage.hisses (II)Z -/
noncomputable def s_173 : vM := ([(3, 11, 7, 0), (0, -2147483648, 2147483647, 0), (0, -2147483648, 2147483647, 0)], (0, 0, 1, 0), 0, 0, [(772, 0)])
noncomputable def e_173 : vE := (173, s_173, pre0, post0)
noncomputable def L_173 : List vE := [e_7]
def cs_173 : List vC := []
def A_173 : Int → List Int → gH → gH → Prop := fun c xs h0 h => True
def mu_173 : Int → List Int → gH → gH → Nat := fun c xs h0 h => 0
def p_173_s : List vG := []
theorem r_173_s : vCovO true (eR0 e_173 L_173 cs_173 2000) p_173_s = true := by decide +kernel
theorem m_173 (d : Nat) : eC e_173 (d + 3) := eC_ok (e := e_173) (L := L_173) (cs := cs_173) (n := 2000) (d := d + 2) (A := A_173) (μ := mu_173) (tp := true) (p0 := p_173_s) rfl ⟨m_7 d, trivial⟩ rfl (.inr pre0_ok) (by decide +kernel) (fun _ => post0_ok) r_173_s allN allN
/- MixStage.sheetAt (I)LMixStage$Sheet; -/
noncomputable def s_194 : vM := ([(3, 11, 7, 0), (0, -2147483648, 2147483647, 0)], (2, 6, -1, 0), 0, 0, [])
noncomputable def e_194 : vE := (194, s_194, pre0, post0)
noncomputable def L_194 : List vE := []
def cs_194 : List vC := []
def A_194 : Int → List Int → gH → gH → Prop := fun c xs h0 h => True
def mu_194 : Int → List Int → gH → gH → Nat := fun c xs h0 h => 0
theorem q_194_0 {n0 n1 n2 n3 n4 n5 : Int} {H0 : gH} (f0 : n0 ≤ 2147483647) (f1 : (-2147483648) ≤ n0) (f2 : n1 = 7) (f3 : hWt T0 H0 ∧ True) (f4 : 0 ≤ n0) (f5 : n2 ≤ 8) (f6 : 0 ≤ n2) (f7 : n2 = hV H0 (n1).toNat 4) (f8 : n0 < n2) (f9 : n3 = 9) (f10 : n3 = hV H0 (n1).toNat 3) (f11 : n4 = (hN H0 (n3).toNat : Int)) (f12 : n4 = 8) (f13 : n0 < n4) (f14 : n5 = 9) (f15 : n5 = hV H0 (n1).toNat 3) : 0 ≤ n0 ∧ n0 < 8 := by
  have e0 : n2 = hV H0 7 4 := (by rw [f2] at f7; exact f7 : n2 = hV H0 7 4)
  subst e0
  omega
theorem c_194_s_0 : vOkm T0 (eP e_194 L_194 A_194 mu_194 none) 2 ([(20, [5, 0], [0], 3), (0, [5], [], 9), (42, [1, 4], [], 0), (0, [4], [], 8), (21, [4, 3], [0], 0), (20, [3, 0], [0], 3), (0, [3], [], 9), (42, [1, 2], [], 0), (20, [2, 0], [0], 4), (90, [2], [], 0), (91, [2], [], 8), (33, [1], [], 0), (6000, [0, 1], [0], 0), (0, [0], [], 7), (90, [1], [], -2147483648), (91, [1], [], 2147483647)], (70, [1], [], 8)) := vOk_inI fun ρ η f0 f1 f2 f3 f4 f5 f6 f7 f8 f9 f10 f11 f12 f13 f14 f15 => q_194_0 (n0 := ρ 1) (n1 := ρ 0) (n2 := ρ 2) (n3 := ρ 3) (n4 := ρ 4) (n5 := ρ 5) (H0 := η 0) f15 f14 f13 f12 f11 f10 f9 f8 f7 f6 f5 f4 f3 f2 f1 f0
def p_194_s : List vG := [([(20, [5, 0], [0], 3), (0, [5], [], 9), (42, [1, 4], [], 0), (0, [4], [], 8), (21, [4, 3], [0], 0), (20, [3, 0], [0], 3), (0, [3], [], 9), (42, [1, 2], [], 0), (20, [2, 0], [0], 4), (90, [2], [], 0), (91, [2], [], 8), (33, [1], [], 0), (6000, [0, 1], [0], 0), (0, [0], [], 7), (90, [1], [], -2147483648), (91, [1], [], 2147483647)], (70, [1], [], 8))]
theorem r_194_s : vCovO true (eR0 e_194 L_194 cs_194 2000) p_194_s = true := by decide +kernel
theorem m_194 (d : Nat) : eC e_194 (d + 1) := eC_ok (e := e_194) (L := L_194) (cs := cs_194) (n := 2000) (d := d + 0) (A := A_194) (μ := mu_194) (tp := true) (p0 := p_194_s) rfl trivial rfl (.inr pre0_ok) (by decide +kernel) (fun _ => post0_ok) r_194_s (allC c_194_s_0 allN) allN
/- MixStage.reaches (LMixStage$Sheet;I)Z -/
noncomputable def s_196 : vM := ([(3, 11, 7, 0), (2, 6, -1, 0), (0, -2147483648, 2147483647, 0)], (0, 0, 1, 0), 0, 0, [])
def postb_196 (r a0 a1 a2 : Int) (h0 h : gH) : Prop := r ≠ 0 → 0 ≤ a1
def post_196 : List Int → gH → gH → Prop := fun xs h0 h => match xs with
  | [r, a0, a1, a2] => postb_196 r a0 a1 a2 h0 h
  | _ => True
noncomputable def e_196 : vE := (196, s_196, pre0, post_196)
noncomputable def L_196 : List vE := [e_51]
def cs_196 : List vC := []
def A_196 : Int → List Int → gH → gH → Prop := fun c xs h0 h => True
def mu_196 : Int → List Int → gH → gH → Nat := fun c xs h0 h => 0
theorem q_196_0 {n0 n1 n2 n3 : Int} {H0 : gH} (f0 : n0 ≤ 2147483647) (f1 : (-2147483648) ≤ n0) (f2 : n1 = 7) (f3 : hWt T0 H0 ∧ True) (f4 : n2 = -1) (f5 : n3 = 0) : postb_196 n3 n1 n2 n0 H0 H0 := by
  unfold postb_196
  omega
theorem c_196_s_0 : vOkm T0 (eP e_196 L_196 A_196 mu_196 none) 3 ([(0, [3], [], 0), (50, [1], [], 0), (6000, [0, 1, 2], [0], 0), (0, [0], [], 7), (90, [2], [], -2147483648), (91, [2], [], 2147483647)], (3000, [3], [0], 28)) := vOk_inI fun ρ η f0 f1 f2 f3 f4 f5 => q_196_0 (n0 := ρ 2) (n1 := ρ 0) (n2 := ρ 1) (n3 := ρ 3) (H0 := η 0) f5 f4 f3 f2 f1 f0
theorem q_196_1 {n0 n1 n2 n3 n4 n5 : Int} {H0 H1 : gH} (f0 : n0 ≤ 2147483647) (f1 : (-2147483648) ≤ n0) (f2 : n1 = 7) (f3 : hWt T0 H0 ∧ True) (f4 : 0 ≤ n2) (f5 : n3 = 19) (f6 : n3 = hV H0 (n1).toNat 6) (f7 : n4 ≤ 1) (f8 : 0 ≤ n4) (f9 : (hLe T0 H0 H1 ∧ hFr s_51.2.2.2.2 H0 H1 ∧ ((0 : Int) = 0 → H1.length = H0.length) ∧ hWt T0 H1) ∧ True) (f10 : n4 = 0) (f11 : n5 = 0) : postb_196 n5 n1 n2 n0 H0 H1 := by
  unfold postb_196
  omega
theorem c_196_s_1 : vOkm T0 (eP e_196 L_196 A_196 mu_196 none) 3 ([(0, [5], [], 0), (30, [4], [], 0), (1051, [4, 3, 2], [0, 1], 0), (90, [4], [], 0), (91, [4], [], 1), (20, [3, 0], [0], 6), (0, [3], [], 19), (51, [1], [], 0), (6000, [0, 1, 2], [0], 0), (0, [0], [], 7), (90, [2], [], -2147483648), (91, [2], [], 2147483647)], (3000, [5], [1], 28)) := vOk_inI fun ρ η f0 f1 f2 f3 f4 f5 f6 f7 f8 f9 f10 f11 => q_196_1 (n0 := ρ 2) (n1 := ρ 0) (n2 := ρ 1) (n3 := ρ 3) (n4 := ρ 4) (n5 := ρ 5) (H0 := η 0) (H1 := η 1) f11 f10 f9 f8 f7 f6 f5 f4 f3 f2 f1 f0
theorem q_196_2 {n0 n1 n2 n3 n4 n5 n6 : Int} {H0 H1 : gH} (f0 : n0 ≤ 2147483647) (f1 : (-2147483648) ≤ n0) (f2 : n1 = 7) (f3 : hWt T0 H0 ∧ True) (f4 : 0 ≤ n2) (f5 : n3 = 19) (f6 : n3 = hV H0 (n1).toNat 6) (f7 : n4 ≤ 1) (f8 : 0 ≤ n4) (f9 : (hLe T0 H0 H1 ∧ hFr s_51.2.2.2.2 H0 H1 ∧ ((0 : Int) = 0 → H1.length = H0.length) ∧ hWt T0 H1) ∧ True) (f10 : n4 ≠ 0) (f11 : n5 ≤ 2147483647) (f12 : (-2147483648) ≤ n5) (f13 : hK H1 (n2).toNat = 6) (f14 : n5 = hV H1 (n2).toNat 0) (f15 : n0 < n5) (f16 : n6 = 0) : postb_196 n6 n1 n2 n0 H0 H1 := by
  unfold postb_196
  have e0 : n5 = hV H1 (n2).toNat 0 := f14
  omega
theorem c_196_s_2 : vOkm T0 (eP e_196 L_196 A_196 mu_196 none) 3 ([(0, [6], [], 0), (42, [2, 5], [], 0), (20, [5, 1], [1], 0), (23, [1], [1], 6), (90, [5], [], -2147483648), (91, [5], [], 2147483647), (31, [4], [], 0), (1051, [4, 3, 2], [0, 1], 0), (90, [4], [], 0), (91, [4], [], 1), (20, [3, 0], [0], 6), (0, [3], [], 19), (51, [1], [], 0), (6000, [0, 1, 2], [0], 0), (0, [0], [], 7), (90, [2], [], -2147483648), (91, [2], [], 2147483647)], (3000, [6], [1], 28)) := vOk_inI fun ρ η f0 f1 f2 f3 f4 f5 f6 f7 f8 f9 f10 f11 f12 f13 f14 f15 f16 => q_196_2 (n0 := ρ 2) (n1 := ρ 0) (n2 := ρ 1) (n3 := ρ 3) (n4 := ρ 4) (n5 := ρ 5) (n6 := ρ 6) (H0 := η 0) (H1 := η 1) f16 f15 f14 f13 f12 f11 f10 f9 f8 f7 f6 f5 f4 f3 f2 f1 f0
theorem q_196_3 {n0 n1 n2 n3 n4 n5 n6 : Int} {H0 H1 : gH} (f0 : n0 ≤ 2147483647) (f1 : (-2147483648) ≤ n0) (f2 : n1 = 7) (f3 : hWt T0 H0 ∧ True) (f4 : 0 ≤ n2) (f5 : n3 = 19) (f6 : n3 = hV H0 (n1).toNat 6) (f7 : n4 ≤ 1) (f8 : 0 ≤ n4) (f9 : (hLe T0 H0 H1 ∧ hFr s_51.2.2.2.2 H0 H1 ∧ ((0 : Int) = 0 → H1.length = H0.length) ∧ hWt T0 H1) ∧ True) (f10 : n4 ≠ 0) (f11 : n5 ≤ 2147483647) (f12 : (-2147483648) ≤ n5) (f13 : hK H1 (n2).toNat = 6) (f14 : n5 = hV H1 (n2).toNat 0) (f15 : n5 ≤ n0) (f16 : n6 = 1) : postb_196 n6 n1 n2 n0 H0 H1 := by
  unfold postb_196
  have e0 : n5 = hV H1 (n2).toNat 0 := f14
  omega
theorem c_196_s_3 : vOkm T0 (eP e_196 L_196 A_196 mu_196 none) 3 ([(0, [6], [], 1), (43, [2, 5], [], 0), (20, [5, 1], [1], 0), (23, [1], [1], 6), (90, [5], [], -2147483648), (91, [5], [], 2147483647), (31, [4], [], 0), (1051, [4, 3, 2], [0, 1], 0), (90, [4], [], 0), (91, [4], [], 1), (20, [3, 0], [0], 6), (0, [3], [], 19), (51, [1], [], 0), (6000, [0, 1, 2], [0], 0), (0, [0], [], 7), (90, [2], [], -2147483648), (91, [2], [], 2147483647)], (3000, [6], [1], 28)) := vOk_inI fun ρ η f0 f1 f2 f3 f4 f5 f6 f7 f8 f9 f10 f11 f12 f13 f14 f15 f16 => q_196_3 (n0 := ρ 2) (n1 := ρ 0) (n2 := ρ 1) (n3 := ρ 3) (n4 := ρ 4) (n5 := ρ 5) (n6 := ρ 6) (H0 := η 0) (H1 := η 1) f16 f15 f14 f13 f12 f11 f10 f9 f8 f7 f6 f5 f4 f3 f2 f1 f0
def p_196_s : List vG := [([(0, [3], [], 0), (50, [1], [], 0), (6000, [0, 1, 2], [0], 0), (0, [0], [], 7), (90, [2], [], -2147483648), (91, [2], [], 2147483647)], (3000, [3], [0], 28)),
  ([(0, [5], [], 0), (30, [4], [], 0), (1051, [4, 3, 2], [0, 1], 0), (90, [4], [], 0), (91, [4], [], 1), (20, [3, 0], [0], 6), (0, [3], [], 19), (51, [1], [], 0), (6000, [0, 1, 2], [0], 0), (0, [0], [], 7), (90, [2], [], -2147483648), (91, [2], [], 2147483647)], (3000, [5], [1], 28)),
  ([(0, [6], [], 0), (42, [2, 5], [], 0), (20, [5, 1], [1], 0), (23, [1], [1], 6), (90, [5], [], -2147483648), (91, [5], [], 2147483647), (31, [4], [], 0), (1051, [4, 3, 2], [0, 1], 0), (90, [4], [], 0), (91, [4], [], 1), (20, [3, 0], [0], 6), (0, [3], [], 19), (51, [1], [], 0), (6000, [0, 1, 2], [0], 0), (0, [0], [], 7), (90, [2], [], -2147483648), (91, [2], [], 2147483647)], (3000, [6], [1], 28)),
  ([(0, [6], [], 1), (43, [2, 5], [], 0), (20, [5, 1], [1], 0), (23, [1], [1], 6), (90, [5], [], -2147483648), (91, [5], [], 2147483647), (31, [4], [], 0), (1051, [4, 3, 2], [0, 1], 0), (90, [4], [], 0), (91, [4], [], 1), (20, [3, 0], [0], 6), (0, [3], [], 19), (51, [1], [], 0), (6000, [0, 1, 2], [0], 0), (0, [0], [], 7), (90, [2], [], -2147483648), (91, [2], [], 2147483647)], (3000, [6], [1], 28))]
theorem r_196_s : vCovO false (eR0 e_196 L_196 cs_196 2000) p_196_s = true := by decide +kernel
theorem m_196 (d : Nat) : eC e_196 (d + 2) := eC_ok (e := e_196) (L := L_196) (cs := cs_196) (n := 2000) (d := d + 1) (A := A_196) (μ := mu_196) (tp := false) (p0 := p_196_s) rfl ⟨m_51 d, trivial⟩ rfl (.inr pre0_ok) (by decide +kernel) (fun z => nomatch z) r_196_s (allC c_196_s_0 (allC c_196_s_1 (allC c_196_s_2 (allC c_196_s_3 allN)))) allN
/- MixStage.remake (LMixStage$Sound;)V -/
noncomputable def s_197 : vM := ([(3, 11, 7, 0), (3, 7, -1, 0)], (9, 0, 0, 0), 0, 0, [(0, 2), (2, 8), (7, 6), (7, 8), (7, 9), (10, 0), (10, 1), (10, 2), (748, 0), (757, 0), (780, 0)])
noncomputable def e_197 : vE := (197, s_197, pre0, post0)
noncomputable def L_197 : List vE := [e_5, e_19, e_28]
def cs_197 : List vC := []
def A_197 : Int → List Int → gH → gH → Prop := fun c xs h0 h => True
def mu_197 : Int → List Int → gH → gH → Nat := fun c xs h0 h => 0
def p_197_s : List vG := []
theorem r_197_s : vCovO true (eR0 e_197 L_197 cs_197 2000) p_197_s = true := by decide +kernel
theorem m_197 (d : Nat) : eC e_197 (d + 7) := eC_ok (e := e_197) (L := L_197) (cs := cs_197) (n := 2000) (d := d + 6) (A := A_197) (μ := mu_197) (tp := true) (p0 := p_197_s) rfl ⟨m_5 (d + 5), ⟨m_19 (d + 4), ⟨m_28 d, trivial⟩⟩⟩ rfl (.inr pre0_ok) (by decide +kernel) (fun _ => post0_ok) r_197_s allN allN
/- MixStage.make (III)I -/
noncomputable def s_174 : vM := ([(3, 11, 7, 0), (0, -2147483648, 2147483647, 0), (0, -2147483648, 2147483647, 0), (0, -2147483648, 2147483647, 0)], (0, -2147483648, 2147483647, 0), 0, 0, [(0, 2), (2, 8), (7, 6), (7, 8), (7, 9), (7, 10), (7, 11), (7, 12), (10, 0), (10, 1), (10, 2), (748, 0), (757, 0), (772, 0), (780, 0)])
noncomputable def e_174 : vE := (174, s_174, pre0, post0)
noncomputable def L_174 : List vE := [e_3, e_14, e_194, e_196, e_197]
def cs_174 : List vC := []
def A_174 : Int → List Int → gH → gH → Prop := fun c xs h0 h => True
def mu_174 : Int → List Int → gH → gH → Nat := fun c xs h0 h => 0
theorem kF_196_7_7 : vFree s_196.2.2.2.2 7 7 = true := by decide +kernel
theorem kF_194_7_7 : vFree s_194.2.2.2.2 7 7 = true := by decide +kernel
theorem q_174_0 {n0 n1 n2 n3 n4 n5 n6 n7 n8 n9 : Int} {H0 H1 H2 H3 : gH} (f0 : n0 ≤ 2147483647) (f1 : (-2147483648) ≤ n0) (f2 : n1 ≤ 2147483647) (f3 : (-2147483648) ≤ n1) (f4 : n2 ≤ 2147483647) (f5 : (-2147483648) ≤ n2) (f6 : n3 = 7) (f7 : hWt T0 H0 ∧ True) (f8 : n4 = 23) (f9 : n4 = hV H0 (n3).toNat 7) (f10 : n5 = 6) (f11 : (hLe T0 H0 H1 ∧ hFr s_3.2.2.2.2 H0 H1 ∧ ((0 : Int) = 0 → H1.length = H0.length) ∧ hWt T0 H1) ∧ True) (f12 : (hLe T0 H1 H2 ∧ hFr s_194.2.2.2.2 H1 H2 ∧ ((0 : Int) = 0 → H2.length = H1.length) ∧ hWt T0 H2) ∧ True) (f13 : 0 ≤ n6) (f14 : n8 ≤ 1) (f15 : 0 ≤ n8) (f16 : (hLe T0 H2 H3 ∧ hFr s_196.2.2.2.2 H2 H3 ∧ ((0 : Int) = 0 → H3.length = H2.length) ∧ hWt T0 H3) ∧ postb_196 n8 n3 n7 n0 H2 H3) (f17 : n8 ≠ 0) (f18 : n9 = 23) (f19 : n9 = hV H3 (n3).toNat 7) : 0 ≤ n7 := by
  unfold postb_196 at f16
  have e0 : hV H3 7 7 = hV H2 7 7 := f16.1.2.1.1 7 7 kF_196_7_7
  have e1 : hV H2 7 7 = hV H1 7 7 := f12.1.2.1.1 7 7 kF_194_7_7
  have e2 : hV H1 7 7 = hV H0 7 7 := f11.1.2.1.1 7 7 kF_3_7_7
  omega
theorem c_174_s_0 : vOkm T0 (eP e_174 L_174 A_174 mu_174 none) 4 ([(20, [9, 0], [3], 7), (0, [9], [], 23), (31, [8], [], 0), (1196, [8, 0, 7, 3], [2, 3], 0), (90, [8], [], 0), (91, [8], [], 1), (51, [6], [], 0), (1194, [7, 0, 2], [1, 2], 0), (1003, [6, 4, 1, 5], [0, 1], 0), (0, [5], [], 6), (20, [4, 0], [0], 7), (0, [4], [], 23), (6000, [0, 1, 2, 3], [0], 0), (0, [0], [], 7), (90, [1], [], -2147483648), (91, [1], [], 2147483647), (90, [2], [], -2147483648), (91, [2], [], 2147483647), (90, [3], [], -2147483648), (91, [3], [], 2147483647)], (51, [7], [], 0)) := vOk_inI fun ρ η f0 f1 f2 f3 f4 f5 f6 f7 f8 f9 f10 f11 f12 f13 f14 f15 f16 f17 f18 f19 => q_174_0 (n0 := ρ 3) (n1 := ρ 2) (n2 := ρ 1) (n3 := ρ 0) (n4 := ρ 4) (n5 := ρ 5) (n6 := ρ 6) (n7 := ρ 7) (n8 := ρ 8) (n9 := ρ 9) (H0 := η 0) (H1 := η 1) (H2 := η 2) (H3 := η 3) f19 f18 f17 f16 f15 f14 f13 f12 f11 f10 f9 f8 f7 f6 f5 f4 f3 f2 f1 f0
def p_174_s : List vG := [([(20, [9, 0], [3], 7), (0, [9], [], 23), (31, [8], [], 0), (1196, [8, 0, 7, 3], [2, 3], 0), (90, [8], [], 0), (91, [8], [], 1), (51, [6], [], 0), (1194, [7, 0, 2], [1, 2], 0), (1003, [6, 4, 1, 5], [0, 1], 0), (0, [5], [], 6), (20, [4, 0], [0], 7), (0, [4], [], 23), (6000, [0, 1, 2, 3], [0], 0), (0, [0], [], 7), (90, [1], [], -2147483648), (91, [1], [], 2147483647), (90, [2], [], -2147483648), (91, [2], [], 2147483647), (90, [3], [], -2147483648), (91, [3], [], 2147483647)], (51, [7], [], 0))]
theorem r_174_s : vCovO true (eR0 e_174 L_174 cs_174 2000) p_174_s = true := by decide +kernel
theorem m_174 (d : Nat) : eC e_174 (d + 8) := eC_ok (e := e_174) (L := L_174) (cs := cs_174) (n := 2000) (d := d + 7) (A := A_174) (μ := mu_174) (tp := true) (p0 := p_174_s) rfl ⟨m_3 (d + 5), ⟨m_14 (d + 3), ⟨m_194 (d + 6), ⟨m_196 (d + 5), ⟨m_197 d, trivial⟩⟩⟩⟩⟩ rfl (.inr pre0_ok) (by decide +kernel) (fun _ => post0_ok) r_174_s (allC c_174_s_0 allN) allN
/- MixStage.again ()I -/
noncomputable def s_175 : vM := ([(3, 11, 7, 0)], (0, -2147483648, 2147483647, 0), 0, 0, [(0, 2), (2, 8), (7, 6), (7, 8), (7, 9), (10, 0), (10, 1), (10, 2), (748, 0), (757, 0), (772, 0), (780, 0)])
noncomputable def e_175 : vE := (175, s_175, pre0, post0)
noncomputable def L_175 : List vE := [e_2, e_17, e_18, e_197]
def cs_175 : List vC := [(12, [(0, (3, 11, 7, 0)), (1, (0, -2147483648, 2147483647, 0)), (2, (0, -2147483648, 2147483647, 0)), (3, (0, -2147483648, 2147483647, 0))])]
def mub_175_12 (a0 x0 x1 x2 x3 : Int) (h0 h : gH) : Nat := (2147483648 - x3).toNat
def A_175 : Int → List Int → gH → gH → Prop := fun c xs h0 h => True
def mu_175 : Int → List Int → gH → gH → Nat := fun c xs h0 h => match c.toNat with
  | 12 => (match xs with
    | [a0, x0, x1, x2, x3] => mub_175_12 a0 x0 x1 x2 x3 h0 h
    | _ => 0)
  | _ => 0
theorem q_175_0 {n0 n1 n2 n3 : Int} {H0 H1 : gH}  : True ∧ ∀ q, none = some q → mub_175_12 n0 n0 n1 n2 n3 H0 H1 < q := by
  exact ⟨trivial, fun q hq => nomatch hq⟩
theorem c_175_s_0 : vOkm T0 (eP e_175 L_175 A_175 mu_175 none) 1 ([], (4000, [0, 2, 3, 4], [1], 12)) := vOk_inI fun ρ η => q_175_0 (n0 := ρ 0) (n1 := ρ 2) (n2 := ρ 3) (n3 := ρ 4) (H0 := η 0) (H1 := η 1)
def p_175_s : List vG := [([], (4000, [0, 2, 3, 4], [1], 12))]
theorem r_175_s : vCovO true (eR0 e_175 L_175 cs_175 2000) p_175_s = true := by decide +kernel
theorem q_175_1 {q0 : Nat} {n0 n1 n2 n3 n4 n5 n6 n7 n8 : Int} {H0 H1 H2 : gH} (f0 : n0 ≤ 2147483647) (f1 : (-2147483648) ≤ n0) (f2 : (hLe T0 H0 H1 ∧ hFr s_175.2.2.2.2 H0 H1 ∧ hWt T0 H1) ∧ (True ∧ True) ∧ some q0 = some (mub_175_12 n1 n2 n3 n4 n0 H0 H1)) (f3 : n5 = 20) (f4 : n0 < n5) (f5 : n6 = w32 (n0 + 1)) : True ∧ ∀ q, some q0 = some q → mub_175_12 n1 n2 n7 n8 n6 H0 H2 < q := by
  have g5 := Option.some.inj f2.2.2
  unfold mub_175_12 at g5
  unfold mub_175_12
  unfold w32 at f5
  refine ⟨?_, fun q hq => ?_⟩
  · trivial
  · have g6 := Option.some.inj hq
    subst g6
    omega
theorem c_175_12_0 {q0 : Nat} : vOkm T0 (eP e_175 L_175 A_175 mu_175 (some q0)) 1 ([(10, [16, 4], [], 1), (42, [4, 5], [], 0), (0, [5], [], 20), (5000, [0, 1, 2, 3, 4], [0, 1], 12), (90, [4], [], -2147483648), (91, [4], [], 2147483647)], (4000, [1, 14, 15, 16], [4], 12)) := vOk_inI fun ρ η f0 f1 f2 f3 f4 f5 => q_175_1 (q0 := q0) (n0 := ρ 4) (n1 := ρ 0) (n2 := ρ 1) (n3 := ρ 2) (n4 := ρ 3) (n5 := ρ 5) (n6 := ρ 16) (n7 := ρ 14) (n8 := ρ 15) (H0 := η 0) (H1 := η 1) (H2 := η 4) f5 f4 f3 f2 f1 f0
def p_175_12 : List vG := [([(10, [16, 4], [], 1), (42, [4, 5], [], 0), (0, [5], [], 20), (5000, [0, 1, 2, 3, 4], [0, 1], 12), (90, [4], [], -2147483648), (91, [4], [], 2147483647)], (4000, [1, 14, 15, 16], [4], 12))]
theorem r_175_12 : vCovO true (eRc e_175 L_175 cs_175 2000 (12, [(0, (3, 11, 7, 0)), (1, (0, -2147483648, 2147483647, 0)), (2, (0, -2147483648, 2147483647, 0)), (3, (0, -2147483648, 2147483647, 0))])) p_175_12 = true := by decide +kernel
theorem m_175 (d : Nat) : eC e_175 (d + 8) := eC_ok (e := e_175) (L := L_175) (cs := cs_175) (n := 2000) (d := d + 7) (A := A_175) (μ := mu_175) (tp := true) (p0 := p_175_s) rfl ⟨m_2 (d + 6), ⟨m_17 (d + 3), ⟨m_18 (d + 5), ⟨m_197 d, trivial⟩⟩⟩⟩ rfl (.inr pre0_ok) (by decide +kernel) (fun _ => post0_ok) r_175_s (allC c_175_s_0 allN) (allC (.inl ⟨p_175_12, r_175_12, fun q0 => (allC c_175_12_0 allN)⟩) allN)
/- MixStage.length (I)I -/
noncomputable def s_176 : vM := ([(3, 11, 7, 0), (0, -2147483648, 2147483647, 0)], (0, -2147483648, 2147483647, 0), 0, 0, [(10, 0), (10, 1), (10, 2)])
noncomputable def e_176 : vE := (176, s_176, pre0, post0)
noncomputable def L_176 : List vE := [e_2, e_152]
def cs_176 : List vC := []
def A_176 : Int → List Int → gH → gH → Prop := fun c xs h0 h => True
def mu_176 : Int → List Int → gH → gH → Nat := fun c xs h0 h => 0
def p_176_s : List vG := []
theorem r_176_s : vCovO true (eR0 e_176 L_176 cs_176 2000) p_176_s = true := by decide +kernel
theorem m_176 (d : Nat) : eC e_176 (d + 4) := eC_ok (e := e_176) (L := L_176) (cs := cs_176) (n := 2000) (d := d + 3) (A := A_176) (μ := mu_176) (tp := true) (p0 := p_176_s) rfl ⟨m_2 (d + 2), ⟨m_152 d, trivial⟩⟩ rfl (.inr pre0_ok) (by decide +kernel) (fun _ => post0_ok) r_176_s allN allN
/- MixStage.heard (II)I -/
noncomputable def s_177 : vM := ([(3, 11, 7, 0), (0, -2147483648, 2147483647, 0), (0, -2147483648, 2147483647, 0)], (0, -2147483648, 2147483647, 0), 0, 0, [(10, 0), (10, 1), (10, 2)])
noncomputable def e_177 : vE := (177, s_177, pre0, post0)
noncomputable def L_177 : List vE := [e_152, e_153]
def cs_177 : List vC := []
def A_177 : Int → List Int → gH → gH → Prop := fun c xs h0 h => True
def mu_177 : Int → List Int → gH → gH → Nat := fun c xs h0 h => 0
def p_177_s : List vG := []
theorem r_177_s : vCovO true (eR0 e_177 L_177 cs_177 2000) p_177_s = true := by decide +kernel
theorem m_177 (d : Nat) : eC e_177 (d + 4) := eC_ok (e := e_177) (L := L_177) (cs := cs_177) (n := 2000) (d := d + 3) (A := A_177) (μ := mu_177) (tp := true) (p0 := p_177_s) rfl ⟨m_152 d, ⟨m_153 (d + 1), trivial⟩⟩ rfl (.inr pre0_ok) (by decide +kernel) (fun _ => post0_ok) r_177_s allN allN
/- MixStage.about (II)I -/
noncomputable def s_178 : vM := ([(3, 11, 7, 0), (0, -2147483648, 2147483647, 0), (0, -2147483648, 2147483647, 0)], (0, -2147483648, 2147483647, 0), 0, 0, [(772, 0)])
noncomputable def e_178 : vE := (178, s_178, pre0, post0)
noncomputable def L_178 : List vE := [e_2, e_17, e_20]
def cs_178 : List vC := []
def A_178 : Int → List Int → gH → gH → Prop := fun c xs h0 h => True
def mu_178 : Int → List Int → gH → gH → Nat := fun c xs h0 h => 0
def p_178_s : List vG := []
theorem r_178_s : vCovO true (eR0 e_178 L_178 cs_178 2000) p_178_s = true := by decide +kernel
theorem m_178 (d : Nat) : eC e_178 (d + 5) := eC_ok (e := e_178) (L := L_178) (cs := cs_178) (n := 2000) (d := d + 4) (A := A_178) (μ := mu_178) (tp := true) (p0 := p_178_s) rfl ⟨m_2 (d + 3), ⟨m_17 d, ⟨m_20 (d + 1), trivial⟩⟩⟩ rfl (.inr pre0_ok) (by decide +kernel) (fun _ => post0_ok) r_178_s allN allN
/- MixStage.leans (I)I -/
noncomputable def s_179 : vM := ([(3, 11, 7, 0), (0, -2147483648, 2147483647, 0)], (0, -2147483648, 2147483647, 0), 0, 0, [(772, 0)])
noncomputable def e_179 : vE := (179, s_179, pre0, post0)
noncomputable def L_179 : List vE := [e_2, e_13]
def cs_179 : List vC := []
def A_179 : Int → List Int → gH → gH → Prop := fun c xs h0 h => True
def mu_179 : Int → List Int → gH → gH → Nat := fun c xs h0 h => 0
def p_179_s : List vG := []
theorem r_179_s : vCovO true (eR0 e_179 L_179 cs_179 2000) p_179_s = true := by decide +kernel
theorem m_179 (d : Nat) : eC e_179 (d + 5) := eC_ok (e := e_179) (L := L_179) (cs := cs_179) (n := 2000) (d := d + 4) (A := A_179) (μ := mu_179) (tp := true) (p0 := p_179_s) rfl ⟨m_2 (d + 3), ⟨m_13 d, trivial⟩⟩ rfl (.inr pre0_ok) (by decide +kernel) (fun _ => post0_ok) r_179_s allN allN
/- MixStage.cues (I)I -/
noncomputable def s_180 : vM := ([(3, 11, 7, 0), (0, -2147483648, 2147483647, 0)], (0, -2147483648, 2147483647, 0), 0, 0, [])
noncomputable def e_180 : vE := (180, s_180, pre0, post0)
noncomputable def L_180 : List vE := [e_194]
def cs_180 : List vC := []
def A_180 : Int → List Int → gH → gH → Prop := fun c xs h0 h => True
def mu_180 : Int → List Int → gH → gH → Nat := fun c xs h0 h => 0
def p_180_s : List vG := []
theorem r_180_s : vCovO true (eR0 e_180 L_180 cs_180 2000) p_180_s = true := by decide +kernel
theorem m_180 (d : Nat) : eC e_180 (d + 2) := eC_ok (e := e_180) (L := L_180) (cs := cs_180) (n := 2000) (d := d + 1) (A := A_180) (μ := mu_180) (tp := true) (p0 := p_180_s) rfl ⟨m_194 d, trivial⟩ rfl (.inr pre0_ok) (by decide +kernel) (fun _ => post0_ok) r_180_s allN allN
/- MixStage.cueOf (LMixStage$Sheet;I)LMixStage$Cue; -/
noncomputable def s_195 : vM := ([(2, 6, -1, 0), (0, -2147483648, 2147483647, 0)], (2, 1, -1, 0), 0, 0, [])
noncomputable def e_195 : vE := (195, s_195, pre0, post0)
noncomputable def L_195 : List vE := [e_115]
def cs_195 : List vC := []
def A_195 : Int → List Int → gH → gH → Prop := fun c xs h0 h => True
def mu_195 : Int → List Int → gH → gH → Nat := fun c xs h0 h => 0
def p_195_s : List vG := []
theorem r_195_s : vCovO true (eR0 e_195 L_195 cs_195 2000) p_195_s = true := by decide +kernel
theorem m_195 (d : Nat) : eC e_195 (d + 2) := eC_ok (e := e_195) (L := L_195) (cs := cs_195) (n := 2000) (d := d + 1) (A := A_195) (μ := mu_195) (tp := true) (p0 := p_195_s) rfl ⟨m_115 d, trivial⟩ rfl (.inr pre0_ok) (by decide +kernel) (fun _ => post0_ok) r_195_s allN allN
/- MixStage.cue (III)I -/
noncomputable def s_181 : vM := ([(3, 11, 7, 0), (0, -2147483648, 2147483647, 0), (0, -2147483648, 2147483647, 0), (0, -2147483648, 2147483647, 0)], (0, -2147483648, 2147483647, 0), 0, 0, [])
noncomputable def e_181 : vE := (181, s_181, pre0, post0)
noncomputable def L_181 : List vE := [e_8, e_23, e_194, e_195]
def cs_181 : List vC := []
def A_181 : Int → List Int → gH → gH → Prop := fun c xs h0 h => True
def mu_181 : Int → List Int → gH → gH → Nat := fun c xs h0 h => 0
def p_181_s : List vG := []
theorem r_181_s : vCovO true (eR0 e_181 L_181 cs_181 2000) p_181_s = true := by decide +kernel
theorem m_181 (d : Nat) : eC e_181 (d + 3) := eC_ok (e := e_181) (L := L_181) (cs := cs_181) (n := 2000) (d := d + 2) (A := A_181) (μ := mu_181) (tp := true) (p0 := p_181_s) rfl ⟨m_8 d, ⟨m_23 (d + 1), ⟨m_194 (d + 1), ⟨m_195 d, trivial⟩⟩⟩⟩ rfl (.inr pre0_ok) (by decide +kernel) (fun _ => post0_ok) r_181_s allN allN
/- MixStage.fate (III)I -/
noncomputable def s_182 : vM := ([(3, 11, 7, 0), (0, -2147483648, 2147483647, 0), (0, -2147483648, 2147483647, 0), (0, -2147483648, 2147483647, 0)], (0, -2147483648, 2147483647, 0), 0, 0, [(10, 0), (10, 1), (10, 2), (748, 0), (764, 0)])
noncomputable def e_182 : vE := (182, s_182, pre0, post0)
noncomputable def L_182 : List vE := [e_137, e_194, e_195, e_196]
def cs_182 : List vC := []
def A_182 : Int → List Int → gH → gH → Prop := fun c xs h0 h => True
def mu_182 : Int → List Int → gH → gH → Nat := fun c xs h0 h => 0
theorem q_182_0 {n0 n1 n2 n3 n4 n5 n6 : Int} {H0 H1 H2 H3 : gH} (f0 : n0 ≤ 2147483647) (f1 : (-2147483648) ≤ n0) (f2 : n1 ≤ 2147483647) (f3 : (-2147483648) ≤ n1) (f4 : n2 ≤ 2147483647) (f5 : (-2147483648) ≤ n2) (f6 : n3 = 7) (f7 : hWt T0 H0 ∧ True) (f8 : (hLe T0 H0 H1 ∧ hFr s_194.2.2.2.2 H0 H1 ∧ ((0 : Int) = 0 → H1.length = H0.length) ∧ hWt T0 H1) ∧ True) (f9 : (hLe T0 H1 H2 ∧ hFr s_195.2.2.2.2 H1 H2 ∧ ((0 : Int) = 0 → H2.length = H1.length) ∧ hWt T0 H2) ∧ True) (f10 : 0 ≤ n5) (f11 : hK H2 (n5).toNat = 1) (f12 : n6 ≤ 1) (f13 : 0 ≤ n6) (f14 : (hLe T0 H2 H3 ∧ hFr s_196.2.2.2.2 H2 H3 ∧ ((0 : Int) = 0 → H3.length = H2.length) ∧ hWt T0 H3) ∧ postb_196 n6 n3 n4 n0 H2 H3) (f15 : n6 ≠ 0) : 0 ≤ n4 := by
  unfold postb_196 at f14
  omega
theorem c_182_s_0 : vOkm T0 (eP e_182 L_182 A_182 mu_182 none) 4 ([(31, [7], [], 0), (1196, [7, 0, 4, 3], [2, 3], 0), (90, [7], [], 0), (91, [7], [], 1), (23, [5], [2], 1), (51, [5], [], 0), (1195, [5, 4, 2], [1, 2], 0), (1194, [4, 0, 1], [0, 1], 0), (6000, [0, 1, 2, 3], [0], 0), (0, [0], [], 7), (90, [1], [], -2147483648), (91, [1], [], 2147483647), (90, [2], [], -2147483648), (91, [2], [], 2147483647), (90, [3], [], -2147483648), (91, [3], [], 2147483647)], (51, [4], [], 0)) := vOk_inI fun ρ η f0 f1 f2 f3 f4 f5 f6 f7 f8 f9 f10 f11 f12 f13 f14 f15 => q_182_0 (n0 := ρ 3) (n1 := ρ 2) (n2 := ρ 1) (n3 := ρ 0) (n4 := ρ 4) (n5 := ρ 5) (n6 := ρ 7) (H0 := η 0) (H1 := η 1) (H2 := η 2) (H3 := η 3) f15 f14 f13 f12 f11 f10 f9 f8 f7 f6 f5 f4 f3 f2 f1 f0
def p_182_s : List vG := [([(31, [7], [], 0), (1196, [7, 0, 4, 3], [2, 3], 0), (90, [7], [], 0), (91, [7], [], 1), (23, [5], [2], 1), (51, [5], [], 0), (1195, [5, 4, 2], [1, 2], 0), (1194, [4, 0, 1], [0, 1], 0), (6000, [0, 1, 2, 3], [0], 0), (0, [0], [], 7), (90, [1], [], -2147483648), (91, [1], [], 2147483647), (90, [2], [], -2147483648), (91, [2], [], 2147483647), (90, [3], [], -2147483648), (91, [3], [], 2147483647)], (51, [4], [], 0))]
theorem r_182_s : vCovO true (eR0 e_182 L_182 cs_182 2000) p_182_s = true := by decide +kernel
theorem m_182 (d : Nat) : eC e_182 (d + 7) := eC_ok (e := e_182) (L := L_182) (cs := cs_182) (n := 2000) (d := d + 6) (A := A_182) (μ := mu_182) (tp := true) (p0 := p_182_s) rfl ⟨m_137 d, ⟨m_194 (d + 5), ⟨m_195 (d + 4), ⟨m_196 (d + 4), trivial⟩⟩⟩⟩ rfl (.inr pre0_ok) (by decide +kernel) (fun _ => post0_ok) r_182_s (allC c_182_s_0 allN) allN
/- MixStage.goes (III)I -/
noncomputable def s_183 : vM := ([(3, 11, 7, 0), (0, -2147483648, 2147483647, 0), (0, -2147483648, 2147483647, 0), (0, -2147483648, 2147483647, 0)], (0, -2147483648, 2147483647, 0), 0, 0, [(10, 0), (10, 1), (10, 2), (748, 0), (764, 0)])
noncomputable def e_183 : vE := (183, s_183, pre0, post0)
noncomputable def L_183 : List vE := [e_136, e_194, e_195, e_196]
def cs_183 : List vC := []
def A_183 : Int → List Int → gH → gH → Prop := fun c xs h0 h => True
def mu_183 : Int → List Int → gH → gH → Nat := fun c xs h0 h => 0
theorem q_183_0 {n0 n1 n2 n3 n4 n5 n6 : Int} {H0 H1 H2 H3 : gH} (f0 : n0 ≤ 2147483647) (f1 : (-2147483648) ≤ n0) (f2 : n1 ≤ 2147483647) (f3 : (-2147483648) ≤ n1) (f4 : n2 ≤ 2147483647) (f5 : (-2147483648) ≤ n2) (f6 : n3 = 7) (f7 : hWt T0 H0 ∧ True) (f8 : (hLe T0 H0 H1 ∧ hFr s_194.2.2.2.2 H0 H1 ∧ ((0 : Int) = 0 → H1.length = H0.length) ∧ hWt T0 H1) ∧ True) (f9 : (hLe T0 H1 H2 ∧ hFr s_195.2.2.2.2 H1 H2 ∧ ((0 : Int) = 0 → H2.length = H1.length) ∧ hWt T0 H2) ∧ True) (f10 : 0 ≤ n5) (f11 : hK H2 (n5).toNat = 1) (f12 : n6 ≤ 1) (f13 : 0 ≤ n6) (f14 : (hLe T0 H2 H3 ∧ hFr s_196.2.2.2.2 H2 H3 ∧ ((0 : Int) = 0 → H3.length = H2.length) ∧ hWt T0 H3) ∧ postb_196 n6 n3 n4 n0 H2 H3) (f15 : n6 ≠ 0) : 0 ≤ n4 := by
  unfold postb_196 at f14
  omega
theorem c_183_s_0 : vOkm T0 (eP e_183 L_183 A_183 mu_183 none) 4 ([(31, [7], [], 0), (1196, [7, 0, 4, 3], [2, 3], 0), (90, [7], [], 0), (91, [7], [], 1), (23, [5], [2], 1), (51, [5], [], 0), (1195, [5, 4, 2], [1, 2], 0), (1194, [4, 0, 1], [0, 1], 0), (6000, [0, 1, 2, 3], [0], 0), (0, [0], [], 7), (90, [1], [], -2147483648), (91, [1], [], 2147483647), (90, [2], [], -2147483648), (91, [2], [], 2147483647), (90, [3], [], -2147483648), (91, [3], [], 2147483647)], (51, [4], [], 0)) := vOk_inI fun ρ η f0 f1 f2 f3 f4 f5 f6 f7 f8 f9 f10 f11 f12 f13 f14 f15 => q_183_0 (n0 := ρ 3) (n1 := ρ 2) (n2 := ρ 1) (n3 := ρ 0) (n4 := ρ 4) (n5 := ρ 5) (n6 := ρ 7) (H0 := η 0) (H1 := η 1) (H2 := η 2) (H3 := η 3) f15 f14 f13 f12 f11 f10 f9 f8 f7 f6 f5 f4 f3 f2 f1 f0
def p_183_s : List vG := [([(31, [7], [], 0), (1196, [7, 0, 4, 3], [2, 3], 0), (90, [7], [], 0), (91, [7], [], 1), (23, [5], [2], 1), (51, [5], [], 0), (1195, [5, 4, 2], [1, 2], 0), (1194, [4, 0, 1], [0, 1], 0), (6000, [0, 1, 2, 3], [0], 0), (0, [0], [], 7), (90, [1], [], -2147483648), (91, [1], [], 2147483647), (90, [2], [], -2147483648), (91, [2], [], 2147483647), (90, [3], [], -2147483648), (91, [3], [], 2147483647)], (51, [4], [], 0))]
theorem r_183_s : vCovO true (eR0 e_183 L_183 cs_183 2000) p_183_s = true := by decide +kernel
theorem m_183 (d : Nat) : eC e_183 (d + 7) := eC_ok (e := e_183) (L := L_183) (cs := cs_183) (n := 2000) (d := d + 6) (A := A_183) (μ := mu_183) (tp := true) (p0 := p_183_s) rfl ⟨m_136 d, ⟨m_194 (d + 5), ⟨m_195 (d + 4), ⟨m_196 (d + 4), trivial⟩⟩⟩⟩ rfl (.inr pre0_ok) (by decide +kernel) (fun _ => post0_ok) r_183_s (allC c_183_s_0 allN) allN
/- MixStage.quarrel (II)I -/
noncomputable def s_184 : vM := ([(3, 11, 7, 0), (0, -2147483648, 2147483647, 0), (0, -2147483648, 2147483647, 0)], (0, -2147483648, 2147483647, 0), 0, 0, [])
noncomputable def e_184 : vE := (184, s_184, pre0, post0)
noncomputable def L_184 : List vE := [e_145, e_194]
def cs_184 : List vC := []
def A_184 : Int → List Int → gH → gH → Prop := fun c xs h0 h => True
def mu_184 : Int → List Int → gH → gH → Nat := fun c xs h0 h => 0
def p_184_s : List vG := []
theorem r_184_s : vCovO true (eR0 e_184 L_184 cs_184 2000) p_184_s = true := by decide +kernel
theorem m_184 (d : Nat) : eC e_184 (d + 5) := eC_ok (e := e_184) (L := L_184) (cs := cs_184) (n := 2000) (d := d + 4) (A := A_184) (μ := mu_184) (tp := true) (p0 := p_184_s) rfl ⟨m_145 d, ⟨m_194 (d + 3), trivial⟩⟩ rfl (.inr pre0_ok) (by decide +kernel) (fun _ => post0_ok) r_184_s allN allN
/- MixStage.loud (II)I -/
noncomputable def s_185 : vM := ([(3, 11, 7, 0), (0, -2147483648, 2147483647, 0), (0, -2147483648, 2147483647, 0)], (0, -2147483648, 2147483647, 0), 0, 0, [(2, 8), (10, 0), (10, 1), (10, 2), (748, 0)])
noncomputable def e_185 : vE := (185, s_185, pre0, post0)
noncomputable def L_185 : List vE := [e_2, e_33]
def cs_185 : List vC := []
def A_185 : Int → List Int → gH → gH → Prop := fun c xs h0 h => True
def mu_185 : Int → List Int → gH → gH → Nat := fun c xs h0 h => 0
def p_185_s : List vG := []
theorem r_185_s : vCovO true (eR0 e_185 L_185 cs_185 2000) p_185_s = true := by decide +kernel
theorem m_185 (d : Nat) : eC e_185 (d + 5) := eC_ok (e := e_185) (L := L_185) (cs := cs_185) (n := 2000) (d := d + 4) (A := A_185) (μ := mu_185) (tp := true) (p0 := p_185_s) rfl ⟨m_2 (d + 3), ⟨m_33 d, trivial⟩⟩ rfl (.inr pre0_ok) (by decide +kernel) (fun _ => post0_ok) r_185_s allN allN
/- MixStage.tame (I)I -/
noncomputable def s_186 : vM := ([(3, 11, 7, 0), (0, -2147483648, 2147483647, 0)], (0, -2147483648, 2147483647, 0), 0, 0, [(2, 8), (10, 0), (10, 1), (10, 2), (748, 0), (757, 0)])
noncomputable def e_186 : vE := (186, s_186, pre0, post0)
noncomputable def L_186 : List vE := [e_29, e_103, e_104, e_105, e_194]
def cs_186 : List vC := []
def A_186 : Int → List Int → gH → gH → Prop := fun c xs h0 h => True
def mu_186 : Int → List Int → gH → gH → Nat := fun c xs h0 h => 0
def p_186_s : List vG := []
theorem r_186_s : vCovO true (eR0 e_186 L_186 cs_186 2000) p_186_s = true := by decide +kernel
theorem m_186 (d : Nat) : eC e_186 (d + 8) := eC_ok (e := e_186) (L := L_186) (cs := cs_186) (n := 2000) (d := d + 7) (A := A_186) (μ := mu_186) (tp := true) (p0 := p_186_s) rfl ⟨m_29 d, ⟨m_103 (d + 5), ⟨m_104 (d + 5), ⟨m_105 (d + 5), ⟨m_194 (d + 6), trivial⟩⟩⟩⟩⟩ rfl (.inr pre0_ok) (by decide +kernel) (fun _ => post0_ok) r_186_s allN allN
/- MixStage.seam (I)I -/
noncomputable def s_187 : vM := ([(3, 11, 7, 0), (0, -2147483648, 2147483647, 0)], (0, -2147483648, 2147483647, 0), 0, 0, [])
noncomputable def e_187 : vE := (187, s_187, pre0, post0)
noncomputable def L_187 : List vE := [e_3, e_199k780, e_316]
def cs_187 : List vC := []
def A_187 : Int → List Int → gH → gH → Prop := fun c xs h0 h => True
def mu_187 : Int → List Int → gH → gH → Nat := fun c xs h0 h => 0
def p_187_s : List vG := []
theorem r_187_s : vCovO true (eR0 e_187 L_187 cs_187 2000) p_187_s = true := by decide +kernel
theorem m_187 (d : Nat) : eC e_187 (d + 3) := eC_ok (e := e_187) (L := L_187) (cs := cs_187) (n := 2000) (d := d + 2) (A := A_187) (μ := mu_187) (tp := true) (p0 := p_187_s) rfl ⟨m_3 d, ⟨m_199k780 (d + 1), ⟨m_316 (d + 1), trivial⟩⟩⟩ rfl (.inr pre0_ok) (by decide +kernel) (fun _ => post0_ok) r_187_s allN allN
/- MixStage.fit (IIII)I -/
noncomputable def s_188 : vM := ([(3, 11, 7, 0), (0, -2147483648, 2147483647, 0), (0, -2147483648, 2147483647, 0), (0, -2147483648, 2147483647, 0), (0, -2147483648, 2147483647, 0)], (0, -2147483648, 2147483647, 0), 0, 0, [(9, 5), (9, 6), (9, 7)])
noncomputable def e_188 : vE := (188, s_188, pre0, post0)
noncomputable def L_188 : List vE := [e_3, e_147]
def cs_188 : List vC := []
def A_188 : Int → List Int → gH → gH → Prop := fun c xs h0 h => True
def mu_188 : Int → List Int → gH → gH → Nat := fun c xs h0 h => 0
def p_188_s : List vG := []
theorem r_188_s : vCovO true (eR0 e_188 L_188 cs_188 2000) p_188_s = true := by decide +kernel
theorem m_188 (d : Nat) : eC e_188 (d + 6) := eC_ok (e := e_188) (L := L_188) (cs := cs_188) (n := 2000) (d := d + 5) (A := A_188) (μ := mu_188) (tp := true) (p0 := p_188_s) rfl ⟨m_3 (d + 3), ⟨m_147 d, trivial⟩⟩ rfl (.inr pre0_ok) (by decide +kernel) (fun _ => post0_ok) r_188_s allN allN
/- MixStage.sounding (III)I -/
noncomputable def s_189 : vM := ([(3, 11, 7, 0), (0, -2147483648, 2147483647, 0), (0, -2147483648, 2147483647, 0), (0, -2147483648, 2147483647, 0)], (0, -2147483648, 2147483647, 0), 0, 0, [(10, 0), (10, 1), (10, 2), (748, 0), (764, 0)])
noncomputable def e_189 : vE := (189, s_189, pre0, post0)
noncomputable def L_189 : List vE := [e_3, e_143, e_194, e_196]
def cs_189 : List vC := []
def A_189 : Int → List Int → gH → gH → Prop := fun c xs h0 h => True
def mu_189 : Int → List Int → gH → gH → Nat := fun c xs h0 h => 0
theorem q_189_0 {n0 n1 n2 n3 n4 n5 n6 n7 n8 : Int} {H0 H1 H2 H3 : gH} (f0 : n0 ≤ 2147483647) (f1 : (-2147483648) ≤ n0) (f2 : n1 ≤ 2147483647) (f3 : (-2147483648) ≤ n1) (f4 : n2 ≤ 2147483647) (f5 : (-2147483648) ≤ n2) (f6 : n3 = 7) (f7 : hWt T0 H0 ∧ True) (f8 : (hLe T0 H0 H1 ∧ hFr s_194.2.2.2.2 H0 H1 ∧ ((0 : Int) = 0 → H1.length = H0.length) ∧ hWt T0 H1) ∧ True) (f9 : n5 = 23) (f10 : n5 = hV H1 (n3).toNat 7) (f11 : n6 = 3) (f12 : (hLe T0 H1 H2 ∧ hFr s_3.2.2.2.2 H1 H2 ∧ ((0 : Int) = 0 → H2.length = H1.length) ∧ hWt T0 H2) ∧ True) (f13 : 0 ≤ n7) (f14 : n8 ≤ 1) (f15 : 0 ≤ n8) (f16 : (hLe T0 H2 H3 ∧ hFr s_196.2.2.2.2 H2 H3 ∧ ((0 : Int) = 0 → H3.length = H2.length) ∧ hWt T0 H3) ∧ postb_196 n8 n3 n4 n0 H2 H3) (f17 : n8 ≠ 0) : 0 ≤ n4 := by
  unfold postb_196 at f16
  have e0 : hV H1 7 7 = hV H0 7 7 := f8.1.2.1.1 7 7 kF_194_7_7
  omega
theorem c_189_s_0 : vOkm T0 (eP e_189 L_189 A_189 mu_189 none) 4 ([(31, [8], [], 0), (1196, [8, 0, 4, 3], [2, 3], 0), (90, [8], [], 0), (91, [8], [], 1), (51, [7], [], 0), (1003, [7, 5, 2, 6], [1, 2], 0), (0, [6], [], 3), (20, [5, 0], [1], 7), (0, [5], [], 23), (1194, [4, 0, 1], [0, 1], 0), (6000, [0, 1, 2, 3], [0], 0), (0, [0], [], 7), (90, [1], [], -2147483648), (91, [1], [], 2147483647), (90, [2], [], -2147483648), (91, [2], [], 2147483647), (90, [3], [], -2147483648), (91, [3], [], 2147483647)], (51, [4], [], 0)) := vOk_inI fun ρ η f0 f1 f2 f3 f4 f5 f6 f7 f8 f9 f10 f11 f12 f13 f14 f15 f16 f17 => q_189_0 (n0 := ρ 3) (n1 := ρ 2) (n2 := ρ 1) (n3 := ρ 0) (n4 := ρ 4) (n5 := ρ 5) (n6 := ρ 6) (n7 := ρ 7) (n8 := ρ 8) (H0 := η 0) (H1 := η 1) (H2 := η 2) (H3 := η 3) f17 f16 f15 f14 f13 f12 f11 f10 f9 f8 f7 f6 f5 f4 f3 f2 f1 f0
def p_189_s : List vG := [([(31, [8], [], 0), (1196, [8, 0, 4, 3], [2, 3], 0), (90, [8], [], 0), (91, [8], [], 1), (51, [7], [], 0), (1003, [7, 5, 2, 6], [1, 2], 0), (0, [6], [], 3), (20, [5, 0], [1], 7), (0, [5], [], 23), (1194, [4, 0, 1], [0, 1], 0), (6000, [0, 1, 2, 3], [0], 0), (0, [0], [], 7), (90, [1], [], -2147483648), (91, [1], [], 2147483647), (90, [2], [], -2147483648), (91, [2], [], 2147483647), (90, [3], [], -2147483648), (91, [3], [], 2147483647)], (51, [4], [], 0))]
theorem r_189_s : vCovO true (eR0 e_189 L_189 cs_189 2000) p_189_s = true := by decide +kernel
theorem m_189 (d : Nat) : eC e_189 (d + 7) := eC_ok (e := e_189) (L := L_189) (cs := cs_189) (n := 2000) (d := d + 6) (A := A_189) (μ := mu_189) (tp := true) (p0 := p_189_s) rfl ⟨m_3 (d + 4), ⟨m_143 d, ⟨m_194 (d + 5), ⟨m_196 (d + 4), trivial⟩⟩⟩⟩ rfl (.inr pre0_ok) (by decide +kernel) (fun _ => post0_ok) r_189_s (allC c_189_s_0 allN) allN
/- MixStage.owed (IIII)I -/
noncomputable def s_190 : vM := ([(3, 11, 7, 0), (0, -2147483648, 2147483647, 0), (0, -2147483648, 2147483647, 0), (0, -2147483648, 2147483647, 0), (0, -2147483648, 2147483647, 0)], (0, -2147483648, 2147483647, 0), 0, 0, [(5, 10), (5, 11), (10, 0), (10, 1), (10, 2), (100, 0), (748, 0), (764, 0)])
noncomputable def e_190 : vE := (190, s_190, pre0, post0)
noncomputable def L_190 : List vE := [e_3, e_106, e_107, e_142, e_143, e_194, e_196, e_317, e_319]
def cs_190 : List vC := []
def A_190 : Int → List Int → gH → gH → Prop := fun c xs h0 h => True
def mu_190 : Int → List Int → gH → gH → Nat := fun c xs h0 h => 0
theorem q_190_0 {n0 n1 n2 n3 n4 n5 n6 n7 n8 n9 n10 : Int} {H0 H1 H2 H3 : gH} (f0 : n0 ≤ 2147483647) (f1 : (-2147483648) ≤ n0) (f2 : n1 ≤ 2147483647) (f3 : (-2147483648) ≤ n1) (f4 : n2 ≤ 2147483647) (f5 : (-2147483648) ≤ n2) (f6 : n3 ≤ 2147483647) (f7 : (-2147483648) ≤ n3) (f8 : n4 = 7) (f9 : hWt T0 H0 ∧ True) (f10 : (hLe T0 H0 H1 ∧ hFr s_194.2.2.2.2 H0 H1 ∧ ((0 : Int) = 0 → H1.length = H0.length) ∧ hWt T0 H1) ∧ True) (f11 : n6 = 23) (f12 : n6 = hV H1 (n4).toNat 7) (f13 : n7 = 3) (f14 : (hLe T0 H1 H2 ∧ hFr s_3.2.2.2.2 H1 H2 ∧ ((0 : Int) = 0 → H2.length = H1.length) ∧ hWt T0 H2) ∧ True) (f15 : 0 ≤ n8) (f16 : n9 ≤ 1) (f17 : 0 ≤ n9) (f18 : (hLe T0 H2 H3 ∧ hFr s_196.2.2.2.2 H2 H3 ∧ ((0 : Int) = 0 → H3.length = H2.length) ∧ hWt T0 H3) ∧ postb_196 n9 n4 n5 n1 H2 H3) (f19 : n9 ≠ 0) (f20 : 0 ≤ n0) (f21 : n10 = 9) (f22 : n0 ≤ n10) : 0 ≤ n5 := by
  unfold postb_196 at f18
  have e0 : hV H1 7 7 = hV H0 7 7 := f10.1.2.1.1 7 7 kF_194_7_7
  omega
theorem c_190_s_0 : vOkm T0 (eP e_190 L_190 A_190 mu_190 none) 5 ([(45, [4, 10], [], 0), (0, [10], [], 9), (33, [4], [], 0), (31, [9], [], 0), (1196, [9, 0, 5, 3], [2, 3], 0), (90, [9], [], 0), (91, [9], [], 1), (51, [8], [], 0), (1003, [8, 6, 2, 7], [1, 2], 0), (0, [7], [], 3), (20, [6, 0], [1], 7), (0, [6], [], 23), (1194, [5, 0, 1], [0, 1], 0), (6000, [0, 1, 2, 3, 4], [0], 0), (0, [0], [], 7), (90, [1], [], -2147483648), (91, [1], [], 2147483647), (90, [2], [], -2147483648), (91, [2], [], 2147483647), (90, [3], [], -2147483648), (91, [3], [], 2147483647), (90, [4], [], -2147483648), (91, [4], [], 2147483647)], (51, [5], [], 0)) := vOk_inI fun ρ η f0 f1 f2 f3 f4 f5 f6 f7 f8 f9 f10 f11 f12 f13 f14 f15 f16 f17 f18 f19 f20 f21 f22 => q_190_0 (n0 := ρ 4) (n1 := ρ 3) (n2 := ρ 2) (n3 := ρ 1) (n4 := ρ 0) (n5 := ρ 5) (n6 := ρ 6) (n7 := ρ 7) (n8 := ρ 8) (n9 := ρ 9) (n10 := ρ 10) (H0 := η 0) (H1 := η 1) (H2 := η 2) (H3 := η 3) f22 f21 f20 f19 f18 f17 f16 f15 f14 f13 f12 f11 f10 f9 f8 f7 f6 f5 f4 f3 f2 f1 f0
theorem c_190_s_1 : vOkm T0 (eP e_190 L_190 A_190 mu_190 none) 5 ([(45, [4, 10], [], 0), (0, [10], [], 9), (33, [4], [], 0), (31, [9], [], 0), (1196, [9, 0, 5, 3], [2, 3], 0), (90, [9], [], 0), (91, [9], [], 1), (51, [8], [], 0), (1003, [8, 6, 2, 7], [1, 2], 0), (0, [7], [], 3), (20, [6, 0], [1], 7), (0, [6], [], 23), (1194, [5, 0, 1], [0, 1], 0), (6000, [0, 1, 2, 3, 4], [0], 0), (0, [0], [], 7), (90, [1], [], -2147483648), (91, [1], [], 2147483647), (90, [2], [], -2147483648), (91, [2], [], 2147483647), (90, [3], [], -2147483648), (91, [3], [], 2147483647), (90, [4], [], -2147483648), (91, [4], [], 2147483647)], (51, [5], [], 0)) := vOk_inI fun ρ η f0 f1 f2 f3 f4 f5 f6 f7 f8 f9 f10 f11 f12 f13 f14 f15 f16 f17 f18 f19 f20 f21 f22 => q_190_0 (n0 := ρ 4) (n1 := ρ 3) (n2 := ρ 2) (n3 := ρ 1) (n4 := ρ 0) (n5 := ρ 5) (n6 := ρ 6) (n7 := ρ 7) (n8 := ρ 8) (n9 := ρ 9) (n10 := ρ 10) (H0 := η 0) (H1 := η 1) (H2 := η 2) (H3 := η 3) f22 f21 f20 f19 f18 f17 f16 f15 f14 f13 f12 f11 f10 f9 f8 f7 f6 f5 f4 f3 f2 f1 f0
def p_190_s : List vG := [([(45, [4, 10], [], 0), (0, [10], [], 9), (33, [4], [], 0), (31, [9], [], 0), (1196, [9, 0, 5, 3], [2, 3], 0), (90, [9], [], 0), (91, [9], [], 1), (51, [8], [], 0), (1003, [8, 6, 2, 7], [1, 2], 0), (0, [7], [], 3), (20, [6, 0], [1], 7), (0, [6], [], 23), (1194, [5, 0, 1], [0, 1], 0), (6000, [0, 1, 2, 3, 4], [0], 0), (0, [0], [], 7), (90, [1], [], -2147483648), (91, [1], [], 2147483647), (90, [2], [], -2147483648), (91, [2], [], 2147483647), (90, [3], [], -2147483648), (91, [3], [], 2147483647), (90, [4], [], -2147483648), (91, [4], [], 2147483647)], (51, [5], [], 0)),
  ([(45, [4, 10], [], 0), (0, [10], [], 9), (33, [4], [], 0), (31, [9], [], 0), (1196, [9, 0, 5, 3], [2, 3], 0), (90, [9], [], 0), (91, [9], [], 1), (51, [8], [], 0), (1003, [8, 6, 2, 7], [1, 2], 0), (0, [7], [], 3), (20, [6, 0], [1], 7), (0, [6], [], 23), (1194, [5, 0, 1], [0, 1], 0), (6000, [0, 1, 2, 3, 4], [0], 0), (0, [0], [], 7), (90, [1], [], -2147483648), (91, [1], [], 2147483647), (90, [2], [], -2147483648), (91, [2], [], 2147483647), (90, [3], [], -2147483648), (91, [3], [], 2147483647), (90, [4], [], -2147483648), (91, [4], [], 2147483647)], (51, [5], [], 0))]
theorem r_190_s : vCovO true (eR0 e_190 L_190 cs_190 2000) p_190_s = true := by decide +kernel
theorem m_190 (d : Nat) : eC e_190 (d + 7) := eC_ok (e := e_190) (L := L_190) (cs := cs_190) (n := 2000) (d := d + 6) (A := A_190) (μ := mu_190) (tp := true) (p0 := p_190_s) rfl ⟨m_3 (d + 4), ⟨m_106 (d + 4), ⟨m_107 (d + 1), ⟨m_142 (d + 1), ⟨m_143 d, ⟨m_194 (d + 5), ⟨m_196 (d + 4), ⟨m_317 (d + 5), ⟨m_319 (d + 5), trivial⟩⟩⟩⟩⟩⟩⟩⟩⟩ rfl (.inr pre0_ok) (by decide +kernel) (fun _ => post0_ok) r_190_s (allC c_190_s_0 (allC c_190_s_1 allN)) allN
/- MixStage.count (I)I -/
noncomputable def s_191 : vM := ([(3, 11, 7, 0), (0, -2147483648, 2147483647, 0)], (0, -2147483648, 2147483647, 0), 0, 0, [])
noncomputable def e_191 : vE := (191, s_191, pre0, post0)
noncomputable def L_191 : List vE := [e_52]
def cs_191 : List vC := []
def A_191 : Int → List Int → gH → gH → Prop := fun c xs h0 h => True
def mu_191 : Int → List Int → gH → gH → Nat := fun c xs h0 h => 0
def p_191_s : List vG := []
theorem r_191_s : vCovO true (eR0 e_191 L_191 cs_191 2000) p_191_s = true := by decide +kernel
theorem m_191 (d : Nat) : eC e_191 (d + 2) := eC_ok (e := e_191) (L := L_191) (cs := cs_191) (n := 2000) (d := d + 1) (A := A_191) (μ := mu_191) (tp := true) (p0 := p_191_s) rfl ⟨m_52 d, trivial⟩ rfl (.inr pre0_ok) (by decide +kernel) (fun _ => post0_ok) r_191_s allN allN
