/-! CONTRACTS of methods (printed by wip/gen/emit.py). -/
/- MixStageModel.put (I)V -/
noncomputable def s_206 : vM := ([(3, 12, 285, 0), (0, -2147483648, 2147483647, 0)], (9, 0, 0, 0), 1, 0, [(12, 2), (118, 0)])
def preb_206 (a0 a1 : Int) (h : gH) : Prop := hV h 285 2 ≤ 1996
def pre_206 : List Int → gH → Prop := fun xs h => match xs with
  | [a0, a1] => preb_206 a0 a1 h
  | _ => False
def postb_206 (a0 a1 : Int) (h0 h : gH) : Prop := hV h 285 2 = hV h0 285 2 + 4
def post_206 : List Int → gH → gH → Prop := fun xs h0 h => match xs with
  | [a0, a1] => postb_206 a0 a1 h0 h
  | _ => True
noncomputable def e_206 : vE := (206, s_206, pre_206, post_206)
noncomputable def L_206 : List vE := []
def cs_206 : List vC := [(3, [(0, (3, 12, 285, 0)), (1, (0, -2147483648, 2147483647, 0)), (2, (0, -2147483648, 2147483647, 0))])]
def Ab_206_3 (a0 a1 x0 x1 x2 : Int) (h0 h : gH) : Prop := x1 = a1 ∧ 8 * (hV h 285 2 - hV h0 285 2) = 24 - x2 ∧ -8 ≤ x2 ∧ x2 ≤ 24
def mub_206_3 (a0 a1 x0 x1 x2 : Int) (h0 h : gH) : Nat := (x2 + 8).toNat
def A_206 : Int → List Int → gH → gH → Prop := fun c xs h0 h => match c.toNat with
  | 3 => (match xs with
    | [a0, a1, x0, x1, x2] => Ab_206_3 a0 a1 x0 x1 x2 h0 h
    | _ => False)
  | _ => True
def mu_206 : Int → List Int → gH → gH → Nat := fun c xs h0 h => match c.toNat with
  | 3 => (match xs with
    | [a0, a1, x0, x1, x2] => mub_206_3 a0 a1 x0 x1 x2 h0 h
    | _ => 0)
  | _ => 0
theorem q_206_0 {n0 n1 n2 : Int} {H0 : gH} (f0 : n0 = 285) (f1 : n1 = 24) : Ab_206_3 n0 n2 n0 n2 n1 H0 H0 ∧ ∀ q, none = some q → mub_206_3 n0 n2 n0 n2 n1 H0 H0 < q := by
  unfold Ab_206_3
  refine ⟨?_, fun q hq => ?_⟩
  · refine ⟨?_, ?_, ?_, ?_⟩ <;> first | assumption | omega | trivial
  · exact nomatch hq
def g_206_s_0 : vG := ([(0, [2], [], 24), (0, [0], [], 285)], (4000, [0, 1, 2], [0], 3))
theorem c_206_s_0 : vOkm T0 (eP e_206 L_206 A_206 mu_206 none) 2 g_206_s_0 := vOk_in fun ρ η h => by
  obtain ⟨f0, f1, _⟩ := h
  exact q_206_0 (n0 := ρ 0) (n1 := ρ 2) (n2 := ρ 1) (H0 := η 0) f1 f0
def p_206_s : List vG := [g_206_s_0]
theorem r_206_s : vCovO false (eR0 e_206 L_206 cs_206 2000) p_206_s = true := by decide +kernel
theorem q_206_1 {q0 : Nat} {n0 n1 n2 n3 n4 : Int} {H0 H1 : gH} (f0 : n0 = 285) (f1 : n1 = 285) (f2 : (hLe T0 H0 H1 ∧ hFr s_206.2.2.2.2 H0 H1 ∧ hWt T0 H1) ∧ (Ab_206_3 n1 n2 n0 n3 n4 H0 H1 ∧ preb_206 n1 n2 H0) ∧ some q0 = some (mub_206_3 n1 n2 n0 n3 n4 H0 H1)) (f3 : n4 < 0) : postb_206 n1 n2 H0 H1 := by
  have g4 := f2.2.1.1
  unfold Ab_206_3 at g4
  have g3 := f2.2.1.2
  unfold preb_206 at g3
  unfold postb_206
  have e0 : (0 : Int) ≤ hV H1 285 2 ∧ hV H1 285 2 ≤ 2000 := f2.1.2.2 285 2 _ _ (by decide +kernel)
  have k0 := g4.1
  have y0 := g4.2.1
  have y1 := g4.2.2.1
  have y2 := g4.2.2.2
  have p0 := g3
  clear g3
  clear g4
  try subst k0
  first | assumption | omega | trivial
def g_206_3_0 : vG := ([(32, [4], [], 0), (5000, [0, 1, 2, 3, 4], [0, 1], 3), (0, [0], [], 285), (0, [2], [], 285)], (3000, [], [1], 36))
theorem c_206_3_0 {q0 : Nat} : vOkm T0 (eP e_206 L_206 A_206 mu_206 (some q0)) 2 g_206_3_0 := vOk_in fun ρ η h => by
  obtain ⟨f0, f1, f2, f3, _⟩ := h
  exact q_206_1 (q0 := q0) (n0 := ρ 2) (n1 := ρ 0) (n2 := ρ 1) (n3 := ρ 3) (n4 := ρ 4) (H0 := η 0) (H1 := η 1) f3 f2 f1 f0
theorem q_206_2 {q0 : Nat} {n0 n1 n2 n3 n4 n5 : Int} {H0 H1 : gH} (f0 : n0 = 285) (f1 : n1 = 285) (f2 : (hLe T0 H0 H1 ∧ hFr s_206.2.2.2.2 H0 H1 ∧ hWt T0 H1) ∧ (Ab_206_3 n1 n2 n0 n3 n4 H0 H1 ∧ preb_206 n1 n2 H0) ∧ some q0 = some (mub_206_3 n1 n2 n0 n3 n4 H0 H1)) (f3 : 0 ≤ n4) (f4 : n5 = hV H1 (n0).toNat 2) : 0 ≤ n5 ∧ n5 < 2000 := by
  have g4 := f2.2.1.1
  unfold Ab_206_3 at g4
  have g3 := f2.2.1.2
  unfold preb_206 at g3
  have e0 : n5 = hV H1 285 2 := (by rw [f0] at f4; exact f4 : n5 = hV H1 285 2)
  have e1 : (0 : Int) ≤ hV H1 285 2 ∧ hV H1 285 2 ≤ 2000 := f2.1.2.2 285 2 _ _ (by decide +kernel)
  have k0 := g4.1
  have y0 := g4.2.1
  have y1 := g4.2.2.1
  have y2 := g4.2.2.2
  have p0 := g3
  clear g3
  clear g4
  clear f4
  subst e0
  try subst k0
  omega
def g_206_3_1 : vG := ([(20, [6, 2], [1], 2), (33, [4], [], 0), (5000, [0, 1, 2, 3, 4], [0, 1], 3), (0, [0], [], 285), (0, [2], [], 285)], (70, [6], [], 2000))
theorem c_206_3_1 {q0 : Nat} : vOkm T0 (eP e_206 L_206 A_206 mu_206 (some q0)) 2 g_206_3_1 := vOk_in fun ρ η h => by
  obtain ⟨f0, f1, f2, f3, f4, _⟩ := h
  exact q_206_2 (q0 := q0) (n0 := ρ 2) (n1 := ρ 0) (n2 := ρ 1) (n3 := ρ 3) (n4 := ρ 4) (n5 := ρ 6) (H0 := η 0) (H1 := η 1) f4 f3 f2 f1 f0
theorem q_206_3 {q0 : Nat} {n0 n1 n2 : Int} {H0 : gH} (f0 : n0 ≤ 2000) (f1 : 0 ≤ n0) (f2 : n1 = 1) (f3 : n2 = w32 (n0 + n1)) : 0 ≤ n2 := by
  unfold w32 at *
  try (have ix0 : n2 = n0 + 1 := (by omega); subst ix0)
  omega
def g_206_3_2 : vG := ([(1, [12, 10, 11], [], 0), (0, [11], [], 1), (90, [10], [], 0), (91, [10], [], 2000)], (90, [12], [], 0))
theorem c_206_3_2 {q0 : Nat} : vOkm T0 (eP e_206 L_206 A_206 mu_206 (some q0)) 2 g_206_3_2 := vOk_in fun ρ η h => by
  obtain ⟨f0, f1, f2, f3, _⟩ := h
  exact q_206_3 (q0 := q0) (n0 := ρ 10) (n1 := ρ 11) (n2 := ρ 12) (H0 := η 0) f3 f2 f1 f0
theorem q_206_4 {q0 : Nat} {n0 n1 n2 n3 n4 n5 n6 n7 n8 n9 n10 : Int} {H0 H1 H2 : gH} (f0 : n0 = 285) (f1 : n1 = 285) (f2 : (hLe T0 H0 H1 ∧ hFr s_206.2.2.2.2 H0 H1 ∧ hWt T0 H1) ∧ (Ab_206_3 n1 n2 n0 n3 n4 H0 H1 ∧ preb_206 n1 n2 H0) ∧ some q0 = some (mub_206_3 n1 n2 n0 n3 n4 H0 H1)) (f3 : 0 ≤ n4) (f4 : n5 = 286) (f5 : hUpd H2 H1 n5 n6 n7) (f6 : n8 = hV H2 (n0).toNat 2) (f7 : n9 = 1) (f8 : n10 = w32 (n8 + n9)) : n10 ≤ 2000 := by
  have g4 := f2.2.1.1
  unfold Ab_206_3 at g4
  have g3 := f2.2.1.2
  unfold preb_206 at g3
  have e0 : hV H2 285 2 = hV H1 285 2 := uPlace f5 _ _ (iS (show n5 = ((286 : Nat) : Int) from f4) rfl)
  have e1 : n8 = hV H1 285 2 := (by rw [f0] at f6; exact f6 : n8 = hV H2 285 2).trans (e0)
  have e2 : (0 : Int) ≤ hV H1 285 2 ∧ hV H1 285 2 ≤ 2000 := f2.1.2.2 285 2 _ _ (by decide +kernel)
  have k0 := g4.1
  have y0 := g4.2.1
  have y1 := g4.2.2.1
  have y2 := g4.2.2.2
  have p0 := g3
  clear g3
  clear g4
  clear f6 e0
  subst e1
  unfold w32 at *
  try (have ix0 : n10 = hV H1 285 2 + 1 := (by omega); subst ix0)
  try subst k0
  omega
def g_206_3_3 : vG := ([(1, [12, 10, 11], [], 0), (0, [11], [], 1), (20, [10, 2], [2], 2), (80, [5, 6, 9], [2, 1], 0), (0, [5], [], 286), (33, [4], [], 0), (5000, [0, 1, 2, 3, 4], [0, 1], 3), (0, [0], [], 285), (0, [2], [], 285)], (91, [12], [], 2000))
theorem c_206_3_3 {q0 : Nat} : vOkm T0 (eP e_206 L_206 A_206 mu_206 (some q0)) 2 g_206_3_3 := vOk_in fun ρ η h => by
  obtain ⟨f0, f1, f2, f3, f4, f5, f6, f7, f8, _⟩ := h
  exact q_206_4 (q0 := q0) (n0 := ρ 2) (n1 := ρ 0) (n2 := ρ 1) (n3 := ρ 3) (n4 := ρ 4) (n5 := ρ 5) (n6 := ρ 6) (n7 := ρ 9) (n8 := ρ 10) (n9 := ρ 11) (n10 := ρ 12) (H0 := η 0) (H1 := η 1) (H2 := η 2) f8 f7 f6 f5 f4 f3 f2 f1 f0
theorem q_206_5 {q0 : Nat} {n0 n1 n2 n3 n4 n5 n6 n7 n8 n9 n10 n11 n12 : Int} {H0 H1 H2 H3 : gH} (f0 : n0 = 285) (f1 : n1 = 285) (f2 : (hLe T0 H0 H1 ∧ hFr s_206.2.2.2.2 H0 H1 ∧ hWt T0 H1) ∧ (Ab_206_3 n1 n2 n0 n3 n4 H0 H1 ∧ preb_206 n1 n2 H0) ∧ some q0 = some (mub_206_3 n1 n2 n0 n3 n4 H0 H1)) (f3 : 0 ≤ n4) (f4 : n5 = 286) (f5 : hUpd H2 H1 n5 n6 n7) (f6 : n8 = hV H2 (n0).toNat 2) (f7 : n9 = 1) (f8 : n10 = w32 (n8 + n9)) (f9 : n11 = 2) (f10 : hUpd H3 H2 n0 n11 n10) (f11 : n12 = w32 (n4 + (-8))) : Ab_206_3 n1 n2 n0 n3 n12 H0 H3 ∧ ∀ q, some q0 = some q → mub_206_3 n1 n2 n0 n3 n12 H0 H3 < q := by
  have g4 := f2.2.1.1
  unfold Ab_206_3 at g4
  have g3 := f2.2.1.2
  unfold preb_206 at g3
  have g5 := Option.some.inj f2.2.2
  unfold mub_206_3 at g5
  unfold Ab_206_3
  unfold mub_206_3
  have e0 : hV H2 285 2 = hV H1 285 2 := uPlace f5 _ _ (iS (show n5 = ((286 : Nat) : Int) from f4) rfl)
  have e1 : n8 = hV H1 285 2 := (by rw [f0] at f6; exact f6 : n8 = hV H2 285 2).trans (e0)
  have e2 : hV H3 285 2 = n10 := uSame f10 _ _ f0.symm f9.symm
  have e3 : hV H3 285 2 = n10 := e2
  have e4 : (0 : Int) ≤ hV H1 285 2 ∧ hV H1 285 2 ≤ 2000 := f2.1.2.2 285 2 _ _ (by decide +kernel)
  try simp only [e3] at f2
  try simp only [e3] at e4
  try simp only [e3] at g3
  try simp only [e3] at g4
  try simp only [e3] at g5
  try simp only [e3]
  have k0 := g4.1
  have y0 := g4.2.1
  have y1 := g4.2.2.1
  have y2 := g4.2.2.2
  have p0 := g3
  try simp only [e3] at k0
  try simp only [e3] at y0
  try simp only [e3] at y1
  try simp only [e3] at y2
  try simp only [e3] at p0
  clear g3
  clear g4
  clear f6 e0
  subst e1
  unfold w32 at *
  try (have ix0 : n10 = hV H1 285 2 + 1 := (by omega); subst ix0)
  try (have ix1 : n12 = n4 + -8 := (by omega); subst ix1)
  try subst k0
  refine ⟨?_, fun q hq => ?_⟩
  · refine ⟨?_, ?_, ?_, ?_⟩ <;> first | assumption | omega | trivial
  · have g6 := Option.some.inj hq
    subst g6
    omega
def g_206_3_4 : vG := ([(10, [14, 4], [], -8), (80, [2, 13, 12], [3, 2], 0), (0, [13], [], 2), (1, [12, 10, 11], [], 0), (0, [11], [], 1), (20, [10, 2], [2], 2), (80, [5, 6, 9], [2, 1], 0), (0, [5], [], 286), (33, [4], [], 0), (5000, [0, 1, 2, 3, 4], [0, 1], 3), (0, [0], [], 285), (0, [2], [], 285)], (4000, [2, 3, 14], [3], 3))
theorem c_206_3_4 {q0 : Nat} : vOkm T0 (eP e_206 L_206 A_206 mu_206 (some q0)) 2 g_206_3_4 := vOk_in fun ρ η h => by
  obtain ⟨f0, f1, f2, f3, f4, f5, f6, f7, f8, f9, f10, f11, _⟩ := h
  exact q_206_5 (q0 := q0) (n0 := ρ 2) (n1 := ρ 0) (n2 := ρ 1) (n3 := ρ 3) (n4 := ρ 4) (n5 := ρ 5) (n6 := ρ 6) (n7 := ρ 9) (n8 := ρ 10) (n9 := ρ 11) (n10 := ρ 12) (n11 := ρ 13) (n12 := ρ 14) (H0 := η 0) (H1 := η 1) (H2 := η 2) (H3 := η 3) f11 f10 f9 f8 f7 f6 f5 f4 f3 f2 f1 f0
def p_206_3 : List vG := [g_206_3_0,
  g_206_3_1,
  g_206_3_2,
  g_206_3_3,
  g_206_3_4]
theorem r_206_3 : vCovO false (eRc e_206 L_206 cs_206 2000 (3, [(0, (3, 12, 285, 0)), (1, (0, -2147483648, 2147483647, 0)), (2, (0, -2147483648, 2147483647, 0))])) p_206_3 = true := by decide +kernel
theorem m_206 (d : Nat) : eC e_206 (d + 1) := eC_ok (e := e_206) (L := L_206) (cs := cs_206) (n := 2000) (d := d + 0) (A := A_206) (μ := mu_206) (tp := false) (p0 := p_206_s) rfl trivial rfl (.inl rfl) (by decide +kernel) (fun z => nomatch z) r_206_s (allC c_206_s_0 allN) (allC (.inl ⟨p_206_3, r_206_3, fun q0 => (allC c_206_3_0 (allC c_206_3_1 (allC c_206_3_2 (allC c_206_3_3 (allC c_206_3_4 allN)))))⟩) allN)
/- MixStageModel.feed (IIIII)I -/
noncomputable def s_205 : vM := ([(3, 12, 285, 0), (0, -2147483648, 2147483647, 0), (0, -2147483648, 2147483647, 0), (0, -2147483648, 2147483647, 0), (0, -2147483648, 2147483647, 0), (0, -2147483648, 2147483647, 0)], (0, -2147483648, 2147483647, 0), 0, 0, [(12, 2), (118, 0)])
noncomputable def e_205 : vE := (205, s_205, pre0, post0)
noncomputable def L_205 : List vE := [e_206]
def cs_205 : List vC := []
def A_205 : Int → List Int → gH → gH → Prop := fun c xs h0 h => True
def mu_205 : Int → List Int → gH → gH → Nat := fun c xs h0 h => 0
theorem q_205_0 {n0 n1 n2 n3 n4 n5 : Int} {H0 : gH} (f0 : n0 = 285) (f1 : 0 ≤ n1) (f2 : n1 = hV H0 (n0).toNat 2) (f3 : n2 = 20) (f4 : n3 = w32 (n1 + n2)) (f5 : n4 = 2000) (f6 : n3 ≤ n4) : preb_206 n0 n5 H0 := by
  unfold preb_206
  have e0 : n1 = hV H0 285 2 := (by rw [f0] at f2; exact f2 : n1 = hV H0 285 2)
  clear f2
  subst e0
  unfold w32 at *
  first | assumption | omega | trivial
def g_205_s_0 : vG := ([(45, [8, 9], [], 0), (0, [9], [], 2000), (1, [8, 6, 7], [], 0), (0, [7], [], 20), (20, [6, 0], [0], 2), (90, [6], [], 0), (0, [0], [], 285)], (2206, [0, 1], [0], 0))
theorem c_205_s_0 : vOkm T0 (eP e_205 L_205 A_205 mu_205 none) 6 g_205_s_0 := vOk_in fun ρ η h => by
  obtain ⟨f0, f1, f2, f3, f4, f5, f6, _⟩ := h
  exact q_205_0 (n0 := ρ 0) (n1 := ρ 6) (n2 := ρ 7) (n3 := ρ 8) (n4 := ρ 9) (n5 := ρ 1) (H0 := η 0) f6 f5 f4 f3 f2 f1 f0
theorem q_205_1 {n0 n1 n2 n3 n4 n5 n6 : Int} {H0 H1 : gH} (f0 : n0 = 285) (f1 : n1 = hV H0 (n0).toNat 2) (f2 : n2 = 20) (f3 : n3 = w32 (n1 + n2)) (f4 : n4 = 2000) (f5 : n3 ≤ n4) (f6 : (hLe T0 H0 H1 ∧ hFr s_206.2.2.2.2 H0 H1 ∧ ((0 : Int) = 0 → H1.length = H0.length) ∧ hWt T0 H1) ∧ postb_206 n0 n5 H0 H1) : preb_206 n0 n6 H1 := by
  unfold postb_206 at f6
  unfold preb_206
  have e0 : n1 = hV H0 285 2 := (by rw [f0] at f1; exact f1 : n1 = hV H0 285 2)
  have e1 : (0 : Int) ≤ hV H1 285 2 ∧ hV H1 285 2 ≤ 2000 := f6.1.2.2.2 285 2 _ _ (by decide +kernel)
  have r0_0 := f6.2
  clear f1
  subst e0
  unfold w32 at *
  first | assumption | omega | trivial
def g_205_s_1 : vG := ([(1206, [0, 1], [0, 1], 0), (45, [8, 9], [], 0), (0, [9], [], 2000), (1, [8, 6, 7], [], 0), (0, [7], [], 20), (20, [6, 0], [0], 2), (0, [0], [], 285)], (2206, [0, 2], [1], 0))
theorem c_205_s_1 : vOkm T0 (eP e_205 L_205 A_205 mu_205 none) 6 g_205_s_1 := vOk_in fun ρ η h => by
  obtain ⟨f0, f1, f2, f3, f4, f5, f6, _⟩ := h
  exact q_205_1 (n0 := ρ 0) (n1 := ρ 6) (n2 := ρ 7) (n3 := ρ 8) (n4 := ρ 9) (n5 := ρ 1) (n6 := ρ 2) (H0 := η 0) (H1 := η 1) f6 f5 f4 f3 f2 f1 f0
theorem q_205_2 {n0 n1 n2 n3 n4 n5 n6 n7 : Int} {H0 H1 H2 : gH} (f0 : n0 = 285) (f1 : n1 = hV H0 (n0).toNat 2) (f2 : n2 = 20) (f3 : n3 = w32 (n1 + n2)) (f4 : n4 = 2000) (f5 : n3 ≤ n4) (f6 : (hLe T0 H0 H1 ∧ hFr s_206.2.2.2.2 H0 H1 ∧ ((0 : Int) = 0 → H1.length = H0.length) ∧ hWt T0 H1) ∧ postb_206 n0 n5 H0 H1) (f7 : (hLe T0 H1 H2 ∧ hFr s_206.2.2.2.2 H1 H2 ∧ ((0 : Int) = 0 → H2.length = H1.length) ∧ hWt T0 H2) ∧ postb_206 n0 n6 H1 H2) : preb_206 n0 n7 H2 := by
  unfold postb_206 at f6
  unfold postb_206 at f7
  unfold preb_206
  have e0 : n1 = hV H0 285 2 := (by rw [f0] at f1; exact f1 : n1 = hV H0 285 2)
  have e1 : (0 : Int) ≤ hV H1 285 2 ∧ hV H1 285 2 ≤ 2000 := f6.1.2.2.2 285 2 _ _ (by decide +kernel)
  have e2 : (0 : Int) ≤ hV H2 285 2 ∧ hV H2 285 2 ≤ 2000 := f7.1.2.2.2 285 2 _ _ (by decide +kernel)
  have r0_0 := f6.2
  have r1_0 := f7.2
  clear f1
  subst e0
  unfold w32 at *
  first | assumption | omega | trivial
def g_205_s_2 : vG := ([(1206, [0, 2], [1, 2], 0), (1206, [0, 1], [0, 1], 0), (45, [8, 9], [], 0), (0, [9], [], 2000), (1, [8, 6, 7], [], 0), (0, [7], [], 20), (20, [6, 0], [0], 2), (0, [0], [], 285)], (2206, [0, 3], [2], 0))
theorem c_205_s_2 : vOkm T0 (eP e_205 L_205 A_205 mu_205 none) 6 g_205_s_2 := vOk_in fun ρ η h => by
  obtain ⟨f0, f1, f2, f3, f4, f5, f6, f7, _⟩ := h
  exact q_205_2 (n0 := ρ 0) (n1 := ρ 6) (n2 := ρ 7) (n3 := ρ 8) (n4 := ρ 9) (n5 := ρ 1) (n6 := ρ 2) (n7 := ρ 3) (H0 := η 0) (H1 := η 1) (H2 := η 2) f7 f6 f5 f4 f3 f2 f1 f0
theorem q_205_3 {n0 n1 n2 n3 n4 n5 n6 n7 n8 : Int} {H0 H1 H2 H3 : gH} (f0 : n0 = 285) (f1 : n1 = hV H0 (n0).toNat 2) (f2 : n2 = 20) (f3 : n3 = w32 (n1 + n2)) (f4 : n4 = 2000) (f5 : n3 ≤ n4) (f6 : (hLe T0 H0 H1 ∧ hFr s_206.2.2.2.2 H0 H1 ∧ ((0 : Int) = 0 → H1.length = H0.length) ∧ hWt T0 H1) ∧ postb_206 n0 n5 H0 H1) (f7 : (hLe T0 H1 H2 ∧ hFr s_206.2.2.2.2 H1 H2 ∧ ((0 : Int) = 0 → H2.length = H1.length) ∧ hWt T0 H2) ∧ postb_206 n0 n6 H1 H2) (f8 : (hLe T0 H2 H3 ∧ hFr s_206.2.2.2.2 H2 H3 ∧ ((0 : Int) = 0 → H3.length = H2.length) ∧ hWt T0 H3) ∧ postb_206 n0 n7 H2 H3) : preb_206 n0 n8 H3 := by
  unfold postb_206 at f6
  unfold postb_206 at f7
  unfold postb_206 at f8
  unfold preb_206
  have e0 : n1 = hV H0 285 2 := (by rw [f0] at f1; exact f1 : n1 = hV H0 285 2)
  have e1 : (0 : Int) ≤ hV H1 285 2 ∧ hV H1 285 2 ≤ 2000 := f6.1.2.2.2 285 2 _ _ (by decide +kernel)
  have e2 : (0 : Int) ≤ hV H2 285 2 ∧ hV H2 285 2 ≤ 2000 := f7.1.2.2.2 285 2 _ _ (by decide +kernel)
  have e3 : (0 : Int) ≤ hV H3 285 2 ∧ hV H3 285 2 ≤ 2000 := f8.1.2.2.2 285 2 _ _ (by decide +kernel)
  have r0_0 := f6.2
  have r1_0 := f7.2
  have r2_0 := f8.2
  clear f1
  subst e0
  unfold w32 at *
  first | assumption | omega | trivial
def g_205_s_3 : vG := ([(1206, [0, 3], [2, 3], 0), (1206, [0, 2], [1, 2], 0), (1206, [0, 1], [0, 1], 0), (45, [8, 9], [], 0), (0, [9], [], 2000), (1, [8, 6, 7], [], 0), (0, [7], [], 20), (20, [6, 0], [0], 2), (0, [0], [], 285)], (2206, [0, 4], [3], 0))
theorem c_205_s_3 : vOkm T0 (eP e_205 L_205 A_205 mu_205 none) 6 g_205_s_3 := vOk_in fun ρ η h => by
  obtain ⟨f0, f1, f2, f3, f4, f5, f6, f7, f8, _⟩ := h
  exact q_205_3 (n0 := ρ 0) (n1 := ρ 6) (n2 := ρ 7) (n3 := ρ 8) (n4 := ρ 9) (n5 := ρ 1) (n6 := ρ 2) (n7 := ρ 3) (n8 := ρ 4) (H0 := η 0) (H1 := η 1) (H2 := η 2) (H3 := η 3) f8 f7 f6 f5 f4 f3 f2 f1 f0
theorem q_205_4 {n0 n1 n2 n3 n4 n5 n6 n7 n8 n9 : Int} {H0 H1 H2 H3 H4 : gH} (f0 : n0 = 285) (f1 : n1 = hV H0 (n0).toNat 2) (f2 : n2 = 20) (f3 : n3 = w32 (n1 + n2)) (f4 : n4 = 2000) (f5 : n3 ≤ n4) (f6 : (hLe T0 H0 H1 ∧ hFr s_206.2.2.2.2 H0 H1 ∧ ((0 : Int) = 0 → H1.length = H0.length) ∧ hWt T0 H1) ∧ postb_206 n0 n5 H0 H1) (f7 : (hLe T0 H1 H2 ∧ hFr s_206.2.2.2.2 H1 H2 ∧ ((0 : Int) = 0 → H2.length = H1.length) ∧ hWt T0 H2) ∧ postb_206 n0 n6 H1 H2) (f8 : (hLe T0 H2 H3 ∧ hFr s_206.2.2.2.2 H2 H3 ∧ ((0 : Int) = 0 → H3.length = H2.length) ∧ hWt T0 H3) ∧ postb_206 n0 n7 H2 H3) (f9 : (hLe T0 H3 H4 ∧ hFr s_206.2.2.2.2 H3 H4 ∧ ((0 : Int) = 0 → H4.length = H3.length) ∧ hWt T0 H4) ∧ postb_206 n0 n8 H3 H4) : preb_206 n0 n9 H4 := by
  unfold postb_206 at f6
  unfold postb_206 at f7
  unfold postb_206 at f8
  unfold postb_206 at f9
  unfold preb_206
  have e0 : n1 = hV H0 285 2 := (by rw [f0] at f1; exact f1 : n1 = hV H0 285 2)
  have e1 : (0 : Int) ≤ hV H1 285 2 ∧ hV H1 285 2 ≤ 2000 := f6.1.2.2.2 285 2 _ _ (by decide +kernel)
  have e2 : (0 : Int) ≤ hV H2 285 2 ∧ hV H2 285 2 ≤ 2000 := f7.1.2.2.2 285 2 _ _ (by decide +kernel)
  have e3 : (0 : Int) ≤ hV H3 285 2 ∧ hV H3 285 2 ≤ 2000 := f8.1.2.2.2 285 2 _ _ (by decide +kernel)
  have e4 : (0 : Int) ≤ hV H4 285 2 ∧ hV H4 285 2 ≤ 2000 := f9.1.2.2.2 285 2 _ _ (by decide +kernel)
  have r0_0 := f6.2
  have r1_0 := f7.2
  have r2_0 := f8.2
  have r3_0 := f9.2
  clear f1
  subst e0
  unfold w32 at *
  first | assumption | omega | trivial
def g_205_s_4 : vG := ([(1206, [0, 4], [3, 4], 0), (1206, [0, 3], [2, 3], 0), (1206, [0, 2], [1, 2], 0), (1206, [0, 1], [0, 1], 0), (45, [8, 9], [], 0), (0, [9], [], 2000), (1, [8, 6, 7], [], 0), (0, [7], [], 20), (20, [6, 0], [0], 2), (0, [0], [], 285)], (2206, [0, 5], [4], 0))
theorem c_205_s_4 : vOkm T0 (eP e_205 L_205 A_205 mu_205 none) 6 g_205_s_4 := vOk_in fun ρ η h => by
  obtain ⟨f0, f1, f2, f3, f4, f5, f6, f7, f8, f9, _⟩ := h
  exact q_205_4 (n0 := ρ 0) (n1 := ρ 6) (n2 := ρ 7) (n3 := ρ 8) (n4 := ρ 9) (n5 := ρ 1) (n6 := ρ 2) (n7 := ρ 3) (n8 := ρ 4) (n9 := ρ 5) (H0 := η 0) (H1 := η 1) (H2 := η 2) (H3 := η 3) (H4 := η 4) f9 f8 f7 f6 f5 f4 f3 f2 f1 f0
def p_205_s : List vG := [g_205_s_0,
  g_205_s_1,
  g_205_s_2,
  g_205_s_3,
  g_205_s_4]
theorem r_205_s : vCovO true (eR0 e_205 L_205 cs_205 2000) p_205_s = true := by decide +kernel
theorem m_205 (d : Nat) : eC e_205 (d + 2) := eC_ok (e := e_205) (L := L_205) (cs := cs_205) (n := 2000) (d := d + 1) (A := A_205) (μ := mu_205) (tp := true) (p0 := p_205_s) rfl ⟨m_206 d, trivial⟩ rfl (.inr pre0_ok) (by decide +kernel) (fun _ => post0_ok) r_205_s (allC c_205_s_0 (allC c_205_s_1 (allC c_205_s_2 (allC c_205_s_3 (allC c_205_s_4 allN))))) allN
/- MixStageModel.back (I)I -/
noncomputable def s_207 : vM := ([(3, 12, 285, 0), (0, -2147483648, 2147483647, 0)], (0, -2147483648, 2147483647, 0), 0, 0, [(12, 2)])
noncomputable def e_207 : vE := (207, s_207, pre0, post0)
noncomputable def L_207 : List vE := []
def cs_207 : List vC := []
def A_207 : Int → List Int → gH → gH → Prop := fun c xs h0 h => True
def mu_207 : Int → List Int → gH → gH → Nat := fun c xs h0 h => 0
theorem q_207_0 {n0 n1 n2 n3 n4 : Int} {H0 : gH} (f0 : n0 = 285) (f1 : 0 ≤ n1) (f2 : n2 = hV H0 (n0).toNat 2) (f3 : n1 ≤ n2) (f4 : n3 ≤ 2000) (f5 : n3 = hV H0 (n0).toNat 2) (f6 : n4 = w32 (n3 - n1)) : 0 ≤ n4 := by
  have e0 : n2 = hV H0 285 2 := (by rw [f0] at f2; exact f2 : n2 = hV H0 285 2)
  have e1 : n3 = hV H0 285 2 := (by rw [f0] at f5; exact f5 : n3 = hV H0 285 2)
  clear f2 f5
  subst e0
  subst e1
  unfold w32 at *
  try (have ix0 : n4 = hV H0 285 2 - n1 := (by omega); subst ix0)
  omega
def g_207_s_0 : vG := ([(2, [4, 3, 1], [], 0), (20, [3, 0], [0], 2), (91, [3], [], 2000), (45, [1, 2], [], 0), (20, [2, 0], [0], 2), (33, [1], [], 0), (0, [0], [], 285)], (90, [4], [], 0))
theorem c_207_s_0 : vOkm T0 (eP e_207 L_207 A_207 mu_207 none) 2 g_207_s_0 := vOk_in fun ρ η h => by
  obtain ⟨f0, f1, f2, f3, f4, f5, f6, _⟩ := h
  exact q_207_0 (n0 := ρ 0) (n1 := ρ 1) (n2 := ρ 2) (n3 := ρ 3) (n4 := ρ 4) (H0 := η 0) f6 f5 f4 f3 f2 f1 f0
theorem q_207_1 {n0 n1 n2 n3 : Int} {H0 : gH} (f0 : 0 ≤ n0) (f1 : n1 ≤ 2000) (f2 : n0 ≤ n1) (f3 : n2 ≤ 2000) (f4 : 0 ≤ n2) (f5 : n3 = w32 (n2 - n0)) : n3 ≤ 2000 := by
  unfold w32 at *
  try (have ix0 : n3 = n2 - n0 := (by omega); subst ix0)
  omega
def g_207_s_1 : vG := ([(2, [4, 3, 1], [], 0), (90, [3], [], 0), (91, [3], [], 2000), (45, [1, 2], [], 0), (91, [2], [], 2000), (33, [1], [], 0)], (91, [4], [], 2000))
theorem c_207_s_1 : vOkm T0 (eP e_207 L_207 A_207 mu_207 none) 2 g_207_s_1 := vOk_in fun ρ η h => by
  obtain ⟨f0, f1, f2, f3, f4, f5, _⟩ := h
  exact q_207_1 (n0 := ρ 1) (n1 := ρ 2) (n2 := ρ 3) (n3 := ρ 4) (H0 := η 0) f5 f4 f3 f2 f1 f0
def p_207_s : List vG := [g_207_s_0,
  g_207_s_1]
theorem r_207_s : vCovO true (eR0 e_207 L_207 cs_207 2000) p_207_s = true := by decide +kernel
theorem m_207 (d : Nat) : eC e_207 (d + 1) := eC_ok (e := e_207) (L := L_207) (cs := cs_207) (n := 2000) (d := d + 0) (A := A_207) (μ := mu_207) (tp := true) (p0 := p_207_s) rfl trivial rfl (.inr pre0_ok) (by decide +kernel) (fun _ => post0_ok) r_207_s (allC c_207_s_0 (allC c_207_s_1 allN)) allN
/- MixStageModel.at (I)I -/
noncomputable def s_208 : vM := ([(3, 12, 285, 0), (0, -2147483648, 2147483647, 0)], (0, 0, 255, 0), 1, 0, [])
def preb_208 (a0 a1 : Int) (h : gH) : Prop := 0 ≤ a1
def pre_208 : List Int → gH → Prop := fun xs h => match xs with
  | [a0, a1] => preb_208 a0 a1 h
  | _ => False
def postb_208 (r a0 a1 : Int) (h0 h : gH) : Prop := r = atv (hV h 287) (hV h 285 4) a1 ∧ (r = 0 ∨ a1 < hV h 285 4)
def post_208 : List Int → gH → gH → Prop := fun xs h0 h => match xs with
  | [r, a0, a1] => postb_208 r a0 a1 h0 h
  | _ => True
noncomputable def e_208 : vE := (208, s_208, pre_208, post_208)
noncomputable def L_208 : List vE := []
def cs_208 : List vC := []
def A_208 : Int → List Int → gH → gH → Prop := fun c xs h0 h => True
def mu_208 : Int → List Int → gH → gH → Nat := fun c xs h0 h => 0
theorem q_208_0 {n0 n1 n2 n3 : Int} {H0 : gH} (f0 : n0 ≤ 2147483647) (f1 : (-2147483648) ≤ n0) (f2 : n1 = 285) (f3 : hWt T0 H0 ∧ preb_208 n1 n0 H0) (f4 : n2 ≤ 2000) (f5 : 0 ≤ n2) (f6 : n2 = hV H0 (n1).toNat 4) (f7 : n2 ≤ n0) (f8 : n3 = 0) : postb_208 n3 n1 n0 H0 H0 := by
  unfold preb_208 at f3
  unfold postb_208
  have e0 : n2 = hV H0 285 4 := (by rw [f2] at f6; exact f6 : n2 = hV H0 285 4)
  have e1 : (0 : Int) ≤ hV H0 285 4 ∧ hV H0 285 4 ≤ 2000 := f3.1 285 4 _ _ (by decide +kernel)
  have p0 := f3.2
  clear f6
  subst e0

  exact ⟨atv_out (by omega) (by assumption), by omega⟩
def g_208_s_0 : vG := ([(0, [3], [], 0), (43, [1, 2], [], 0), (20, [2, 0], [0], 4), (90, [2], [], 0), (91, [2], [], 2000), (6000, [0, 1], [0], 0), (0, [0], [], 285), (90, [1], [], -2147483648), (91, [1], [], 2147483647)], (3000, [3], [0], 22))
theorem c_208_s_0 : vOkm T0 (eP e_208 L_208 A_208 mu_208 none) 2 g_208_s_0 := vOk_in fun ρ η h => by
  obtain ⟨f0, f1, f2, f3, f4, f5, f6, f7, f8, _⟩ := h
  exact q_208_0 (n0 := ρ 1) (n1 := ρ 0) (n2 := ρ 2) (n3 := ρ 3) (H0 := η 0) f8 f7 f6 f5 f4 f3 f2 f1 f0
theorem q_208_1 {n0 n1 n2 : Int} {H0 : gH} (f0 : n0 = 285) (f1 : hWt T0 H0 ∧ preb_208 n0 n1 H0) (f2 : n2 ≤ 2000) (f3 : n1 < n2) : 0 ≤ n1 ∧ n1 < 2000 := by
  unfold preb_208 at f1
  have p0 := f1.2
  omega
def g_208_s_1 : vG := ([(42, [1, 2], [], 0), (91, [2], [], 2000), (6000, [0, 1], [0], 0), (0, [0], [], 285)], (70, [1], [], 2000))
theorem c_208_s_1 : vOkm T0 (eP e_208 L_208 A_208 mu_208 none) 2 g_208_s_1 := vOk_in fun ρ η h => by
  obtain ⟨f0, f1, f2, f3, _⟩ := h
  exact q_208_1 (n0 := ρ 0) (n1 := ρ 1) (n2 := ρ 2) (H0 := η 0) f3 f2 f1 f0
theorem q_208_2 {n0 n1 n2 n3 n4 n5 n6 : Int} {H0 : gH} (f0 : n0 ≤ 2147483647) (f1 : (-2147483648) ≤ n0) (f2 : n1 = 285) (f3 : hWt T0 H0 ∧ preb_208 n1 n0 H0) (f4 : n2 ≤ 2000) (f5 : 0 ≤ n2) (f6 : n2 = hV H0 (n1).toNat 4) (f7 : n0 < n2) (f8 : n3 = 287) (f9 : n3 = hV H0 (n1).toNat 3) (f10 : n4 ≤ 127) (f11 : (-128) ≤ n4) (f12 : n4 = hV H0 (n3).toNat (n0).toNat) (f13 : n5 = 255) (f14 : n6 = o32 (fun x y => x &&& y) n4 n5) : 0 ≤ n6 := by
  unfold preb_208 at f3
  have e0 : n2 = hV H0 285 4 := (by rw [f2] at f6; exact f6 : n2 = hV H0 285 4)
  have e1 : n4 = hV H0 287 (n0).toNat := (by rw [f8] at f12; exact f12 : n4 = hV H0 287 (n0).toNat)
  have p0 := f3.2
  clear f6 f9 f12
  subst e0
  subst e1
  have b14 := o32_and_r f14 (by omega) (by omega)
  omega
def g_208_s_2 : vG := ([(4, [6, 4, 5], [], 0), (0, [5], [], 255), (22, [4, 3, 1], [0], 0), (90, [4], [], -128), (91, [4], [], 127), (20, [3, 0], [0], 3), (0, [3], [], 287), (42, [1, 2], [], 0), (20, [2, 0], [0], 4), (90, [2], [], 0), (91, [2], [], 2000), (6000, [0, 1], [0], 0), (0, [0], [], 285), (90, [1], [], -2147483648), (91, [1], [], 2147483647)], (90, [6], [], 0))
theorem c_208_s_2 : vOkm T0 (eP e_208 L_208 A_208 mu_208 none) 2 g_208_s_2 := vOk_in fun ρ η h => by
  obtain ⟨f0, f1, f2, f3, f4, f5, f6, f7, f8, f9, f10, f11, f12, f13, f14, _⟩ := h
  exact q_208_2 (n0 := ρ 1) (n1 := ρ 0) (n2 := ρ 2) (n3 := ρ 3) (n4 := ρ 4) (n5 := ρ 5) (n6 := ρ 6) (H0 := η 0) f14 f13 f12 f11 f10 f9 f8 f7 f6 f5 f4 f3 f2 f1 f0
theorem q_208_3 {n0 n1 n2 n3 n4 n5 n6 : Int} {H0 : gH} (f0 : n0 ≤ 2147483647) (f1 : (-2147483648) ≤ n0) (f2 : n1 = 285) (f3 : hWt T0 H0 ∧ preb_208 n1 n0 H0) (f4 : n2 ≤ 2000) (f5 : 0 ≤ n2) (f6 : n2 = hV H0 (n1).toNat 4) (f7 : n0 < n2) (f8 : n3 = 287) (f9 : n3 = hV H0 (n1).toNat 3) (f10 : n4 ≤ 127) (f11 : (-128) ≤ n4) (f12 : n4 = hV H0 (n3).toNat (n0).toNat) (f13 : n5 = 255) (f14 : n6 = o32 (fun x y => x &&& y) n4 n5) : n6 ≤ 255 := by
  unfold preb_208 at f3
  have e0 : n2 = hV H0 285 4 := (by rw [f2] at f6; exact f6 : n2 = hV H0 285 4)
  have e1 : n4 = hV H0 287 (n0).toNat := (by rw [f8] at f12; exact f12 : n4 = hV H0 287 (n0).toNat)
  have p0 := f3.2
  clear f6 f9 f12
  subst e0
  subst e1
  have b14 := o32_and_r f14 (by omega) (by omega)
  omega
def g_208_s_3 : vG := ([(4, [6, 4, 5], [], 0), (0, [5], [], 255), (22, [4, 3, 1], [0], 0), (90, [4], [], -128), (91, [4], [], 127), (20, [3, 0], [0], 3), (0, [3], [], 287), (42, [1, 2], [], 0), (20, [2, 0], [0], 4), (90, [2], [], 0), (91, [2], [], 2000), (6000, [0, 1], [0], 0), (0, [0], [], 285), (90, [1], [], -2147483648), (91, [1], [], 2147483647)], (91, [6], [], 255))
theorem c_208_s_3 : vOkm T0 (eP e_208 L_208 A_208 mu_208 none) 2 g_208_s_3 := vOk_in fun ρ η h => by
  obtain ⟨f0, f1, f2, f3, f4, f5, f6, f7, f8, f9, f10, f11, f12, f13, f14, _⟩ := h
  exact q_208_3 (n0 := ρ 1) (n1 := ρ 0) (n2 := ρ 2) (n3 := ρ 3) (n4 := ρ 4) (n5 := ρ 5) (n6 := ρ 6) (H0 := η 0) f14 f13 f12 f11 f10 f9 f8 f7 f6 f5 f4 f3 f2 f1 f0
theorem q_208_4 {n0 n1 n2 n3 n4 n5 n6 : Int} {H0 : gH} (f0 : n0 ≤ 2147483647) (f1 : (-2147483648) ≤ n0) (f2 : n1 = 285) (f3 : hWt T0 H0 ∧ preb_208 n1 n0 H0) (f4 : n2 ≤ 2000) (f5 : 0 ≤ n2) (f6 : n2 = hV H0 (n1).toNat 4) (f7 : n0 < n2) (f8 : n3 = 287) (f9 : n3 = hV H0 (n1).toNat 3) (f10 : n4 ≤ 127) (f11 : (-128) ≤ n4) (f12 : n4 = hV H0 (n3).toNat (n0).toNat) (f13 : n5 = 255) (f14 : n6 = o32 (fun x y => x &&& y) n4 n5) : postb_208 n6 n1 n0 H0 H0 := by
  unfold preb_208 at f3
  unfold postb_208
  have e0 : n2 = hV H0 285 4 := (by rw [f2] at f6; exact f6 : n2 = hV H0 285 4)
  have e1 : n4 = hV H0 287 (n0).toNat := (by rw [f8] at f12; exact f12 : n4 = hV H0 287 (n0).toNat)
  have e2 : (0 : Int) ≤ hV H0 285 4 ∧ hV H0 285 4 ≤ 2000 := f3.1 285 4 _ _ (by decide +kernel)
  have p0 := f3.2
  clear f6 f9 f12
  subst e0
  subst e1
  have b14 := o32_and_r f14 (by omega) (by omega)

  exact ⟨atv_in (by omega) (by assumption) f14, by omega⟩
def g_208_s_4 : vG := ([(4, [6, 4, 5], [], 0), (0, [5], [], 255), (22, [4, 3, 1], [0], 0), (90, [4], [], -128), (91, [4], [], 127), (20, [3, 0], [0], 3), (0, [3], [], 287), (42, [1, 2], [], 0), (20, [2, 0], [0], 4), (90, [2], [], 0), (91, [2], [], 2000), (6000, [0, 1], [0], 0), (0, [0], [], 285), (90, [1], [], -2147483648), (91, [1], [], 2147483647)], (3000, [6], [0], 22))
theorem c_208_s_4 : vOkm T0 (eP e_208 L_208 A_208 mu_208 none) 2 g_208_s_4 := vOk_in fun ρ η h => by
  obtain ⟨f0, f1, f2, f3, f4, f5, f6, f7, f8, f9, f10, f11, f12, f13, f14, _⟩ := h
  exact q_208_4 (n0 := ρ 1) (n1 := ρ 0) (n2 := ρ 2) (n3 := ρ 3) (n4 := ρ 4) (n5 := ρ 5) (n6 := ρ 6) (H0 := η 0) f14 f13 f12 f11 f10 f9 f8 f7 f6 f5 f4 f3 f2 f1 f0
def p_208_s : List vG := [g_208_s_0,
  g_208_s_1,
  g_208_s_2,
  g_208_s_3,
  g_208_s_4]
theorem r_208_s : vCovO false (eR0 e_208 L_208 cs_208 2000) p_208_s = true := by decide +kernel
theorem m_208 (d : Nat) : eC e_208 (d + 1) := eC_ok (e := e_208) (L := L_208) (cs := cs_208) (n := 2000) (d := d + 0) (A := A_208) (μ := mu_208) (tp := false) (p0 := p_208_s) rfl trivial rfl (.inl rfl) (by decide +kernel) (fun z => nomatch z) r_208_s (allC c_208_s_0 (allC c_208_s_1 (allC c_208_s_2 (allC c_208_s_3 (allC c_208_s_4 allN))))) allN
/- MixStageModel.isDigit (I)Z -/
noncomputable def s_209 : vM := ([(0, -2147483648, 2147483647, 0)], (0, 0, 1, 0), 0, 0, [])
def postb_209 (r a0 : Int) (h0 h : gH) : Prop := (r = 1 ∧ 48 ≤ a0 ∧ a0 ≤ 57) ∨ (r = 0 ∧ ¬ (48 ≤ a0 ∧ a0 ≤ 57))
def post_209 : List Int → gH → gH → Prop := fun xs h0 h => match xs with
  | [r, a0] => postb_209 r a0 h0 h
  | _ => True
noncomputable def e_209 : vE := (209, s_209, pre0, post_209)
noncomputable def L_209 : List vE := []
def cs_209 : List vC := []
def A_209 : Int → List Int → gH → gH → Prop := fun c xs h0 h => True
def mu_209 : Int → List Int → gH → gH → Nat := fun c xs h0 h => 0
theorem q_209_0 {n0 n1 n2 : Int} {H0 : gH} (f0 : n0 = 48) (f1 : n1 < n0) (f2 : n2 = 0) : postb_209 n2 n1 H0 H0 := by
  unfold postb_209
  first | assumption | omega | trivial
def g_209_s_0 : vG := ([(0, [2], [], 0), (42, [0, 1], [], 0), (0, [1], [], 48)], (3000, [2], [0], 17))
theorem c_209_s_0 : vOkm T0 (eP e_209 L_209 A_209 mu_209 none) 1 g_209_s_0 := vOk_in fun ρ η h => by
  obtain ⟨f0, f1, f2, _⟩ := h
  exact q_209_0 (n0 := ρ 1) (n1 := ρ 0) (n2 := ρ 2) (H0 := η 0) f2 f1 f0
theorem q_209_1 {n0 n1 n2 : Int} {H0 : gH} (f0 : n0 = 57) (f1 : n0 < n1) (f2 : n2 = 0) : postb_209 n2 n1 H0 H0 := by
  unfold postb_209
  first | assumption | omega | trivial
def g_209_s_1 : vG := ([(0, [3], [], 0), (44, [0, 2], [], 0), (0, [2], [], 57)], (3000, [3], [0], 17))
theorem c_209_s_1 : vOkm T0 (eP e_209 L_209 A_209 mu_209 none) 1 g_209_s_1 := vOk_in fun ρ η h => by
  obtain ⟨f0, f1, f2, _⟩ := h
  exact q_209_1 (n0 := ρ 2) (n1 := ρ 0) (n2 := ρ 3) (H0 := η 0) f2 f1 f0
theorem q_209_2 {n0 n1 n2 n3 : Int} {H0 : gH} (f0 : n0 = 48) (f1 : n0 ≤ n1) (f2 : n2 = 57) (f3 : n1 ≤ n2) (f4 : n3 = 1) : postb_209 n3 n1 H0 H0 := by
  unfold postb_209
  first | assumption | omega | trivial
def g_209_s_2 : vG := ([(0, [3], [], 1), (45, [0, 2], [], 0), (0, [2], [], 57), (43, [0, 1], [], 0), (0, [1], [], 48)], (3000, [3], [0], 17))
theorem c_209_s_2 : vOkm T0 (eP e_209 L_209 A_209 mu_209 none) 1 g_209_s_2 := vOk_in fun ρ η h => by
  obtain ⟨f0, f1, f2, f3, f4, _⟩ := h
  exact q_209_2 (n0 := ρ 1) (n1 := ρ 0) (n2 := ρ 2) (n3 := ρ 3) (H0 := η 0) f4 f3 f2 f1 f0
def p_209_s : List vG := [g_209_s_0,
  g_209_s_1,
  g_209_s_2]
theorem r_209_s : vCovO false (eR0 e_209 L_209 cs_209 2000) p_209_s = true := by decide +kernel
theorem m_209 (d : Nat) : eC e_209 (d + 1) := eC_ok (e := e_209) (L := L_209) (cs := cs_209) (n := 2000) (d := d + 0) (A := A_209) (μ := mu_209) (tp := false) (p0 := p_209_s) rfl trivial rfl (.inr pre0_ok) (by decide +kernel) (fun z => nomatch z) r_209_s (allC c_209_s_0 (allC c_209_s_1 (allC c_209_s_2 allN))) allN
/- MixStageModel.isLetter (I)Z -/
noncomputable def s_210 : vM := ([(0, -2147483648, 2147483647, 0)], (0, 0, 1, 0), 0, 0, [])
def postb_210 (r a0 : Int) (h0 h : gH) : Prop := (r = 1 ∧ 97 ≤ a0 ∧ a0 ≤ 122) ∨ (r = 0 ∧ ¬ (97 ≤ a0 ∧ a0 ≤ 122))
def post_210 : List Int → gH → gH → Prop := fun xs h0 h => match xs with
  | [r, a0] => postb_210 r a0 h0 h
  | _ => True
noncomputable def e_210 : vE := (210, s_210, pre0, post_210)
noncomputable def L_210 : List vE := []
def cs_210 : List vC := []
def A_210 : Int → List Int → gH → gH → Prop := fun c xs h0 h => True
def mu_210 : Int → List Int → gH → gH → Nat := fun c xs h0 h => 0
theorem q_210_0 {n0 n1 n2 : Int} {H0 : gH} (f0 : n0 = 97) (f1 : n1 < n0) (f2 : n2 = 0) : postb_210 n2 n1 H0 H0 := by
  unfold postb_210
  first | assumption | omega | trivial
def g_210_s_0 : vG := ([(0, [2], [], 0), (42, [0, 1], [], 0), (0, [1], [], 97)], (3000, [2], [0], 17))
theorem c_210_s_0 : vOkm T0 (eP e_210 L_210 A_210 mu_210 none) 1 g_210_s_0 := vOk_in fun ρ η h => by
  obtain ⟨f0, f1, f2, _⟩ := h
  exact q_210_0 (n0 := ρ 1) (n1 := ρ 0) (n2 := ρ 2) (H0 := η 0) f2 f1 f0
theorem q_210_1 {n0 n1 n2 : Int} {H0 : gH} (f0 : n0 = 122) (f1 : n0 < n1) (f2 : n2 = 0) : postb_210 n2 n1 H0 H0 := by
  unfold postb_210
  first | assumption | omega | trivial
def g_210_s_1 : vG := ([(0, [3], [], 0), (44, [0, 2], [], 0), (0, [2], [], 122)], (3000, [3], [0], 17))
theorem c_210_s_1 : vOkm T0 (eP e_210 L_210 A_210 mu_210 none) 1 g_210_s_1 := vOk_in fun ρ η h => by
  obtain ⟨f0, f1, f2, _⟩ := h
  exact q_210_1 (n0 := ρ 2) (n1 := ρ 0) (n2 := ρ 3) (H0 := η 0) f2 f1 f0
theorem q_210_2 {n0 n1 n2 n3 : Int} {H0 : gH} (f0 : n0 = 97) (f1 : n0 ≤ n1) (f2 : n2 = 122) (f3 : n1 ≤ n2) (f4 : n3 = 1) : postb_210 n3 n1 H0 H0 := by
  unfold postb_210
  first | assumption | omega | trivial
def g_210_s_2 : vG := ([(0, [3], [], 1), (45, [0, 2], [], 0), (0, [2], [], 122), (43, [0, 1], [], 0), (0, [1], [], 97)], (3000, [3], [0], 17))
theorem c_210_s_2 : vOkm T0 (eP e_210 L_210 A_210 mu_210 none) 1 g_210_s_2 := vOk_in fun ρ η h => by
  obtain ⟨f0, f1, f2, f3, f4, _⟩ := h
  exact q_210_2 (n0 := ρ 1) (n1 := ρ 0) (n2 := ρ 2) (n3 := ρ 3) (H0 := η 0) f4 f3 f2 f1 f0
def p_210_s : List vG := [g_210_s_0,
  g_210_s_1,
  g_210_s_2]
theorem r_210_s : vCovO false (eR0 e_210 L_210 cs_210 2000) p_210_s = true := by decide +kernel
theorem m_210 (d : Nat) : eC e_210 (d + 1) := eC_ok (e := e_210) (L := L_210) (cs := cs_210) (n := 2000) (d := d + 0) (A := A_210) (μ := mu_210) (tp := false) (p0 := p_210_s) rfl trivial rfl (.inr pre0_ok) (by decide +kernel) (fun z => nomatch z) r_210_s (allC c_210_s_0 (allC c_210_s_1 (allC c_210_s_2 allN))) allN
/- MixStageModel.more (JI)J -/
noncomputable def s_211 : vM := ([(1, 0, 0, 0), (0, -2147483648, 2147483647, 0)], (1, 0, 0, 0), 0, 0, [])
noncomputable def e_211 : vE := (211, s_211, pre0, post0)
noncomputable def L_211 : List vE := []
def cs_211 : List vC := []
def A_211 : Int → List Int → gH → gH → Prop := fun c xs h0 h => True
def mu_211 : Int → List Int → gH → gH → Nat := fun c xs h0 h => 0
def p_211_s : List vG := []
theorem r_211_s : vCovO true (eR0 e_211 L_211 cs_211 2000) p_211_s = true := by decide +kernel
theorem m_211 (d : Nat) : eC e_211 (d + 1) := eC_ok (e := e_211) (L := L_211) (cs := cs_211) (n := 2000) (d := d + 0) (A := A_211) (μ := mu_211) (tp := true) (p0 := p_211_s) rfl trivial rfl (.inr pre0_ok) (by decide +kernel) (fun _ => post0_ok) r_211_s allN allN
/- MixStageModel.token (IIIJ)V -/
noncomputable def s_213 : vM := ([(3, 12, 285, 0), (0, 0, 53, 0), (0, 0, 2000, 0), (0, 0, 9999, 0), (1, 0, 0, 0)], (9, 0, 0, 0), 1, 0, [(12, 10), (132, 0), (140, 0), (148, 0), (157, 0)])
def preb_213 (a0 a1 a2 a3 a4 : Int) (h : gH) : Prop := hV h 285 10 ≤ 500
def pre_213 : List Int → gH → Prop := fun xs h => match xs with
  | [a0, a1, a2, a3, a4] => preb_213 a0 a1 a2 a3 a4 h
  | _ => False
def postb_213 (a0 a1 a2 a3 a4 : Int) (h0 h : gH) : Prop := hV h 285 10 = hV h0 285 10 + 1
def post_213 : List Int → gH → gH → Prop := fun xs h0 h => match xs with
  | [a0, a1, a2, a3, a4] => postb_213 a0 a1 a2 a3 a4 h0 h
  | _ => True
noncomputable def e_213 : vE := (213, s_213, pre_213, post_213)
noncomputable def L_213 : List vE := []
def cs_213 : List vC := []
def A_213 : Int → List Int → gH → gH → Prop := fun c xs h0 h => True
def mu_213 : Int → List Int → gH → gH → Nat := fun c xs h0 h => 0
theorem q_213_0 {n0 n1 n2 : Int} {H0 : gH} (f0 : n0 ≤ 501) (f1 : 0 ≤ n0) (f2 : n1 = 1) (f3 : n2 = w32 (n0 + n1)) : 0 ≤ n2 := by
  unfold w32 at *
  try (have ix0 : n2 = n0 + 1 := (by omega); subst ix0)
  omega
def g_213_s_0 : vG := ([(1, [15, 13, 14], [], 0), (0, [14], [], 1), (90, [13], [], 0), (91, [13], [], 501)], (90, [15], [], 0))
theorem c_213_s_0 : vOkm T0 (eP e_213 L_213 A_213 mu_213 none) 5 g_213_s_0 := vOk_in fun ρ η h => by
  obtain ⟨f0, f1, f2, f3, _⟩ := h
  exact q_213_0 (n0 := ρ 13) (n1 := ρ 14) (n2 := ρ 15) (H0 := η 0) f3 f2 f1 f0
theorem q_213_1 {n0 n1 n2 n3 n4 n5 n6 n7 n8 n9 n10 n11 n12 n13 n14 n15 : Int} {H0 H1 H2 H3 H4 : gH} (f0 : n0 = 285) (f1 : hWt T0 H0 ∧ preb_213 n0 n1 n2 n3 n4 H0) (f2 : n5 = 288) (f3 : hUpd H1 H0 n5 n6 n1) (f4 : n7 = 289) (f5 : hUpd H2 H1 n7 n8 n2) (f6 : n9 = 290) (f7 : hUpd H3 H2 n9 n10 n3) (f8 : n11 = 291) (f9 : hUpd H4 H3 n11 n12 n4) (f10 : n13 = hV H4 (n0).toNat 10) (f11 : n14 = 1) (f12 : n15 = w32 (n13 + n14)) : n15 ≤ 501 := by
  unfold preb_213 at f1
  have e0 : hV H4 285 10 = hV H3 285 10 := uPlace f9 _ _ (iS (show n11 = ((291 : Nat) : Int) from f8) rfl)
  have e1 : hV H3 285 10 = hV H2 285 10 := uPlace f7 _ _ (iS (show n9 = ((290 : Nat) : Int) from f6) rfl)
  have e2 : hV H2 285 10 = hV H1 285 10 := uPlace f5 _ _ (iS (show n7 = ((289 : Nat) : Int) from f4) rfl)
  have e3 : hV H1 285 10 = hV H0 285 10 := uPlace f3 _ _ (iS (show n5 = ((288 : Nat) : Int) from f2) rfl)
  have e4 : n13 = hV H0 285 10 := (by rw [f0] at f10; exact f10 : n13 = hV H4 285 10).trans ((e0).trans ((e1).trans ((e2).trans e3)))
  have e5 : (0 : Int) ≤ hV H0 285 10 ∧ hV H0 285 10 ≤ 501 := f1.1 285 10 _ _ (by decide +kernel)
  have p0 := f1.2
  clear f10 e0 e1 e2 e3
  subst e4
  unfold w32 at *
  try (have ix0 : n15 = hV H0 285 10 + 1 := (by omega); subst ix0)
  omega
def g_213_s_1 : vG := ([(1, [15, 13, 14], [], 0), (0, [14], [], 1), (20, [13, 0], [4], 10), (80, [11, 12, 4], [4, 3], 1), (0, [11], [], 291), (80, [9, 10, 3], [3, 2], 0), (0, [9], [], 290), (80, [7, 8, 2], [2, 1], 0), (0, [7], [], 289), (80, [5, 6, 1], [1, 0], 0), (0, [5], [], 288), (6000, [0, 1, 2, 3, 4], [0], 0), (0, [0], [], 285)], (91, [15], [], 501))
theorem c_213_s_1 : vOkm T0 (eP e_213 L_213 A_213 mu_213 none) 5 g_213_s_1 := vOk_in fun ρ η h => by
  obtain ⟨f0, f1, f2, f3, f4, f5, f6, f7, f8, f9, f10, f11, f12, _⟩ := h
  exact q_213_1 (n0 := ρ 0) (n1 := ρ 1) (n2 := ρ 2) (n3 := ρ 3) (n4 := ρ 4) (n5 := ρ 5) (n6 := ρ 6) (n7 := ρ 7) (n8 := ρ 8) (n9 := ρ 9) (n10 := ρ 10) (n11 := ρ 11) (n12 := ρ 12) (n13 := ρ 13) (n14 := ρ 14) (n15 := ρ 15) (H0 := η 0) (H1 := η 1) (H2 := η 2) (H3 := η 3) (H4 := η 4) f12 f11 f10 f9 f8 f7 f6 f5 f4 f3 f2 f1 f0
theorem q_213_2 {n0 n1 n2 n3 n4 n5 n6 n7 n8 n9 n10 n11 n12 n13 n14 n15 n16 : Int} {H0 H1 H2 H3 H4 H5 : gH} (f0 : n0 = 285) (f1 : n1 = 288) (f2 : hUpd H1 H0 n1 n2 n3) (f3 : n4 = 289) (f4 : hUpd H2 H1 n4 n5 n6) (f5 : n7 = 290) (f6 : hUpd H3 H2 n7 n8 n9) (f7 : n10 = 291) (f8 : hUpd H4 H3 n10 n11 n12) (f9 : n13 ≤ 501) (f10 : 0 ≤ n13) (f11 : n13 = hV H4 (n0).toNat 10) (f12 : n14 = 1) (f13 : n15 = w32 (n13 + n14)) (f14 : n16 = 10) (f15 : hUpd H5 H4 n0 n16 n15) : postb_213 n0 n3 n6 n9 n12 H0 H5 := by
  unfold postb_213
  have e0 : hV H4 285 10 = hV H3 285 10 := uPlace f8 _ _ (iS (show n10 = ((291 : Nat) : Int) from f7) rfl)
  have e1 : hV H3 285 10 = hV H2 285 10 := uPlace f6 _ _ (iS (show n7 = ((290 : Nat) : Int) from f5) rfl)
  have e2 : hV H2 285 10 = hV H1 285 10 := uPlace f4 _ _ (iS (show n4 = ((289 : Nat) : Int) from f3) rfl)
  have e3 : hV H1 285 10 = hV H0 285 10 := uPlace f2 _ _ (iS (show n1 = ((288 : Nat) : Int) from f1) rfl)
  have e4 : n13 = hV H0 285 10 := (by rw [f0] at f11; exact f11 : n13 = hV H4 285 10).trans ((e0).trans ((e1).trans ((e2).trans e3)))
  have e5 : hV H5 285 10 = n15 := uSame f15 _ _ f0.symm f14.symm
  have e6 : hV H5 285 10 = n15 := e5
  try simp only [e6]
  clear f11 e0 e1 e2 e3
  subst e4
  unfold w32 at *
  try (have ix0 : n15 = hV H0 285 10 + 1 := (by omega); subst ix0)
  first | assumption | omega | trivial
def g_213_s_2 : vG := ([(80, [0, 16, 15], [5, 4], 0), (0, [16], [], 10), (1, [15, 13, 14], [], 0), (0, [14], [], 1), (20, [13, 0], [4], 10), (90, [13], [], 0), (91, [13], [], 501), (80, [11, 12, 4], [4, 3], 1), (0, [11], [], 291), (80, [9, 10, 3], [3, 2], 0), (0, [9], [], 290), (80, [7, 8, 2], [2, 1], 0), (0, [7], [], 289), (80, [5, 6, 1], [1, 0], 0), (0, [5], [], 288), (0, [0], [], 285)], (3000, [], [5], 51))
theorem c_213_s_2 : vOkm T0 (eP e_213 L_213 A_213 mu_213 none) 5 g_213_s_2 := vOk_in fun ρ η h => by
  obtain ⟨f0, f1, f2, f3, f4, f5, f6, f7, f8, f9, f10, f11, f12, f13, f14, f15, _⟩ := h
  exact q_213_2 (n0 := ρ 0) (n1 := ρ 5) (n2 := ρ 6) (n3 := ρ 1) (n4 := ρ 7) (n5 := ρ 8) (n6 := ρ 2) (n7 := ρ 9) (n8 := ρ 10) (n9 := ρ 3) (n10 := ρ 11) (n11 := ρ 12) (n12 := ρ 4) (n13 := ρ 13) (n14 := ρ 14) (n15 := ρ 15) (n16 := ρ 16) (H0 := η 0) (H1 := η 1) (H2 := η 2) (H3 := η 3) (H4 := η 4) (H5 := η 5) f15 f14 f13 f12 f11 f10 f9 f8 f7 f6 f5 f4 f3 f2 f1 f0
def p_213_s : List vG := [g_213_s_0,
  g_213_s_1,
  g_213_s_2]
theorem r_213_s : vCovO false (eR0 e_213 L_213 cs_213 2000) p_213_s = true := by decide +kernel
theorem m_213 (d : Nat) : eC e_213 (d + 1) := eC_ok (e := e_213) (L := L_213) (cs := cs_213) (n := 2000) (d := d + 0) (A := A_213) (μ := mu_213) (tp := false) (p0 := p_213_s) rfl trivial rfl (.inl rfl) (by decide +kernel) (fun z => nomatch z) r_213_s (allC c_213_s_0 (allC c_213_s_1 (allC c_213_s_2 allN))) allN
/- MixStageModel.sign (III)I -/
noncomputable def s_215 : vM := ([(3, 12, 285, 0), (0, 0, 2000, 0), (0, -2147483648, 2147483647, 0), (0, -2147483648, 2147483647, 0)], (0, -2147483648, 2147483647, 0), 1, 0, [(12, 10), (132, 0), (140, 0), (148, 0), (157, 0)])
def preb_215 (a0 a1 a2 a3 : Int) (h : gH) : Prop := hV h 285 10 ≤ 500
def pre_215 : List Int → gH → Prop := fun xs h => match xs with
  | [a0, a1, a2, a3] => preb_215 a0 a1 a2 a3 h
  | _ => False
def postb_215 (r a0 a1 a2 a3 : Int) (h0 h : gH) : Prop := hV h 285 10 = hV h0 285 10 + 1 ∧ (r = 1 ∨ (r = 2 ∧ a3 = 61))
def post_215 : List Int → gH → gH → Prop := fun xs h0 h => match xs with
  | [r, a0, a1, a2, a3] => postb_215 r a0 a1 a2 a3 h0 h
  | _ => True
noncomputable def e_215 : vE := (215, s_215, pre_215, post_215)
noncomputable def L_215 : List vE := [e_213]
def cs_215 : List vC := [(46, [(0, (3, 12, 285, 0)), (1, (0, 0, 2000, 0)), (2, (0, -2147483648, 2147483647, 0)), (3, (0, -2147483648, 2147483647, 0)), (4, (0, 0, 14, 0))]), (173, [(0, (3, 12, 285, 0)), (1, (0, 0, 2000, 0)), (2, (0, -2147483648, 2147483647, 0)), (3, (0, -2147483648, 2147483647, 0)), (4, (0, 0, 14, 0)), (5, (0, 0, 53, 0))])]
def Ab_215_46 (a0 a1 a2 a3 x0 x1 x2 x3 x4 : Int) (h0 h : gH) : Prop := x1 = a1 ∧ x2 = a2 ∧ x3 = a3 ∧ (0 < x4 → a3 = 61) ∧ hV h 285 10 = hV h0 285 10
def mub_215_46 (a0 a1 a2 a3 x0 x1 x2 x3 x4 : Int) (h0 h : gH) : Nat := 1
def Ab_215_173 (a0 a1 a2 a3 x0 x1 x2 x3 x4 x5 : Int) (h0 h : gH) : Prop := x1 = a1 ∧ x2 = a2 ∧ x3 = a3 ∧ (0 < x4 → a3 = 61) ∧ hV h 285 10 = hV h0 285 10
def mub_215_173 (a0 a1 a2 a3 x0 x1 x2 x3 x4 x5 : Int) (h0 h : gH) : Nat := 0
def A_215 : Int → List Int → gH → gH → Prop := fun c xs h0 h => match c.toNat with
  | 46 => (match xs with
    | [a0, a1, a2, a3, x0, x1, x2, x3, x4] => Ab_215_46 a0 a1 a2 a3 x0 x1 x2 x3 x4 h0 h
    | _ => False)
  | 173 => (match xs with
    | [a0, a1, a2, a3, x0, x1, x2, x3, x4, x5] => Ab_215_173 a0 a1 a2 a3 x0 x1 x2 x3 x4 x5 h0 h
    | _ => False)
  | _ => True
def mu_215 : Int → List Int → gH → gH → Nat := fun c xs h0 h => match c.toNat with
  | 46 => 1
  | 173 => 0
  | _ => 0
theorem q_215_0 {n0 n1 n2 n3 n4 : Int} {H0 : gH} (f0 : n0 = 285) (f1 : n1 = 0) : Ab_215_46 n0 n2 n3 n4 n0 n2 n3 n4 n1 H0 H0 ∧ ∀ q, none = some q → mub_215_46 n0 n2 n3 n4 n0 n2 n3 n4 n1 H0 H0 < q := by
  unfold Ab_215_46
  refine ⟨?_, fun q hq => ?_⟩
  · refine ⟨?_, ?_, ?_, ?_, ?_⟩ <;> first | assumption | omega | trivial
  · exact nomatch hq
def g_215_s_0 : vG := ([(0, [8], [], 0), (0, [0], [], 285)], (4000, [0, 1, 2, 3, 8], [0], 46))
theorem c_215_s_0 : vOkm T0 (eP e_215 L_215 A_215 mu_215 none) 4 g_215_s_0 := vOk_in fun ρ η h => by
  obtain ⟨f0, f1, _⟩ := h
  exact q_215_0 (n0 := ρ 0) (n1 := ρ 8) (n2 := ρ 1) (n3 := ρ 2) (n4 := ρ 3) (H0 := η 0) f1 f0
theorem q_215_1 {n0 n1 n2 n3 n4 n5 : Int} {H0 : gH} (f0 : n0 = 285) (f1 : n1 = 61) (f2 : n2 = n1) (f3 : n3 = 14) : Ab_215_46 n0 n4 n5 n2 n0 n4 n5 n2 n3 H0 H0 ∧ ∀ q, none = some q → mub_215_46 n0 n4 n5 n2 n0 n4 n5 n2 n3 H0 H0 < q := by
  unfold Ab_215_46
  refine ⟨?_, fun q hq => ?_⟩
  · refine ⟨?_, ?_, ?_, ?_, ?_⟩ <;> first | assumption | omega | trivial
  · exact nomatch hq
def g_215_s_1 : vG := ([(0, [8], [], 14), (40, [3, 4], [], 0), (0, [4], [], 61), (0, [0], [], 285)], (4000, [0, 1, 2, 3, 8], [0], 46))
theorem c_215_s_1 : vOkm T0 (eP e_215 L_215 A_215 mu_215 none) 4 g_215_s_1 := vOk_in fun ρ η h => by
  obtain ⟨f0, f1, f2, f3, _⟩ := h
  exact q_215_1 (n0 := ρ 0) (n1 := ρ 4) (n2 := ρ 3) (n3 := ρ 8) (n4 := ρ 1) (n5 := ρ 2) (H0 := η 0) f3 f2 f1 f0
theorem q_215_2 {n0 n1 n2 n3 n4 n5 : Int} {H0 : gH} (f0 : n0 = 285) (f1 : n1 = 61) (f2 : n2 = n1) (f3 : n3 = 12) : Ab_215_46 n0 n4 n5 n2 n0 n4 n5 n2 n3 H0 H0 ∧ ∀ q, none = some q → mub_215_46 n0 n4 n5 n2 n0 n4 n5 n2 n3 H0 H0 < q := by
  unfold Ab_215_46
  refine ⟨?_, fun q hq => ?_⟩
  · refine ⟨?_, ?_, ?_, ?_, ?_⟩ <;> first | assumption | omega | trivial
  · exact nomatch hq
def g_215_s_2 : vG := ([(0, [7], [], 12), (40, [3, 4], [], 0), (0, [4], [], 61), (0, [0], [], 285)], (4000, [0, 1, 2, 3, 7], [0], 46))
theorem c_215_s_2 : vOkm T0 (eP e_215 L_215 A_215 mu_215 none) 4 g_215_s_2 := vOk_in fun ρ η h => by
  obtain ⟨f0, f1, f2, f3, _⟩ := h
  exact q_215_2 (n0 := ρ 0) (n1 := ρ 4) (n2 := ρ 3) (n3 := ρ 7) (n4 := ρ 1) (n5 := ρ 2) (H0 := η 0) f3 f2 f1 f0
theorem q_215_3 {n0 n1 n2 n3 n4 n5 : Int} {H0 : gH} (f0 : n0 = 285) (f1 : n1 = 61) (f2 : n2 = n1) (f3 : n3 = 11) : Ab_215_46 n0 n4 n5 n2 n0 n4 n5 n2 n3 H0 H0 ∧ ∀ q, none = some q → mub_215_46 n0 n4 n5 n2 n0 n4 n5 n2 n3 H0 H0 < q := by
  unfold Ab_215_46
  refine ⟨?_, fun q hq => ?_⟩
  · refine ⟨?_, ?_, ?_, ?_, ?_⟩ <;> first | assumption | omega | trivial
  · exact nomatch hq
def g_215_s_3 : vG := ([(0, [6], [], 11), (40, [3, 4], [], 0), (0, [4], [], 61), (0, [0], [], 285)], (4000, [0, 1, 2, 3, 6], [0], 46))
theorem c_215_s_3 : vOkm T0 (eP e_215 L_215 A_215 mu_215 none) 4 g_215_s_3 := vOk_in fun ρ η h => by
  obtain ⟨f0, f1, f2, f3, _⟩ := h
  exact q_215_3 (n0 := ρ 0) (n1 := ρ 4) (n2 := ρ 3) (n3 := ρ 6) (n4 := ρ 1) (n5 := ρ 2) (H0 := η 0) f3 f2 f1 f0
def g_215_s_4 : vG := ([(0, [5], [], 0), (0, [0], [], 285)], (4000, [0, 1, 2, 3, 5], [0], 46))
theorem c_215_s_4 : vOkm T0 (eP e_215 L_215 A_215 mu_215 none) 4 g_215_s_4 := vOk_in fun ρ η h => by
  obtain ⟨f0, f1, _⟩ := h
  exact q_215_0 (n0 := ρ 0) (n1 := ρ 5) (n2 := ρ 1) (n3 := ρ 2) (n4 := ρ 3) (H0 := η 0) f1 f0
def p_215_s : List vG := [g_215_s_0,
  g_215_s_1,
  g_215_s_2,
  g_215_s_3,
  g_215_s_4]
theorem r_215_s : vCovO false (eR0 e_215 L_215 cs_215 2000) p_215_s = true := by decide +kernel
theorem q_215_4 {q0 : Nat} {n0 n1 n2 n3 n4 n5 n6 n7 n8 n9 : Int} {H0 H1 : gH} (f0 : n0 = 285) (f1 : n1 = 285) (f2 : (hLe T0 H0 H1 ∧ hFr s_215.2.2.2.2 H0 H1 ∧ hWt T0 H1) ∧ (Ab_215_46 n1 n2 n3 n4 n0 n5 n6 n7 n8 H0 H1 ∧ preb_215 n1 n2 n3 n4 H0) ∧ some q0 = some (mub_215_46 n1 n2 n3 n4 n0 n5 n6 n7 n8 H0 H1)) (f3 : n9 = 3) : Ab_215_173 n1 n2 n3 n4 n0 n5 n6 n7 n8 n9 H0 H1 ∧ ∀ q, some q0 = some q → mub_215_173 n1 n2 n3 n4 n0 n5 n6 n7 n8 n9 H0 H1 < q := by
  have g4 := f2.2.1.1
  unfold Ab_215_46 at g4
  have g3 := f2.2.1.2
  unfold preb_215 at g3
  have g5 := Option.some.inj f2.2.2
  unfold mub_215_46 at g5
  unfold Ab_215_173
  unfold mub_215_173
  have e0 : (0 : Int) ≤ hV H1 285 10 ∧ hV H1 285 10 ≤ 501 := f2.1.2.2 285 10 _ _ (by decide +kernel)
  have k0 := g4.1
  have k1 := g4.2.1
  have k2 := g4.2.2.1
  have y0 := g4.2.2.2.1
  have y1 := g4.2.2.2.2
  have p0 := g3
  clear g3
  clear g4
  try subst k2
  try subst k1
  try subst k0
  refine ⟨?_, fun q hq => ?_⟩
  · refine ⟨?_, ?_, ?_, ?_, ?_⟩ <;> first | assumption | omega | trivial
  · have g6 := Option.some.inj hq
    subst g6
    omega
def g_215_46_0 : vG := ([(0, [9], [], 3), (5000, [0, 1, 2, 3, 4, 5, 6, 7, 8], [0, 1], 46), (0, [0], [], 285), (0, [4], [], 285)], (4000, [4, 5, 6, 7, 8, 9], [1], 173))
theorem c_215_46_0 {q0 : Nat} : vOkm T0 (eP e_215 L_215 A_215 mu_215 (some q0)) 4 g_215_46_0 := vOk_in fun ρ η h => by
  obtain ⟨f0, f1, f2, f3, _⟩ := h
  exact q_215_4 (q0 := q0) (n0 := ρ 4) (n1 := ρ 0) (n2 := ρ 1) (n3 := ρ 2) (n4 := ρ 3) (n5 := ρ 5) (n6 := ρ 6) (n7 := ρ 7) (n8 := ρ 8) (n9 := ρ 9) (H0 := η 0) (H1 := η 1) f3 f2 f1 f0
theorem q_215_5 {q0 : Nat} {n0 n1 n2 n3 n4 n5 n6 n7 n8 n9 : Int} {H0 H1 : gH} (f0 : n0 = 285) (f1 : n1 = 285) (f2 : (hLe T0 H0 H1 ∧ hFr s_215.2.2.2.2 H0 H1 ∧ hWt T0 H1) ∧ (Ab_215_46 n1 n2 n3 n4 n0 n5 n6 n7 n8 H0 H1 ∧ preb_215 n1 n2 n3 n4 H0) ∧ some q0 = some (mub_215_46 n1 n2 n3 n4 n0 n5 n6 n7 n8 H0 H1)) (f3 : n9 = 15) : Ab_215_173 n1 n2 n3 n4 n0 n5 n6 n7 n8 n9 H0 H1 ∧ ∀ q, some q0 = some q → mub_215_173 n1 n2 n3 n4 n0 n5 n6 n7 n8 n9 H0 H1 < q := by
  have g4 := f2.2.1.1
  unfold Ab_215_46 at g4
  have g3 := f2.2.1.2
  unfold preb_215 at g3
  have g5 := Option.some.inj f2.2.2
  unfold mub_215_46 at g5
  unfold Ab_215_173
  unfold mub_215_173
  have e0 : (0 : Int) ≤ hV H1 285 10 ∧ hV H1 285 10 ≤ 501 := f2.1.2.2 285 10 _ _ (by decide +kernel)
  have k0 := g4.1
  have k1 := g4.2.1
  have k2 := g4.2.2.1
  have y0 := g4.2.2.2.1
  have y1 := g4.2.2.2.2
  have p0 := g3
  clear g3
  clear g4
  try subst k2
  try subst k1
  try subst k0
  refine ⟨?_, fun q hq => ?_⟩
  · refine ⟨?_, ?_, ?_, ?_, ?_⟩ <;> first | assumption | omega | trivial
  · have g6 := Option.some.inj hq
    subst g6
    omega
def g_215_46_1 : vG := ([(0, [19], [], 15), (5000, [0, 1, 2, 3, 4, 5, 6, 7, 8], [0, 1], 46), (0, [0], [], 285), (0, [4], [], 285)], (4000, [4, 5, 6, 7, 8, 19], [1], 173))
theorem c_215_46_1 {q0 : Nat} : vOkm T0 (eP e_215 L_215 A_215 mu_215 (some q0)) 4 g_215_46_1 := vOk_in fun ρ η h => by
  obtain ⟨f0, f1, f2, f3, _⟩ := h
  exact q_215_5 (q0 := q0) (n0 := ρ 4) (n1 := ρ 0) (n2 := ρ 1) (n3 := ρ 2) (n4 := ρ 3) (n5 := ρ 5) (n6 := ρ 6) (n7 := ρ 7) (n8 := ρ 8) (n9 := ρ 19) (H0 := η 0) (H1 := η 1) f3 f2 f1 f0
theorem q_215_6 {q0 : Nat} {n0 n1 n2 n3 n4 n5 n6 n7 n8 n9 : Int} {H0 H1 : gH} (f0 : n0 = 285) (f1 : n1 = 285) (f2 : (hLe T0 H0 H1 ∧ hFr s_215.2.2.2.2 H0 H1 ∧ hWt T0 H1) ∧ (Ab_215_46 n1 n2 n3 n4 n0 n5 n6 n7 n8 H0 H1 ∧ preb_215 n1 n2 n3 n4 H0) ∧ some q0 = some (mub_215_46 n1 n2 n3 n4 n0 n5 n6 n7 n8 H0 H1)) (f3 : n9 = 5) : Ab_215_173 n1 n2 n3 n4 n0 n5 n6 n7 n8 n9 H0 H1 ∧ ∀ q, some q0 = some q → mub_215_173 n1 n2 n3 n4 n0 n5 n6 n7 n8 n9 H0 H1 < q := by
  have g4 := f2.2.1.1
  unfold Ab_215_46 at g4
  have g3 := f2.2.1.2
  unfold preb_215 at g3
  have g5 := Option.some.inj f2.2.2
  unfold mub_215_46 at g5
  unfold Ab_215_173
  unfold mub_215_173
  have e0 : (0 : Int) ≤ hV H1 285 10 ∧ hV H1 285 10 ≤ 501 := f2.1.2.2 285 10 _ _ (by decide +kernel)
  have k0 := g4.1
  have k1 := g4.2.1
  have k2 := g4.2.2.1
  have y0 := g4.2.2.2.1
  have y1 := g4.2.2.2.2
  have p0 := g3
  clear g3
  clear g4
  try subst k2
  try subst k1
  try subst k0
  refine ⟨?_, fun q hq => ?_⟩
  · refine ⟨?_, ?_, ?_, ?_, ?_⟩ <;> first | assumption | omega | trivial
  · have g6 := Option.some.inj hq
    subst g6
    omega
def g_215_46_2 : vG := ([(0, [18], [], 5), (5000, [0, 1, 2, 3, 4, 5, 6, 7, 8], [0, 1], 46), (0, [0], [], 285), (0, [4], [], 285)], (4000, [4, 5, 6, 7, 8, 18], [1], 173))
theorem c_215_46_2 {q0 : Nat} : vOkm T0 (eP e_215 L_215 A_215 mu_215 (some q0)) 4 g_215_46_2 := vOk_in fun ρ η h => by
  obtain ⟨f0, f1, f2, f3, _⟩ := h
  exact q_215_6 (q0 := q0) (n0 := ρ 4) (n1 := ρ 0) (n2 := ρ 1) (n3 := ρ 2) (n4 := ρ 3) (n5 := ρ 5) (n6 := ρ 6) (n7 := ρ 7) (n8 := ρ 8) (n9 := ρ 18) (H0 := η 0) (H1 := η 1) f3 f2 f1 f0
theorem q_215_7 {q0 : Nat} {n0 n1 n2 n3 n4 n5 n6 n7 n8 n9 : Int} {H0 H1 : gH} (f0 : n0 = 285) (f1 : n1 = 285) (f2 : (hLe T0 H0 H1 ∧ hFr s_215.2.2.2.2 H0 H1 ∧ hWt T0 H1) ∧ (Ab_215_46 n1 n2 n3 n4 n0 n5 n6 n7 n8 H0 H1 ∧ preb_215 n1 n2 n3 n4 H0) ∧ some q0 = some (mub_215_46 n1 n2 n3 n4 n0 n5 n6 n7 n8 H0 H1)) (f3 : n9 = 13) : Ab_215_173 n1 n2 n3 n4 n0 n5 n6 n7 n8 n9 H0 H1 ∧ ∀ q, some q0 = some q → mub_215_173 n1 n2 n3 n4 n0 n5 n6 n7 n8 n9 H0 H1 < q := by
  have g4 := f2.2.1.1
  unfold Ab_215_46 at g4
  have g3 := f2.2.1.2
  unfold preb_215 at g3
  have g5 := Option.some.inj f2.2.2
  unfold mub_215_46 at g5
  unfold Ab_215_173
  unfold mub_215_173
  have e0 : (0 : Int) ≤ hV H1 285 10 ∧ hV H1 285 10 ≤ 501 := f2.1.2.2 285 10 _ _ (by decide +kernel)
  have k0 := g4.1
  have k1 := g4.2.1
  have k2 := g4.2.2.1
  have y0 := g4.2.2.2.1
  have y1 := g4.2.2.2.2
  have p0 := g3
  clear g3
  clear g4
  try subst k2
  try subst k1
  try subst k0
  refine ⟨?_, fun q hq => ?_⟩
  · refine ⟨?_, ?_, ?_, ?_, ?_⟩ <;> first | assumption | omega | trivial
  · have g6 := Option.some.inj hq
    subst g6
    omega
def g_215_46_3 : vG := ([(0, [17], [], 13), (5000, [0, 1, 2, 3, 4, 5, 6, 7, 8], [0, 1], 46), (0, [0], [], 285), (0, [4], [], 285)], (4000, [4, 5, 6, 7, 8, 17], [1], 173))
theorem c_215_46_3 {q0 : Nat} : vOkm T0 (eP e_215 L_215 A_215 mu_215 (some q0)) 4 g_215_46_3 := vOk_in fun ρ η h => by
  obtain ⟨f0, f1, f2, f3, _⟩ := h
  exact q_215_7 (q0 := q0) (n0 := ρ 4) (n1 := ρ 0) (n2 := ρ 1) (n3 := ρ 2) (n4 := ρ 3) (n5 := ρ 5) (n6 := ρ 6) (n7 := ρ 7) (n8 := ρ 8) (n9 := ρ 17) (H0 := η 0) (H1 := η 1) f3 f2 f1 f0
theorem q_215_8 {q0 : Nat} {n0 n1 n2 n3 n4 n5 n6 n7 n8 n9 : Int} {H0 H1 : gH} (f0 : n0 = 285) (f1 : n1 = 285) (f2 : (hLe T0 H0 H1 ∧ hFr s_215.2.2.2.2 H0 H1 ∧ hWt T0 H1) ∧ (Ab_215_46 n1 n2 n3 n4 n0 n5 n6 n7 n8 H0 H1 ∧ preb_215 n1 n2 n3 n4 H0) ∧ some q0 = some (mub_215_46 n1 n2 n3 n4 n0 n5 n6 n7 n8 H0 H1)) (f3 : n9 = 10) : Ab_215_173 n1 n2 n3 n4 n0 n5 n6 n7 n8 n9 H0 H1 ∧ ∀ q, some q0 = some q → mub_215_173 n1 n2 n3 n4 n0 n5 n6 n7 n8 n9 H0 H1 < q := by
  have g4 := f2.2.1.1
  unfold Ab_215_46 at g4
  have g3 := f2.2.1.2
  unfold preb_215 at g3
  have g5 := Option.some.inj f2.2.2
  unfold mub_215_46 at g5
  unfold Ab_215_173
  unfold mub_215_173
  have e0 : (0 : Int) ≤ hV H1 285 10 ∧ hV H1 285 10 ≤ 501 := f2.1.2.2 285 10 _ _ (by decide +kernel)
  have k0 := g4.1
  have k1 := g4.2.1
  have k2 := g4.2.2.1
  have y0 := g4.2.2.2.1
  have y1 := g4.2.2.2.2
  have p0 := g3
  clear g3
  clear g4
  try subst k2
  try subst k1
  try subst k0
  refine ⟨?_, fun q hq => ?_⟩
  · refine ⟨?_, ?_, ?_, ?_, ?_⟩ <;> first | assumption | omega | trivial
  · have g6 := Option.some.inj hq
    subst g6
    omega
def g_215_46_4 : vG := ([(0, [16], [], 10), (5000, [0, 1, 2, 3, 4, 5, 6, 7, 8], [0, 1], 46), (0, [0], [], 285), (0, [4], [], 285)], (4000, [4, 5, 6, 7, 8, 16], [1], 173))
theorem c_215_46_4 {q0 : Nat} : vOkm T0 (eP e_215 L_215 A_215 mu_215 (some q0)) 4 g_215_46_4 := vOk_in fun ρ η h => by
  obtain ⟨f0, f1, f2, f3, _⟩ := h
  exact q_215_8 (q0 := q0) (n0 := ρ 4) (n1 := ρ 0) (n2 := ρ 1) (n3 := ρ 2) (n4 := ρ 3) (n5 := ρ 5) (n6 := ρ 6) (n7 := ρ 7) (n8 := ρ 8) (n9 := ρ 16) (H0 := η 0) (H1 := η 1) f3 f2 f1 f0
theorem q_215_9 {q0 : Nat} {n0 n1 n2 n3 n4 n5 n6 n7 n8 n9 : Int} {H0 H1 : gH} (f0 : n0 = 285) (f1 : n1 = 285) (f2 : (hLe T0 H0 H1 ∧ hFr s_215.2.2.2.2 H0 H1 ∧ hWt T0 H1) ∧ (Ab_215_46 n1 n2 n3 n4 n0 n5 n6 n7 n8 H0 H1 ∧ preb_215 n1 n2 n3 n4 H0) ∧ some q0 = some (mub_215_46 n1 n2 n3 n4 n0 n5 n6 n7 n8 H0 H1)) (f3 : n9 = 9) : Ab_215_173 n1 n2 n3 n4 n0 n5 n6 n7 n8 n9 H0 H1 ∧ ∀ q, some q0 = some q → mub_215_173 n1 n2 n3 n4 n0 n5 n6 n7 n8 n9 H0 H1 < q := by
  have g4 := f2.2.1.1
  unfold Ab_215_46 at g4
  have g3 := f2.2.1.2
  unfold preb_215 at g3
  have g5 := Option.some.inj f2.2.2
  unfold mub_215_46 at g5
  unfold Ab_215_173
  unfold mub_215_173
  have e0 : (0 : Int) ≤ hV H1 285 10 ∧ hV H1 285 10 ≤ 501 := f2.1.2.2 285 10 _ _ (by decide +kernel)
  have k0 := g4.1
  have k1 := g4.2.1
  have k2 := g4.2.2.1
  have y0 := g4.2.2.2.1
  have y1 := g4.2.2.2.2
  have p0 := g3
  clear g3
  clear g4
  try subst k2
  try subst k1
  try subst k0
  refine ⟨?_, fun q hq => ?_⟩
  · refine ⟨?_, ?_, ?_, ?_, ?_⟩ <;> first | assumption | omega | trivial
  · have g6 := Option.some.inj hq
    subst g6
    omega
def g_215_46_5 : vG := ([(0, [15], [], 9), (5000, [0, 1, 2, 3, 4, 5, 6, 7, 8], [0, 1], 46), (0, [0], [], 285), (0, [4], [], 285)], (4000, [4, 5, 6, 7, 8, 15], [1], 173))
theorem c_215_46_5 {q0 : Nat} : vOkm T0 (eP e_215 L_215 A_215 mu_215 (some q0)) 4 g_215_46_5 := vOk_in fun ρ η h => by
  obtain ⟨f0, f1, f2, f3, _⟩ := h
  exact q_215_9 (q0 := q0) (n0 := ρ 4) (n1 := ρ 0) (n2 := ρ 1) (n3 := ρ 2) (n4 := ρ 3) (n5 := ρ 5) (n6 := ρ 6) (n7 := ρ 7) (n8 := ρ 8) (n9 := ρ 15) (H0 := η 0) (H1 := η 1) f3 f2 f1 f0
theorem q_215_10 {q0 : Nat} {n0 n1 n2 n3 n4 n5 n6 n7 n8 n9 : Int} {H0 H1 : gH} (f0 : n0 = 285) (f1 : n1 = 285) (f2 : (hLe T0 H0 H1 ∧ hFr s_215.2.2.2.2 H0 H1 ∧ hWt T0 H1) ∧ (Ab_215_46 n1 n2 n3 n4 n0 n5 n6 n7 n8 H0 H1 ∧ preb_215 n1 n2 n3 n4 H0) ∧ some q0 = some (mub_215_46 n1 n2 n3 n4 n0 n5 n6 n7 n8 H0 H1)) (f3 : n9 = 8) : Ab_215_173 n1 n2 n3 n4 n0 n5 n6 n7 n8 n9 H0 H1 ∧ ∀ q, some q0 = some q → mub_215_173 n1 n2 n3 n4 n0 n5 n6 n7 n8 n9 H0 H1 < q := by
  have g4 := f2.2.1.1
  unfold Ab_215_46 at g4
  have g3 := f2.2.1.2
  unfold preb_215 at g3
  have g5 := Option.some.inj f2.2.2
  unfold mub_215_46 at g5
  unfold Ab_215_173
  unfold mub_215_173
  have e0 : (0 : Int) ≤ hV H1 285 10 ∧ hV H1 285 10 ≤ 501 := f2.1.2.2 285 10 _ _ (by decide +kernel)
  have k0 := g4.1
  have k1 := g4.2.1
  have k2 := g4.2.2.1
  have y0 := g4.2.2.2.1
  have y1 := g4.2.2.2.2
  have p0 := g3
  clear g3
  clear g4
  try subst k2
  try subst k1
  try subst k0
  refine ⟨?_, fun q hq => ?_⟩
  · refine ⟨?_, ?_, ?_, ?_, ?_⟩ <;> first | assumption | omega | trivial
  · have g6 := Option.some.inj hq
    subst g6
    omega
def g_215_46_6 : vG := ([(0, [14], [], 8), (5000, [0, 1, 2, 3, 4, 5, 6, 7, 8], [0, 1], 46), (0, [0], [], 285), (0, [4], [], 285)], (4000, [4, 5, 6, 7, 8, 14], [1], 173))
theorem c_215_46_6 {q0 : Nat} : vOkm T0 (eP e_215 L_215 A_215 mu_215 (some q0)) 4 g_215_46_6 := vOk_in fun ρ η h => by
  obtain ⟨f0, f1, f2, f3, _⟩ := h
  exact q_215_10 (q0 := q0) (n0 := ρ 4) (n1 := ρ 0) (n2 := ρ 1) (n3 := ρ 2) (n4 := ρ 3) (n5 := ρ 5) (n6 := ρ 6) (n7 := ρ 7) (n8 := ρ 8) (n9 := ρ 14) (H0 := η 0) (H1 := η 1) f3 f2 f1 f0
theorem q_215_11 {q0 : Nat} {n0 n1 n2 n3 n4 n5 n6 n7 n8 n9 : Int} {H0 H1 : gH} (f0 : n0 = 285) (f1 : n1 = 285) (f2 : (hLe T0 H0 H1 ∧ hFr s_215.2.2.2.2 H0 H1 ∧ hWt T0 H1) ∧ (Ab_215_46 n1 n2 n3 n4 n0 n5 n6 n7 n8 H0 H1 ∧ preb_215 n1 n2 n3 n4 H0) ∧ some q0 = some (mub_215_46 n1 n2 n3 n4 n0 n5 n6 n7 n8 H0 H1)) (f3 : n9 = 7) : Ab_215_173 n1 n2 n3 n4 n0 n5 n6 n7 n8 n9 H0 H1 ∧ ∀ q, some q0 = some q → mub_215_173 n1 n2 n3 n4 n0 n5 n6 n7 n8 n9 H0 H1 < q := by
  have g4 := f2.2.1.1
  unfold Ab_215_46 at g4
  have g3 := f2.2.1.2
  unfold preb_215 at g3
  have g5 := Option.some.inj f2.2.2
  unfold mub_215_46 at g5
  unfold Ab_215_173
  unfold mub_215_173
  have e0 : (0 : Int) ≤ hV H1 285 10 ∧ hV H1 285 10 ≤ 501 := f2.1.2.2 285 10 _ _ (by decide +kernel)
  have k0 := g4.1
  have k1 := g4.2.1
  have k2 := g4.2.2.1
  have y0 := g4.2.2.2.1
  have y1 := g4.2.2.2.2
  have p0 := g3
  clear g3
  clear g4
  try subst k2
  try subst k1
  try subst k0
  refine ⟨?_, fun q hq => ?_⟩
  · refine ⟨?_, ?_, ?_, ?_, ?_⟩ <;> first | assumption | omega | trivial
  · have g6 := Option.some.inj hq
    subst g6
    omega
def g_215_46_7 : vG := ([(0, [13], [], 7), (5000, [0, 1, 2, 3, 4, 5, 6, 7, 8], [0, 1], 46), (0, [0], [], 285), (0, [4], [], 285)], (4000, [4, 5, 6, 7, 8, 13], [1], 173))
theorem c_215_46_7 {q0 : Nat} : vOkm T0 (eP e_215 L_215 A_215 mu_215 (some q0)) 4 g_215_46_7 := vOk_in fun ρ η h => by
  obtain ⟨f0, f1, f2, f3, _⟩ := h
  exact q_215_11 (q0 := q0) (n0 := ρ 4) (n1 := ρ 0) (n2 := ρ 1) (n3 := ρ 2) (n4 := ρ 3) (n5 := ρ 5) (n6 := ρ 6) (n7 := ρ 7) (n8 := ρ 8) (n9 := ρ 13) (H0 := η 0) (H1 := η 1) f3 f2 f1 f0
theorem q_215_12 {q0 : Nat} {n0 n1 n2 n3 n4 n5 n6 n7 n8 n9 : Int} {H0 H1 : gH} (f0 : n0 = 285) (f1 : n1 = 285) (f2 : (hLe T0 H0 H1 ∧ hFr s_215.2.2.2.2 H0 H1 ∧ hWt T0 H1) ∧ (Ab_215_46 n1 n2 n3 n4 n0 n5 n6 n7 n8 H0 H1 ∧ preb_215 n1 n2 n3 n4 H0) ∧ some q0 = some (mub_215_46 n1 n2 n3 n4 n0 n5 n6 n7 n8 H0 H1)) (f3 : n9 = 6) : Ab_215_173 n1 n2 n3 n4 n0 n5 n6 n7 n8 n9 H0 H1 ∧ ∀ q, some q0 = some q → mub_215_173 n1 n2 n3 n4 n0 n5 n6 n7 n8 n9 H0 H1 < q := by
  have g4 := f2.2.1.1
  unfold Ab_215_46 at g4
  have g3 := f2.2.1.2
  unfold preb_215 at g3
  have g5 := Option.some.inj f2.2.2
  unfold mub_215_46 at g5
  unfold Ab_215_173
  unfold mub_215_173
  have e0 : (0 : Int) ≤ hV H1 285 10 ∧ hV H1 285 10 ≤ 501 := f2.1.2.2 285 10 _ _ (by decide +kernel)
  have k0 := g4.1
  have k1 := g4.2.1
  have k2 := g4.2.2.1
  have y0 := g4.2.2.2.1
  have y1 := g4.2.2.2.2
  have p0 := g3
  clear g3
  clear g4
  try subst k2
  try subst k1
  try subst k0
  refine ⟨?_, fun q hq => ?_⟩
  · refine ⟨?_, ?_, ?_, ?_, ?_⟩ <;> first | assumption | omega | trivial
  · have g6 := Option.some.inj hq
    subst g6
    omega
def g_215_46_8 : vG := ([(0, [12], [], 6), (5000, [0, 1, 2, 3, 4, 5, 6, 7, 8], [0, 1], 46), (0, [0], [], 285), (0, [4], [], 285)], (4000, [4, 5, 6, 7, 8, 12], [1], 173))
theorem c_215_46_8 {q0 : Nat} : vOkm T0 (eP e_215 L_215 A_215 mu_215 (some q0)) 4 g_215_46_8 := vOk_in fun ρ η h => by
  obtain ⟨f0, f1, f2, f3, _⟩ := h
  exact q_215_12 (q0 := q0) (n0 := ρ 4) (n1 := ρ 0) (n2 := ρ 1) (n3 := ρ 2) (n4 := ρ 3) (n5 := ρ 5) (n6 := ρ 6) (n7 := ρ 7) (n8 := ρ 8) (n9 := ρ 12) (H0 := η 0) (H1 := η 1) f3 f2 f1 f0
theorem q_215_13 {q0 : Nat} {n0 n1 n2 n3 n4 n5 n6 n7 n8 n9 : Int} {H0 H1 : gH} (f0 : n0 = 285) (f1 : n1 = 285) (f2 : (hLe T0 H0 H1 ∧ hFr s_215.2.2.2.2 H0 H1 ∧ hWt T0 H1) ∧ (Ab_215_46 n1 n2 n3 n4 n0 n5 n6 n7 n8 H0 H1 ∧ preb_215 n1 n2 n3 n4 H0) ∧ some q0 = some (mub_215_46 n1 n2 n3 n4 n0 n5 n6 n7 n8 H0 H1)) (f3 : n9 = 4) : Ab_215_173 n1 n2 n3 n4 n0 n5 n6 n7 n8 n9 H0 H1 ∧ ∀ q, some q0 = some q → mub_215_173 n1 n2 n3 n4 n0 n5 n6 n7 n8 n9 H0 H1 < q := by
  have g4 := f2.2.1.1
  unfold Ab_215_46 at g4
  have g3 := f2.2.1.2
  unfold preb_215 at g3
  have g5 := Option.some.inj f2.2.2
  unfold mub_215_46 at g5
  unfold Ab_215_173
  unfold mub_215_173
  have e0 : (0 : Int) ≤ hV H1 285 10 ∧ hV H1 285 10 ≤ 501 := f2.1.2.2 285 10 _ _ (by decide +kernel)
  have k0 := g4.1
  have k1 := g4.2.1
  have k2 := g4.2.2.1
  have y0 := g4.2.2.2.1
  have y1 := g4.2.2.2.2
  have p0 := g3
  clear g3
  clear g4
  try subst k2
  try subst k1
  try subst k0
  refine ⟨?_, fun q hq => ?_⟩
  · refine ⟨?_, ?_, ?_, ?_, ?_⟩ <;> first | assumption | omega | trivial
  · have g6 := Option.some.inj hq
    subst g6
    omega
def g_215_46_9 : vG := ([(0, [11], [], 4), (5000, [0, 1, 2, 3, 4, 5, 6, 7, 8], [0, 1], 46), (0, [0], [], 285), (0, [4], [], 285)], (4000, [4, 5, 6, 7, 8, 11], [1], 173))
theorem c_215_46_9 {q0 : Nat} : vOkm T0 (eP e_215 L_215 A_215 mu_215 (some q0)) 4 g_215_46_9 := vOk_in fun ρ η h => by
  obtain ⟨f0, f1, f2, f3, _⟩ := h
  exact q_215_13 (q0 := q0) (n0 := ρ 4) (n1 := ρ 0) (n2 := ρ 1) (n3 := ρ 2) (n4 := ρ 3) (n5 := ρ 5) (n6 := ρ 6) (n7 := ρ 7) (n8 := ρ 8) (n9 := ρ 11) (H0 := η 0) (H1 := η 1) f3 f2 f1 f0
theorem q_215_14 {q0 : Nat} {n0 n1 n2 n3 n4 n5 n6 n7 n8 : Int} {H0 H1 : gH} (f0 : n0 = 285) (f1 : n1 = 285) (f2 : (hLe T0 H0 H1 ∧ hFr s_215.2.2.2.2 H0 H1 ∧ hWt T0 H1) ∧ (Ab_215_46 n1 n2 n3 n4 n0 n5 n6 n7 n8 H0 H1 ∧ preb_215 n1 n2 n3 n4 H0) ∧ some q0 = some (mub_215_46 n1 n2 n3 n4 n0 n5 n6 n7 n8 H0 H1)) : Ab_215_173 n1 n2 n3 n4 n0 n5 n6 n7 n8 n8 H0 H1 ∧ ∀ q, some q0 = some q → mub_215_173 n1 n2 n3 n4 n0 n5 n6 n7 n8 n8 H0 H1 < q := by
  have g4 := f2.2.1.1
  unfold Ab_215_46 at g4
  have g3 := f2.2.1.2
  unfold preb_215 at g3
  have g5 := Option.some.inj f2.2.2
  unfold mub_215_46 at g5
  unfold Ab_215_173
  unfold mub_215_173
  have e0 : (0 : Int) ≤ hV H1 285 10 ∧ hV H1 285 10 ≤ 501 := f2.1.2.2 285 10 _ _ (by decide +kernel)
  have k0 := g4.1
  have k1 := g4.2.1
  have k2 := g4.2.2.1
  have y0 := g4.2.2.2.1
  have y1 := g4.2.2.2.2
  have p0 := g3
  clear g3
  clear g4
  try subst k2
  try subst k1
  try subst k0
  refine ⟨?_, fun q hq => ?_⟩
  · refine ⟨?_, ?_, ?_, ?_, ?_⟩ <;> first | assumption | omega | trivial
  · have g6 := Option.some.inj hq
    subst g6
    omega
def g_215_46_10 : vG := ([(5000, [0, 1, 2, 3, 4, 5, 6, 7, 8], [0, 1], 46), (0, [0], [], 285), (0, [4], [], 285)], (4000, [4, 5, 6, 7, 8, 8], [1], 173))
theorem c_215_46_10 {q0 : Nat} : vOkm T0 (eP e_215 L_215 A_215 mu_215 (some q0)) 4 g_215_46_10 := vOk_in fun ρ η h => by
  obtain ⟨f0, f1, f2, _⟩ := h
  exact q_215_14 (q0 := q0) (n0 := ρ 4) (n1 := ρ 0) (n2 := ρ 1) (n3 := ρ 2) (n4 := ρ 3) (n5 := ρ 5) (n6 := ρ 6) (n7 := ρ 7) (n8 := ρ 8) (H0 := η 0) (H1 := η 1) f2 f1 f0
def p_215_46 : List vG := [g_215_46_0,
  g_215_46_1,
  g_215_46_2,
  g_215_46_3,
  g_215_46_4,
  g_215_46_5,
  g_215_46_6,
  g_215_46_7,
  g_215_46_8,
  g_215_46_9,
  g_215_46_10]
theorem r_215_46 : vCovO false (eRc e_215 L_215 cs_215 2000 (46, [(0, (3, 12, 285, 0)), (1, (0, 0, 2000, 0)), (2, (0, -2147483648, 2147483647, 0)), (3, (0, -2147483648, 2147483647, 0)), (4, (0, 0, 14, 0))])) p_215_46 = true := by decide +kernel
theorem q_215_15 {q0 : Nat} {n0 n1 n2 n3 n4 n5 n6 n7 n8 n9 n10 n11 : Int} {H0 H1 : gH} (f0 : n0 = 285) (f1 : n1 = 285) (f2 : (hLe T0 H0 H1 ∧ hFr s_215.2.2.2.2 H0 H1 ∧ hWt T0 H1) ∧ (Ab_215_173 n1 n2 n3 n4 n0 n5 n6 n7 n8 n9 H0 H1 ∧ preb_215 n1 n2 n3 n4 H0) ∧ some q0 = some (mub_215_173 n1 n2 n3 n4 n0 n5 n6 n7 n8 n9 H0 H1)) (f3 : n10 = 0) (f4 : n11 = 0) : preb_213 n0 n9 n5 n10 n11 H1 := by
  have g4 := f2.2.1.1
  unfold Ab_215_173 at g4
  have g3 := f2.2.1.2
  unfold preb_215 at g3
  unfold preb_213
  have e0 : (0 : Int) ≤ hV H1 285 10 ∧ hV H1 285 10 ≤ 501 := f2.1.2.2 285 10 _ _ (by decide +kernel)
  have k0 := g4.1
  have k1 := g4.2.1
  have k2 := g4.2.2.1
  have y0 := g4.2.2.2.1
  have y1 := g4.2.2.2.2
  have p0 := g3
  clear g3
  clear g4
  try subst k2
  try subst k1
  try subst k0
  first | assumption | omega | trivial
def g_215_173_0 : vG := ([(0, [11], [], 0), (0, [10], [], 0), (5000, [0, 1, 2, 3, 4, 5, 6, 7, 8, 9], [0, 1], 173), (0, [0], [], 285), (0, [4], [], 285)], (2213, [4, 9, 5, 10, 11], [1], 0))
theorem c_215_173_0 {q0 : Nat} : vOkm T0 (eP e_215 L_215 A_215 mu_215 (some q0)) 4 g_215_173_0 := vOk_in fun ρ η h => by
  obtain ⟨f0, f1, f2, f3, f4, _⟩ := h
  exact q_215_15 (q0 := q0) (n0 := ρ 4) (n1 := ρ 0) (n2 := ρ 1) (n3 := ρ 2) (n4 := ρ 3) (n5 := ρ 5) (n6 := ρ 6) (n7 := ρ 7) (n8 := ρ 8) (n9 := ρ 9) (n10 := ρ 10) (n11 := ρ 11) (H0 := η 0) (H1 := η 1) f4 f3 f2 f1 f0
theorem q_215_16 {q0 : Nat} {n0 n1 n2 n3 n4 n5 n6 n7 n8 n9 n10 n11 n12 : Int} {H0 H1 H2 : gH} (f0 : n0 = 285) (f1 : n1 = 285) (f2 : (hLe T0 H0 H1 ∧ hFr s_215.2.2.2.2 H0 H1 ∧ hWt T0 H1) ∧ (Ab_215_173 n1 n2 n3 n4 n0 n5 n6 n7 n8 n9 H0 H1 ∧ preb_215 n1 n2 n3 n4 H0) ∧ some q0 = some (mub_215_173 n1 n2 n3 n4 n0 n5 n6 n7 n8 n9 H0 H1)) (f3 : n10 = 0) (f4 : n11 = 0) (f5 : (hLe T0 H1 H2 ∧ hFr s_213.2.2.2.2 H1 H2 ∧ ((0 : Int) = 0 → H2.length = H1.length) ∧ hWt T0 H2) ∧ postb_213 n0 n9 n5 n10 n11 H1 H2) (f6 : n12 = 1) : postb_215 n12 n1 n2 n3 n4 H0 H2 := by
  have g4 := f2.2.1.1
  unfold Ab_215_173 at g4
  have g3 := f2.2.1.2
  unfold preb_215 at g3
  unfold postb_213 at f5
  unfold postb_215
  have e0 : (0 : Int) ≤ hV H1 285 10 ∧ hV H1 285 10 ≤ 501 := f2.1.2.2 285 10 _ _ (by decide +kernel)
  have e1 : (0 : Int) ≤ hV H2 285 10 ∧ hV H2 285 10 ≤ 501 := f5.1.2.2.2 285 10 _ _ (by decide +kernel)
  have k0 := g4.1
  have k1 := g4.2.1
  have k2 := g4.2.2.1
  have y0 := g4.2.2.2.1
  have y1 := g4.2.2.2.2
  have p0 := g3
  have r0_0 := f5.2
  clear g3
  clear g4
  try subst k2
  try subst k1
  try subst k0
  refine ⟨?_, ?_⟩ <;> first | assumption | omega | trivial
def g_215_173_1 : vG := ([(0, [12], [], 1), (1213, [4, 9, 5, 10, 11], [1, 2], 0), (0, [11], [], 0), (0, [10], [], 0), (5000, [0, 1, 2, 3, 4, 5, 6, 7, 8, 9], [0, 1], 173), (0, [0], [], 285), (0, [4], [], 285)], (3000, [12], [2], 192))
theorem c_215_173_1 {q0 : Nat} : vOkm T0 (eP e_215 L_215 A_215 mu_215 (some q0)) 4 g_215_173_1 := vOk_in fun ρ η h => by
  obtain ⟨f0, f1, f2, f3, f4, f5, f6, _⟩ := h
  exact q_215_16 (q0 := q0) (n0 := ρ 4) (n1 := ρ 0) (n2 := ρ 1) (n3 := ρ 2) (n4 := ρ 3) (n5 := ρ 5) (n6 := ρ 6) (n7 := ρ 7) (n8 := ρ 8) (n9 := ρ 9) (n10 := ρ 10) (n11 := ρ 11) (n12 := ρ 12) (H0 := η 0) (H1 := η 1) (H2 := η 2) f6 f5 f4 f3 f2 f1 f0
theorem q_215_17 {q0 : Nat} {n0 n1 n2 n3 n4 n5 n6 n7 n8 n9 n10 n11 n12 : Int} {H0 H1 H2 : gH} (f0 : n0 = 285) (f1 : n1 = 285) (f2 : (hLe T0 H0 H1 ∧ hFr s_215.2.2.2.2 H0 H1 ∧ hWt T0 H1) ∧ (Ab_215_173 n1 n2 n3 n4 n0 n5 n6 n7 n8 n9 H0 H1 ∧ preb_215 n1 n2 n3 n4 H0) ∧ some q0 = some (mub_215_173 n1 n2 n3 n4 n0 n5 n6 n7 n8 n9 H0 H1)) (f3 : n10 = 0) (f4 : n11 = 0) (f5 : (hLe T0 H1 H2 ∧ hFr s_213.2.2.2.2 H1 H2 ∧ ((0 : Int) = 0 → H2.length = H1.length) ∧ hWt T0 H2) ∧ postb_213 n0 n9 n5 n10 n11 H1 H2) (f6 : 0 < n8) (f7 : n12 = 2) : postb_215 n12 n1 n2 n3 n4 H0 H2 := by
  have g4 := f2.2.1.1
  unfold Ab_215_173 at g4
  have g3 := f2.2.1.2
  unfold preb_215 at g3
  unfold postb_213 at f5
  unfold postb_215
  have e0 : (0 : Int) ≤ hV H1 285 10 ∧ hV H1 285 10 ≤ 501 := f2.1.2.2 285 10 _ _ (by decide +kernel)
  have e1 : (0 : Int) ≤ hV H2 285 10 ∧ hV H2 285 10 ≤ 501 := f5.1.2.2.2 285 10 _ _ (by decide +kernel)
  have k0 := g4.1
  have k1 := g4.2.1
  have k2 := g4.2.2.1
  have y0 := g4.2.2.2.1
  have y1 := g4.2.2.2.2
  have p0 := g3
  have r0_0 := f5.2
  clear g3
  clear g4
  try subst k2
  try subst k1
  try subst k0
  refine ⟨?_, ?_⟩ <;> first | assumption | omega | trivial
def g_215_173_2 : vG := ([(0, [12], [], 2), (34, [8], [], 0), (1213, [4, 9, 5, 10, 11], [1, 2], 0), (0, [11], [], 0), (0, [10], [], 0), (5000, [0, 1, 2, 3, 4, 5, 6, 7, 8, 9], [0, 1], 173), (0, [0], [], 285), (0, [4], [], 285)], (3000, [12], [2], 192))
theorem c_215_173_2 {q0 : Nat} : vOkm T0 (eP e_215 L_215 A_215 mu_215 (some q0)) 4 g_215_173_2 := vOk_in fun ρ η h => by
  obtain ⟨f0, f1, f2, f3, f4, f5, f6, f7, _⟩ := h
  exact q_215_17 (q0 := q0) (n0 := ρ 4) (n1 := ρ 0) (n2 := ρ 1) (n3 := ρ 2) (n4 := ρ 3) (n5 := ρ 5) (n6 := ρ 6) (n7 := ρ 7) (n8 := ρ 8) (n9 := ρ 9) (n10 := ρ 10) (n11 := ρ 11) (n12 := ρ 12) (H0 := η 0) (H1 := η 1) (H2 := η 2) f7 f6 f5 f4 f3 f2 f1 f0
def p_215_173 : List vG := [g_215_173_0,
  g_215_173_1,
  g_215_173_2]
theorem r_215_173 : vCovO false (eRc e_215 L_215 cs_215 2000 (173, [(0, (3, 12, 285, 0)), (1, (0, 0, 2000, 0)), (2, (0, -2147483648, 2147483647, 0)), (3, (0, -2147483648, 2147483647, 0)), (4, (0, 0, 14, 0)), (5, (0, 0, 53, 0))])) p_215_173 = true := by decide +kernel
theorem m_215 (d : Nat) : eC e_215 (d + 2) := eC_ok (e := e_215) (L := L_215) (cs := cs_215) (n := 2000) (d := d + 1) (A := A_215) (μ := mu_215) (tp := false) (p0 := p_215_s) rfl ⟨m_213 d, trivial⟩ rfl (.inl rfl) (by decide +kernel) (fun z => nomatch z) r_215_s (allC c_215_s_0 (allC c_215_s_1 (allC c_215_s_2 (allC c_215_s_3 (allC c_215_s_4 allN))))) (allC (.inl ⟨p_215_46, r_215_46, fun q0 => (allC c_215_46_0 (allC c_215_46_1 (allC c_215_46_2 (allC c_215_46_3 (allC c_215_46_4 (allC c_215_46_5 (allC c_215_46_6 (allC c_215_46_7 (allC c_215_46_8 (allC c_215_46_9 (allC c_215_46_10 allN)))))))))))⟩) (allC (.inl ⟨p_215_173, r_215_173, fun q0 => (allC c_215_173_0 (allC c_215_173_1 (allC c_215_173_2 allN)))⟩) allN))
