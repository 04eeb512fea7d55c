/-! CONTRACTS of methods (printed by wip/gen/emit.py). -/
/- MixStage.quarrel (II)I -/
noncomputable def s_184 : vM := ([(3, 11, 7, 0), (0, -2147483648, 2147483647, 0), (0, -2147483648, 2147483647, 0)], (0, -2147483648, 2147483647, 0), 0, 0, [])
noncomputable def e_184 : vE := (184, s_184, pre0, post0)
noncomputable def L_184 : List vE := [e_145, e_194]
def cs_184 : List vC := []
def A_184 : Int → List Int → gH → gH → Prop := fun c xs h0 h => True
def mu_184 : Int → List Int → gH → gH → Nat := fun c xs h0 h => 0
def p_184_s : List vG := []
theorem r_184_s : vCovO true (eR0 e_184 L_184 cs_184 2000) p_184_s = true := by decide +kernel
theorem m_184 (d : Nat) : eC e_184 (d + 5) := eC_ok (e := e_184) (L := L_184) (cs := cs_184) (n := 2000) (d := d + 4) (A := A_184) (μ := mu_184) (tp := true) (p0 := p_184_s) rfl ⟨m_145 d, ⟨m_194 (d + 3), trivial⟩⟩ rfl (.inr pre0_ok) (by decide +kernel) (fun _ => post0_ok) r_184_s allN allN
/- MixStage.loud (II)I -/
noncomputable def s_185 : vM := ([(3, 11, 7, 0), (0, -2147483648, 2147483647, 0), (0, -2147483648, 2147483647, 0)], (0, -2147483648, 2147483647, 0), 0, 0, [(2, 8), (10, 0), (10, 1), (10, 2), (100, 0)])
noncomputable def e_185 : vE := (185, s_185, pre0, post0)
noncomputable def L_185 : List vE := [e_2, e_33]
def cs_185 : List vC := []
def A_185 : Int → List Int → gH → gH → Prop := fun c xs h0 h => True
def mu_185 : Int → List Int → gH → gH → Nat := fun c xs h0 h => 0
def p_185_s : List vG := []
theorem r_185_s : vCovO true (eR0 e_185 L_185 cs_185 2000) p_185_s = true := by decide +kernel
theorem m_185 (d : Nat) : eC e_185 (d + 5) := eC_ok (e := e_185) (L := L_185) (cs := cs_185) (n := 2000) (d := d + 4) (A := A_185) (μ := mu_185) (tp := true) (p0 := p_185_s) rfl ⟨m_2 (d + 3), ⟨m_33 d, trivial⟩⟩ rfl (.inr pre0_ok) (by decide +kernel) (fun _ => post0_ok) r_185_s allN allN
/- MixStage.tame (I)I -/
noncomputable def s_186 : vM := ([(3, 11, 7, 0), (0, -2147483648, 2147483647, 0)], (0, -2147483648, 2147483647, 0), 0, 0, [(2, 8), (10, 0), (10, 1), (10, 2), (100, 0), (101, 0)])
noncomputable def e_186 : vE := (186, s_186, pre0, post0)
noncomputable def L_186 : List vE := [e_29, e_103, e_104, e_105, e_194]
def cs_186 : List vC := []
def A_186 : Int → List Int → gH → gH → Prop := fun c xs h0 h => True
def mu_186 : Int → List Int → gH → gH → Nat := fun c xs h0 h => 0
def p_186_s : List vG := []
theorem r_186_s : vCovO true (eR0 e_186 L_186 cs_186 2000) p_186_s = true := by decide +kernel
theorem m_186 (d : Nat) : eC e_186 (d + 8) := eC_ok (e := e_186) (L := L_186) (cs := cs_186) (n := 2000) (d := d + 7) (A := A_186) (μ := mu_186) (tp := true) (p0 := p_186_s) rfl ⟨m_29 d, ⟨m_103 (d + 5), ⟨m_104 (d + 5), ⟨m_105 (d + 5), ⟨m_194 (d + 6), trivial⟩⟩⟩⟩⟩ rfl (.inr pre0_ok) (by decide +kernel) (fun _ => post0_ok) r_186_s allN allN
/- MixStage.seam (I)I -/
noncomputable def s_187 : vM := ([(3, 11, 7, 0), (0, -2147483648, 2147483647, 0)], (0, -2147483648, 2147483647, 0), 0, 0, [])
noncomputable def e_187 : vE := (187, s_187, pre0, post0)
noncomputable def L_187 : List vE := [e_3, e_199, e_316]
def cs_187 : List vC := []
def A_187 : Int → List Int → gH → gH → Prop := fun c xs h0 h => True
def mu_187 : Int → List Int → gH → gH → Nat := fun c xs h0 h => 0
def p_187_s : List vG := []
theorem r_187_s : vCovO true (eR0 e_187 L_187 cs_187 2000) p_187_s = true := by decide +kernel
theorem m_187 (d : Nat) : eC e_187 (d + 3) := eC_ok (e := e_187) (L := L_187) (cs := cs_187) (n := 2000) (d := d + 2) (A := A_187) (μ := mu_187) (tp := true) (p0 := p_187_s) rfl ⟨m_3 d, ⟨m_199 (d + 1), ⟨m_316 (d + 1), trivial⟩⟩⟩ rfl (.inr pre0_ok) (by decide +kernel) (fun _ => post0_ok) r_187_s allN allN
/- MixStage.fit (IIII)I -/
noncomputable def s_188 : vM := ([(3, 11, 7, 0), (0, -2147483648, 2147483647, 0), (0, -2147483648, 2147483647, 0), (0, -2147483648, 2147483647, 0), (0, -2147483648, 2147483647, 0)], (0, -2147483648, 2147483647, 0), 0, 0, [(9, 5), (9, 6), (9, 7)])
noncomputable def e_188 : vE := (188, s_188, pre0, post0)
noncomputable def L_188 : List vE := [e_3, e_147]
def cs_188 : List vC := []
def A_188 : Int → List Int → gH → gH → Prop := fun c xs h0 h => True
def mu_188 : Int → List Int → gH → gH → Nat := fun c xs h0 h => 0
def p_188_s : List vG := []
theorem r_188_s : vCovO true (eR0 e_188 L_188 cs_188 2000) p_188_s = true := by decide +kernel
theorem m_188 (d : Nat) : eC e_188 (d + 6) := eC_ok (e := e_188) (L := L_188) (cs := cs_188) (n := 2000) (d := d + 5) (A := A_188) (μ := mu_188) (tp := true) (p0 := p_188_s) rfl ⟨m_3 (d + 3), ⟨m_147 d, trivial⟩⟩ rfl (.inr pre0_ok) (by decide +kernel) (fun _ => post0_ok) r_188_s allN allN
/- MixStage.sounding (III)I -/
noncomputable def s_189 : vM := ([(3, 11, 7, 0), (0, -2147483648, 2147483647, 0), (0, -2147483648, 2147483647, 0), (0, -2147483648, 2147483647, 0)], (0, -2147483648, 2147483647, 0), 0, 0, [(10, 0), (10, 1), (10, 2), (100, 0)])
noncomputable def e_189 : vE := (189, s_189, pre0, post0)
noncomputable def L_189 : List vE := [e_3, e_143, e_194, e_196]
def cs_189 : List vC := []
def A_189 : Int → List Int → gH → gH → Prop := fun c xs h0 h => True
def mu_189 : Int → List Int → gH → gH → Nat := fun c xs h0 h => 0
theorem q_189_0 {n0 n1 n2 n3 n4 n5 n6 n7 n8 : Int} {H0 H1 H2 H3 : gH} (f0 : n0 ≤ 2147483647) (f1 : (-2147483648) ≤ n0) (f2 : n1 ≤ 2147483647) (f3 : (-2147483648) ≤ n1) (f4 : n2 ≤ 2147483647) (f5 : (-2147483648) ≤ n2) (f6 : n3 = 7) (f7 : hWt T0 H0 ∧ True) (f8 : (hLe T0 H0 H1 ∧ hFr s_194.2.2.2.2 H0 H1 ∧ ((0 : Int) = 0 → H1.length = H0.length) ∧ hWt T0 H1) ∧ True) (f9 : n5 = 23) (f10 : n5 = hV H1 (n3).toNat 7) (f11 : n6 = 3) (f12 : (hLe T0 H1 H2 ∧ hFr s_3.2.2.2.2 H1 H2 ∧ ((0 : Int) = 0 → H2.length = H1.length) ∧ hWt T0 H2) ∧ True) (f13 : 0 ≤ n7) (f14 : n8 ≤ 1) (f15 : 0 ≤ n8) (f16 : (hLe T0 H2 H3 ∧ hFr s_196.2.2.2.2 H2 H3 ∧ ((0 : Int) = 0 → H3.length = H2.length) ∧ hWt T0 H3) ∧ postb_196 n8 n3 n4 n0 H2 H3) (f17 : n8 ≠ 0) : 0 ≤ n4 := by
  unfold postb_196 at f16
  have e0 : hV H1 7 7 = hV H0 7 7 := f8.1.2.1.1 7 7 (by decide +kernel)
  omega
theorem c_189_s_0 : vOkm T0 (eP e_189 L_189 A_189 mu_189 none) 4 ([(31, [8], [], 0), (1196, [8, 0, 4, 3], [2, 3], 0), (90, [8], [], 0), (91, [8], [], 1), (51, [7], [], 0), (1003, [7, 5, 2, 6], [1, 2], 0), (0, [6], [], 3), (20, [5, 0], [1], 7), (0, [5], [], 23), (1194, [4, 0, 1], [0, 1], 0), (6000, [0, 1, 2, 3], [0], 0), (0, [0], [], 7), (90, [1], [], -2147483648), (91, [1], [], 2147483647), (90, [2], [], -2147483648), (91, [2], [], 2147483647), (90, [3], [], -2147483648), (91, [3], [], 2147483647)], (51, [4], [], 0)) := vOk_in fun ρ η h => by
  obtain ⟨f0, f1, f2, f3, f4, f5, f6, f7, f8, f9, f10, f11, f12, f13, f14, f15, f16, f17, _⟩ := h
  exact q_189_0 (n0 := ρ 3) (n1 := ρ 2) (n2 := ρ 1) (n3 := ρ 0) (n4 := ρ 4) (n5 := ρ 5) (n6 := ρ 6) (n7 := ρ 7) (n8 := ρ 8) (H0 := η 0) (H1 := η 1) (H2 := η 2) (H3 := η 3) f17 f16 f15 f14 f13 f12 f11 f10 f9 f8 f7 f6 f5 f4 f3 f2 f1 f0
def p_189_s : List vG := [([(31, [8], [], 0), (1196, [8, 0, 4, 3], [2, 3], 0), (90, [8], [], 0), (91, [8], [], 1), (51, [7], [], 0), (1003, [7, 5, 2, 6], [1, 2], 0), (0, [6], [], 3), (20, [5, 0], [1], 7), (0, [5], [], 23), (1194, [4, 0, 1], [0, 1], 0), (6000, [0, 1, 2, 3], [0], 0), (0, [0], [], 7), (90, [1], [], -2147483648), (91, [1], [], 2147483647), (90, [2], [], -2147483648), (91, [2], [], 2147483647), (90, [3], [], -2147483648), (91, [3], [], 2147483647)], (51, [4], [], 0))]
theorem r_189_s : vCovO true (eR0 e_189 L_189 cs_189 2000) p_189_s = true := by decide +kernel
theorem m_189 (d : Nat) : eC e_189 (d + 7) := eC_ok (e := e_189) (L := L_189) (cs := cs_189) (n := 2000) (d := d + 6) (A := A_189) (μ := mu_189) (tp := true) (p0 := p_189_s) rfl ⟨m_3 (d + 4), ⟨m_143 d, ⟨m_194 (d + 5), ⟨m_196 (d + 4), trivial⟩⟩⟩⟩ rfl (.inr pre0_ok) (by decide +kernel) (fun _ => post0_ok) r_189_s (allC c_189_s_0 allN) allN
/- MixStage.owed (IIII)I -/
noncomputable def s_190 : vM := ([(3, 11, 7, 0), (0, -2147483648, 2147483647, 0), (0, -2147483648, 2147483647, 0), (0, -2147483648, 2147483647, 0), (0, -2147483648, 2147483647, 0)], (0, -2147483648, 2147483647, 0), 0, 0, [(5, 10), (5, 11), (10, 0), (10, 1), (10, 2), (100, 0)])
noncomputable def e_190 : vE := (190, s_190, pre0, post0)
noncomputable def L_190 : List vE := [e_3, e_106, e_107, e_142, e_143, e_194, e_196, e_317, e_319]
def cs_190 : List vC := []
def A_190 : Int → List Int → gH → gH → Prop := fun c xs h0 h => True
def mu_190 : Int → List Int → gH → gH → Nat := fun c xs h0 h => 0
theorem q_190_0 {n0 n1 n2 n3 n4 n5 n6 n7 n8 n9 n10 : Int} {H0 H1 H2 H3 : gH} (f0 : n0 ≤ 2147483647) (f1 : (-2147483648) ≤ n0) (f2 : n1 ≤ 2147483647) (f3 : (-2147483648) ≤ n1) (f4 : n2 ≤ 2147483647) (f5 : (-2147483648) ≤ n2) (f6 : n3 ≤ 2147483647) (f7 : (-2147483648) ≤ n3) (f8 : n4 = 7) (f9 : hWt T0 H0 ∧ True) (f10 : (hLe T0 H0 H1 ∧ hFr s_194.2.2.2.2 H0 H1 ∧ ((0 : Int) = 0 → H1.length = H0.length) ∧ hWt T0 H1) ∧ True) (f11 : n6 = 23) (f12 : n6 = hV H1 (n4).toNat 7) (f13 : n7 = 3) (f14 : (hLe T0 H1 H2 ∧ hFr s_3.2.2.2.2 H1 H2 ∧ ((0 : Int) = 0 → H2.length = H1.length) ∧ hWt T0 H2) ∧ True) (f15 : 0 ≤ n8) (f16 : n9 ≤ 1) (f17 : 0 ≤ n9) (f18 : (hLe T0 H2 H3 ∧ hFr s_196.2.2.2.2 H2 H3 ∧ ((0 : Int) = 0 → H3.length = H2.length) ∧ hWt T0 H3) ∧ postb_196 n9 n4 n5 n1 H2 H3) (f19 : n9 ≠ 0) (f20 : 0 ≤ n0) (f21 : n10 = 9) (f22 : n0 ≤ n10) : 0 ≤ n5 := by
  unfold postb_196 at f18
  have e0 : hV H1 7 7 = hV H0 7 7 := f10.1.2.1.1 7 7 (by decide +kernel)
  omega
theorem c_190_s_0 : vOkm T0 (eP e_190 L_190 A_190 mu_190 none) 5 ([(45, [4, 10], [], 0), (0, [10], [], 9), (33, [4], [], 0), (31, [9], [], 0), (1196, [9, 0, 5, 3], [2, 3], 0), (90, [9], [], 0), (91, [9], [], 1), (51, [8], [], 0), (1003, [8, 6, 2, 7], [1, 2], 0), (0, [7], [], 3), (20, [6, 0], [1], 7), (0, [6], [], 23), (1194, [5, 0, 1], [0, 1], 0), (6000, [0, 1, 2, 3, 4], [0], 0), (0, [0], [], 7), (90, [1], [], -2147483648), (91, [1], [], 2147483647), (90, [2], [], -2147483648), (91, [2], [], 2147483647), (90, [3], [], -2147483648), (91, [3], [], 2147483647), (90, [4], [], -2147483648), (91, [4], [], 2147483647)], (51, [5], [], 0)) := vOk_in fun ρ η h => by
  obtain ⟨f0, f1, f2, f3, f4, f5, f6, f7, f8, f9, f10, f11, f12, f13, f14, f15, f16, f17, f18, f19, f20, f21, f22, _⟩ := h
  exact q_190_0 (n0 := ρ 4) (n1 := ρ 3) (n2 := ρ 2) (n3 := ρ 1) (n4 := ρ 0) (n5 := ρ 5) (n6 := ρ 6) (n7 := ρ 7) (n8 := ρ 8) (n9 := ρ 9) (n10 := ρ 10) (H0 := η 0) (H1 := η 1) (H2 := η 2) (H3 := η 3) f22 f21 f20 f19 f18 f17 f16 f15 f14 f13 f12 f11 f10 f9 f8 f7 f6 f5 f4 f3 f2 f1 f0
theorem c_190_s_1 : vOkm T0 (eP e_190 L_190 A_190 mu_190 none) 5 ([(45, [4, 10], [], 0), (0, [10], [], 9), (33, [4], [], 0), (31, [9], [], 0), (1196, [9, 0, 5, 3], [2, 3], 0), (90, [9], [], 0), (91, [9], [], 1), (51, [8], [], 0), (1003, [8, 6, 2, 7], [1, 2], 0), (0, [7], [], 3), (20, [6, 0], [1], 7), (0, [6], [], 23), (1194, [5, 0, 1], [0, 1], 0), (6000, [0, 1, 2, 3, 4], [0], 0), (0, [0], [], 7), (90, [1], [], -2147483648), (91, [1], [], 2147483647), (90, [2], [], -2147483648), (91, [2], [], 2147483647), (90, [3], [], -2147483648), (91, [3], [], 2147483647), (90, [4], [], -2147483648), (91, [4], [], 2147483647)], (51, [5], [], 0)) := vOk_in fun ρ η h => by
  obtain ⟨f0, f1, f2, f3, f4, f5, f6, f7, f8, f9, f10, f11, f12, f13, f14, f15, f16, f17, f18, f19, f20, f21, f22, _⟩ := h
  exact q_190_0 (n0 := ρ 4) (n1 := ρ 3) (n2 := ρ 2) (n3 := ρ 1) (n4 := ρ 0) (n5 := ρ 5) (n6 := ρ 6) (n7 := ρ 7) (n8 := ρ 8) (n9 := ρ 9) (n10 := ρ 10) (H0 := η 0) (H1 := η 1) (H2 := η 2) (H3 := η 3) f22 f21 f20 f19 f18 f17 f16 f15 f14 f13 f12 f11 f10 f9 f8 f7 f6 f5 f4 f3 f2 f1 f0
def p_190_s : List vG := [([(45, [4, 10], [], 0), (0, [10], [], 9), (33, [4], [], 0), (31, [9], [], 0), (1196, [9, 0, 5, 3], [2, 3], 0), (90, [9], [], 0), (91, [9], [], 1), (51, [8], [], 0), (1003, [8, 6, 2, 7], [1, 2], 0), (0, [7], [], 3), (20, [6, 0], [1], 7), (0, [6], [], 23), (1194, [5, 0, 1], [0, 1], 0), (6000, [0, 1, 2, 3, 4], [0], 0), (0, [0], [], 7), (90, [1], [], -2147483648), (91, [1], [], 2147483647), (90, [2], [], -2147483648), (91, [2], [], 2147483647), (90, [3], [], -2147483648), (91, [3], [], 2147483647), (90, [4], [], -2147483648), (91, [4], [], 2147483647)], (51, [5], [], 0)),
  ([(45, [4, 10], [], 0), (0, [10], [], 9), (33, [4], [], 0), (31, [9], [], 0), (1196, [9, 0, 5, 3], [2, 3], 0), (90, [9], [], 0), (91, [9], [], 1), (51, [8], [], 0), (1003, [8, 6, 2, 7], [1, 2], 0), (0, [7], [], 3), (20, [6, 0], [1], 7), (0, [6], [], 23), (1194, [5, 0, 1], [0, 1], 0), (6000, [0, 1, 2, 3, 4], [0], 0), (0, [0], [], 7), (90, [1], [], -2147483648), (91, [1], [], 2147483647), (90, [2], [], -2147483648), (91, [2], [], 2147483647), (90, [3], [], -2147483648), (91, [3], [], 2147483647), (90, [4], [], -2147483648), (91, [4], [], 2147483647)], (51, [5], [], 0))]
theorem r_190_s : vCovO true (eR0 e_190 L_190 cs_190 2000) p_190_s = true := by decide +kernel
theorem m_190 (d : Nat) : eC e_190 (d + 7) := eC_ok (e := e_190) (L := L_190) (cs := cs_190) (n := 2000) (d := d + 6) (A := A_190) (μ := mu_190) (tp := true) (p0 := p_190_s) rfl ⟨m_3 (d + 4), ⟨m_106 (d + 4), ⟨m_107 (d + 1), ⟨m_142 (d + 1), ⟨m_143 d, ⟨m_194 (d + 5), ⟨m_196 (d + 4), ⟨m_317 (d + 5), ⟨m_319 (d + 5), trivial⟩⟩⟩⟩⟩⟩⟩⟩⟩ rfl (.inr pre0_ok) (by decide +kernel) (fun _ => post0_ok) r_190_s (allC c_190_s_0 (allC c_190_s_1 allN)) allN
/- MixStage.count (I)I -/
noncomputable def s_191 : vM := ([(3, 11, 7, 0), (0, -2147483648, 2147483647, 0)], (0, -2147483648, 2147483647, 0), 0, 0, [])
noncomputable def e_191 : vE := (191, s_191, pre0, post0)
noncomputable def L_191 : List vE := [e_52]
def cs_191 : List vC := []
def A_191 : Int → List Int → gH → gH → Prop := fun c xs h0 h => True
def mu_191 : Int → List Int → gH → gH → Nat := fun c xs h0 h => 0
def p_191_s : List vG := []
theorem r_191_s : vCovO true (eR0 e_191 L_191 cs_191 2000) p_191_s = true := by decide +kernel
theorem m_191 (d : Nat) : eC e_191 (d + 2) := eC_ok (e := e_191) (L := L_191) (cs := cs_191) (n := 2000) (d := d + 1) (A := A_191) (μ := mu_191) (tp := true) (p0 := p_191_s) rfl ⟨m_52 d, trivial⟩ rfl (.inr pre0_ok) (by decide +kernel) (fun _ => post0_ok) r_191_s allN allN
