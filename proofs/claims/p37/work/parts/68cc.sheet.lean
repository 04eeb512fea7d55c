/-! CONTRACTS of methods told more fully. -/
/- Tracer.isLayOfMusic (LMixStage$Cue;I)Z, more fully -/
def nb_141 (r a0 a1 a2 : Int) (h0 h : gH) : Prop := ∀ E : SE, SNC h0 E → 0 ≤ a2 → a2 < E.1 → E.2.1 (a2).toNat = 3 → 0 ≤ a1 → hK h0 (a1).toNat = 1 → (r = 1 ∧ MUp E a2 (lrW (hV h0 25) (recC h0 (a1).toNat))) ∨ (r = 0 ∧ ¬ MUp E a2 (lrW (hV h0 25) (recC h0 (a1).toNat)))
def n_141 : List Int → gH → gH → Prop := fun xs h0 h => match xs with
  | [r, a0, a1, a2] => nb_141 r a0 a1 a2 h0 h
  | _ => True
noncomputable def e_141w : vE := eV e_141 n_141
noncomputable def L_141w : List vE := [e_140w]
def B_141 : Int → List Int → gH → gH → Prop := fun c xs h0 h => True
theorem q_141w_0 {n0 n1 n2 n3 : Int} {H0 : gH} (f0 : n0 ≤ 2147483647) (f1 : (-2147483648) ≤ n0) (f2 : n1 = 281) (f3 : hWt T0 H0 ∧ True) (f4 : n2 = -1) (f5 : n3 = 0) : nb_141 n3 n1 n2 n0 H0 H0 := by
  unfold nb_141
  intro E z p0 p1 k3 q0 q1
  exfalso
  omega
def g_141w_s_0 : vG := ([(0, [3], [], 0), (50, [1], [], 0), (6000, [0, 1, 2], [0], 0), (0, [0], [], 281), (90, [2], [], -2147483648), (91, [2], [], 2147483647)], (3000, [3], [0], 28))
theorem c_141w_s_0 : vOkm T0 (eN e_141 L_141w A_141 mu_141 n_141 B_141 none) 3 g_141w_s_0 := vOk_inI fun ρ η f0 f1 f2 f3 f4 f5 => q_141w_0 (n0 := ρ 2) (n1 := ρ 0) (n2 := ρ 1) (n3 := ρ 3) (H0 := η 0) f5 f4 f3 f2 f1 f0
theorem q_141w_1 {n0 n1 n2 n3 n4 : Int} {H0 : gH} (f0 : n0 ≤ 2147483647) (f1 : (-2147483648) ≤ n0) (f2 : n1 = 281) (f3 : hWt T0 H0 ∧ True) (f4 : 0 ≤ n2) (f5 : n3 ≤ 2147483647) (f6 : (-2147483648) ≤ n3) (f7 : hK H0 (n2).toNat = 1) (f8 : n3 = hV H0 (n2).toNat 0) (f9 : n3 ≠ 0) (f10 : n4 = 0) : nb_141 n4 n1 n2 n0 H0 H0 := by
  unfold nb_141
  intro E z p0 p1 k3 q0 q1
  have rc := f10
  refine .inr ⟨rc, fun w => ?_⟩
  have w0 := w.1
  rw [lrW_not (by omega)] at w0
  exact absurd w0 (by decide)
def g_141w_s_1 : vG := ([(0, [4], [], 0), (31, [3], [], 0), (20, [3, 1], [0], 0), (23, [1], [0], 1), (90, [3], [], -2147483648), (91, [3], [], 2147483647), (51, [1], [], 0), (6000, [0, 1, 2], [0], 0), (0, [0], [], 281), (90, [2], [], -2147483648), (91, [2], [], 2147483647)], (3000, [4], [0], 28))
theorem c_141w_s_1 : vOkm T0 (eN e_141 L_141w A_141 mu_141 n_141 B_141 none) 3 g_141w_s_1 := vOk_inI fun ρ η f0 f1 f2 f3 f4 f5 f6 f7 f8 f9 f10 => q_141w_1 (n0 := ρ 2) (n1 := ρ 0) (n2 := ρ 1) (n3 := ρ 3) (n4 := ρ 4) (H0 := η 0) f10 f9 f8 f7 f6 f5 f4 f3 f2 f1 f0
theorem q_141w_2 {n0 n1 n2 n3 n4 n5 n6 : Int} {H0 H1 : gH} (f0 : n0 ≤ 2147483647) (f1 : (-2147483648) ≤ n0) (f2 : n1 = 281) (f3 : hWt T0 H0 ∧ True) (f4 : 0 ≤ n2) (f5 : n3 ≤ 2147483647) (f6 : (-2147483648) ≤ n3) (f7 : hK H0 (n2).toNat = 1) (f8 : n3 = hV H0 (n2).toNat 0) (f9 : n3 = 0) (f10 : n4 ≤ 2147483647) (f11 : (-2147483648) ≤ n4) (f12 : hK H0 (n2).toNat = 1) (f13 : n4 = hV H0 (n2).toNat 2) (f14 : n5 ≤ 1) (f15 : 0 ≤ n5) (f16 : (hLe T0 H0 H1 ∧ hFr s_140.2.2.2.2 H0 H1 ∧ ((0 : Int) = 0 → H1.length = H0.length) ∧ hWt T0 H1) ∧ (True ∧ nb_140 n5 n1 n4 n0 H0 H1)) (f17 : n5 = 0) (f18 : n6 = 0) : nb_141 n6 n1 n2 n0 H0 H1 := by
  unfold nb_141
  intro E z p0 p1 k3 q0 q1
  have rc := f18
  have el := lrW_at (h := H0) (o := (n2).toNat) (mk := hV H0 25) (by omega)
  have g0 : (lrW (hV H0 25) (recC H0 (n2).toNat)).1 = 0 := congrArg (fun y : LR => y.1) el
  have g1 : (lrW (hV H0 25) (recC H0 (n2).toNat)).2.1 = hV H0 (n2).toNat 2 := congrArg (fun y : LR => y.2.1) el
  have qm := f16.2.2
  unfold nb_140 at qm
  rw [f13, ← g1] at qm
  have qm := qm E z p0 p1 k3
  rcases qm with w | w
  · exfalso
    have := w.1
    omega
  · exact .inr ⟨rc, fun v => w.2 v.2⟩
def g_141w_s_2 : vG := ([(0, [6], [], 0), (30, [5], [], 0), (1140, [5, 0, 4, 2], [0, 1], 0), (90, [5], [], 0), (91, [5], [], 1), (20, [4, 1], [0], 2), (23, [1], [0], 1), (90, [4], [], -2147483648), (91, [4], [], 2147483647), (30, [3], [], 0), (20, [3, 1], [0], 0), (23, [1], [0], 1), (90, [3], [], -2147483648), (91, [3], [], 2147483647), (51, [1], [], 0), (6000, [0, 1, 2], [0], 0), (0, [0], [], 281), (90, [2], [], -2147483648), (91, [2], [], 2147483647)], (3000, [6], [1], 28))
theorem c_141w_s_2 : vOkm T0 (eN e_141 L_141w A_141 mu_141 n_141 B_141 none) 3 g_141w_s_2 := vOk_inI fun ρ η f0 f1 f2 f3 f4 f5 f6 f7 f8 f9 f10 f11 f12 f13 f14 f15 f16 f17 f18 => q_141w_2 (n0 := ρ 2) (n1 := ρ 0) (n2 := ρ 1) (n3 := ρ 3) (n4 := ρ 4) (n5 := ρ 5) (n6 := ρ 6) (H0 := η 0) (H1 := η 1) f18 f17 f16 f15 f14 f13 f12 f11 f10 f9 f8 f7 f6 f5 f4 f3 f2 f1 f0
theorem q_141w_3 {n0 n1 n2 n3 n4 n5 n6 : Int} {H0 H1 : gH} (f0 : n0 ≤ 2147483647) (f1 : (-2147483648) ≤ n0) (f2 : n1 = 281) (f3 : hWt T0 H0 ∧ True) (f4 : 0 ≤ n2) (f5 : n3 ≤ 2147483647) (f6 : (-2147483648) ≤ n3) (f7 : hK H0 (n2).toNat = 1) (f8 : n3 = hV H0 (n2).toNat 0) (f9 : n3 = 0) (f10 : n4 ≤ 2147483647) (f11 : (-2147483648) ≤ n4) (f12 : hK H0 (n2).toNat = 1) (f13 : n4 = hV H0 (n2).toNat 2) (f14 : n5 ≤ 1) (f15 : 0 ≤ n5) (f16 : (hLe T0 H0 H1 ∧ hFr s_140.2.2.2.2 H0 H1 ∧ ((0 : Int) = 0 → H1.length = H0.length) ∧ hWt T0 H1) ∧ (True ∧ nb_140 n5 n1 n4 n0 H0 H1)) (f17 : n5 ≠ 0) (f18 : n6 = 1) : nb_141 n6 n1 n2 n0 H0 H1 := by
  unfold nb_141
  intro E z p0 p1 k3 q0 q1
  have rc := f18
  have el := lrW_at (h := H0) (o := (n2).toNat) (mk := hV H0 25) (by omega)
  have g0 : (lrW (hV H0 25) (recC H0 (n2).toNat)).1 = 0 := congrArg (fun y : LR => y.1) el
  have g1 : (lrW (hV H0 25) (recC H0 (n2).toNat)).2.1 = hV H0 (n2).toNat 2 := congrArg (fun y : LR => y.2.1) el
  have qm := f16.2.2
  unfold nb_140 at qm
  rw [f13, ← g1] at qm
  have qm := qm E z p0 p1 k3
  rcases qm with w | w
  · exact .inl ⟨rc, g0, w.2⟩
  · exfalso
    have := w.1
    omega
def g_141w_s_3 : vG := ([(0, [6], [], 1), (31, [5], [], 0), (1140, [5, 0, 4, 2], [0, 1], 0), (90, [5], [], 0), (91, [5], [], 1), (20, [4, 1], [0], 2), (23, [1], [0], 1), (90, [4], [], -2147483648), (91, [4], [], 2147483647), (30, [3], [], 0), (20, [3, 1], [0], 0), (23, [1], [0], 1), (90, [3], [], -2147483648), (91, [3], [], 2147483647), (51, [1], [], 0), (6000, [0, 1, 2], [0], 0), (0, [0], [], 281), (90, [2], [], -2147483648), (91, [2], [], 2147483647)], (3000, [6], [1], 28))
theorem c_141w_s_3 : vOkm T0 (eN e_141 L_141w A_141 mu_141 n_141 B_141 none) 3 g_141w_s_3 := vOk_inI fun ρ η f0 f1 f2 f3 f4 f5 f6 f7 f8 f9 f10 f11 f12 f13 f14 f15 f16 f17 f18 => q_141w_3 (n0 := ρ 2) (n1 := ρ 0) (n2 := ρ 1) (n3 := ρ 3) (n4 := ρ 4) (n5 := ρ 5) (n6 := ρ 6) (H0 := η 0) (H1 := η 1) f18 f17 f16 f15 f14 f13 f12 f11 f10 f9 f8 f7 f6 f5 f4 f3 f2 f1 f0
def p_141w_s : List vG := [g_141w_s_0,
  g_141w_s_1,
  g_141w_s_2,
  g_141w_s_3]
theorem r_141w_s : vCovBO (eR0 e_141 L_141 cs_141 2000) p_141w_s = true := by decide +kernel
theorem m_141w (d : Nat) : eC e_141w (d + 4) := eC_ref (e := e_141) (L := L_141) (L' := L_141w) (cs := cs_141) (n := 2000) (d := d + 3) (A := A_141) (μ := mu_141) (tp := false) (p0 := p_141_s) (p1 := p_141w_s) (N := n_141) (B := B_141) rfl ⟨m_140w d, trivial⟩ rfl (.inr pre0_ok) (by decide +kernel) (fun z => nomatch z) r_141_s (allC c_141_s_0 (allC c_141_s_1 (allC c_141_s_2 (allC c_141_s_3 allN)))) allN (sub1 trivial) r_141w_s (allC c_141w_s_0 (allC c_141w_s_1 (allC c_141w_s_2 (allC c_141w_s_3 allN)))) allN
/- Picture.sizeOf (I)I, more fully -/
def nb_53 (r a0 a1 : Int) (h0 h : gH) : Prop := KM h0 → 0 ≤ a1 → a1 < 6 → r = hV h0 20 (a1).toNat
def n_53 : List Int → gH → gH → Prop := fun xs h0 h => match xs with
  | [r, a0, a1] => nb_53 r a0 a1 h0 h
  | _ => True
noncomputable def e_53w : vE := eV e_53 n_53
noncomputable def L_53w : List vE := [e_199vk700]
def B_53 : Int → List Int → gH → gH → Prop := fun c xs h0 h => True
theorem q_53w_0 {n0 n1 n2 n3 : Int} {H0 H1 : gH} (f0 : n0 ≤ 2147483647) (f1 : (-2147483648) ≤ n0) (f2 : n1 = 19) (f3 : hWt T0 H0 ∧ True) (f4 : n2 = 20) (f5 : hK H0 (n1).toNat = 3) (f6 : n2 = hV H0 (n1).toNat 0) (f7 : n3 ≤ 2147483647) (f8 : (-2147483648) ≤ n3) (f9 : (hLe T0 H0 H1 ∧ hFr s_199k700.2.2.2.2 H0 H1 ∧ ((0 : Int) = 0 → H1.length = H0.length) ∧ hWt T0 H1) ∧ postb_199vk700 n3 n2 n0 H0 H1) : nb_53 n3 n1 n0 H0 H1 := by
  unfold nb_53
  intro km p0 p1
  have qa := f9.2
  unfold postb_199vk700 at qa
  have qa := atQ_r (q := 20) (n := 6) qa f4 km.2.1.2
  rw [if_pos (by omega)] at qa
  exact qa
def g_53w_s_0 : vG := ([(1199, [3, 2, 1], [0, 1], 0), (90, [3], [], -2147483648), (91, [3], [], 2147483647), (20, [2, 0], [0], 0), (23, [0], [0], 3), (0, [2], [], 20), (6000, [0, 1], [0], 0), (0, [0], [], 19), (90, [1], [], -2147483648), (91, [1], [], 2147483647)], (3000, [3], [1], 8))
theorem c_53w_s_0 : vOkm T0 (eN e_53 L_53w A_53 mu_53 n_53 B_53 none) 2 g_53w_s_0 := vOk_inI fun ρ η f0 f1 f2 f3 f4 f5 f6 f7 f8 f9 => q_53w_0 (n0 := ρ 1) (n1 := ρ 0) (n2 := ρ 2) (n3 := ρ 3) (H0 := η 0) (H1 := η 1) f9 f8 f7 f6 f5 f4 f3 f2 f1 f0
def p_53w_s : List vG := [g_53w_s_0]
theorem r_53w_s : vCovBO (eR0 e_53 L_53 cs_53 2000) p_53w_s = true := by decide +kernel
theorem m_53w (d : Nat) : eC e_53w (d + 2) := eC_ref (e := e_53) (L := L_53) (L' := L_53w) (cs := cs_53) (n := 2000) (d := d + 1) (A := A_53) (μ := mu_53) (tp := true) (p0 := p_53_s) (p1 := p_53w_s) (N := n_53) (B := B_53) rfl ⟨m_199vk700 d, trivial⟩ rfl (.inr pre0_ok) (by decide +kernel) (fun _ => post0_ok) r_53_s allN allN ⟨⟨rfl, rfl, rfl, fun _ _ _ _ => trivial⟩, trivial⟩ r_53w_s (allC c_53w_s_0 allN) allN
/- Picture.cameFrom (III)I, more fully -/
def nb_58 (r a0 a1 a2 a3 : Int) (h0 h : gH) : Prop := KM h0 → MT (mC h0) → 0 ≤ a2 → a2 ≤ 59 → 0 ≤ a3 → a3 ≤ a1 → a1 ≤ 5 → r = pFrom (hV h0 22) a3 (a1 - a3).toNat a2 ∧ -1 ≤ r ∧ r ≤ 59
def n_58 : List Int → gH → gH → Prop := fun xs h0 h => match xs with
  | [r, a0, a1, a2, a3] => nb_58 r a0 a1 a2 a3 h0 h
  | _ => True
noncomputable def e_58w : vE := eV e_58 n_58
noncomputable def L_58w : List vE := [e_199vk700]
def Bb_58_6 (a0 a1 a2 a3 x0 x1 x2 x3 x4 x5 : Int) (h0 h : gH) : Prop := KM h0 → MT (mC h0) → 0 ≤ a2 → a2 ≤ 59 → 0 ≤ a3 → a3 ≤ a1 → a1 ≤ 5 → x3 = a3 ∧ -1 ≤ x4 ∧ x4 ≤ 59 ∧ x5 ≤ 5 ∧ a3 ≤ x5 ∧ pFrom (hV h0 22) a3 (x5 - a3).toNat x4 = pFrom (hV h0 22) a3 (a1 - a3).toNat a2
def B_58 : Int → List Int → gH → gH → Prop := fun c xs h0 h => match c.toNat with
  | 6 => (match xs with
    | [a0, a1, a2, a3, x0, x1, x2, x3, x4, x5] => Bb_58_6 a0 a1 a2 a3 x0 x1 x2 x3 x4 x5 h0 h
    | _ => False)
  | _ => True
theorem q_58w_0 {n0 n1 n2 n3 : Int} {H0 : gH} (f0 : n0 ≤ 2147483647) (f1 : (-2147483648) ≤ n0) (f2 : n1 ≤ 2147483647) (f3 : (-2147483648) ≤ n1) (f4 : n2 ≤ 2147483647) (f5 : (-2147483648) ≤ n2) (f6 : n3 = 19) (f7 : hWt T0 H0 ∧ True) : Bb_58_6 n3 n2 n1 n0 n3 n2 n1 n0 n1 n2 H0 H0 := by
  unfold Bb_58_6
  intro km mt b1 b2 b3 b4 b5
  exact ⟨rfl, by omega, by omega, by omega, by omega, rfl⟩
def g_58w_s_0 : vG := ([(6000, [0, 1, 2, 3], [0], 0), (0, [0], [], 19), (90, [1], [], -2147483648), (91, [1], [], 2147483647), (90, [2], [], -2147483648), (91, [2], [], 2147483647), (90, [3], [], -2147483648), (91, [3], [], 2147483647)], (4000, [0, 1, 2, 3, 2, 1], [0], 6))
theorem c_58w_s_0 : vOkm T0 (eN e_58 L_58w A_58 mu_58 n_58 B_58 none) 4 g_58w_s_0 := vOk_inI fun ρ η f0 f1 f2 f3 f4 f5 f6 f7 => q_58w_0 (n0 := ρ 3) (n1 := ρ 2) (n2 := ρ 1) (n3 := ρ 0) (H0 := η 0) f7 f6 f5 f4 f3 f2 f1 f0
def p_58w_s : List vG := [g_58w_s_0]
theorem r_58w_s : vCovBO (eR0 e_58 L_58 cs_58 2000) p_58w_s = true := by decide +kernel
theorem q_58w_1 {q0 : Nat} {n0 n1 n2 n3 n4 n5 n6 n7 n8 n9 : Int} {H0 H1 : gH} (f0 : n0 ≤ 2147483647) (f1 : (-2147483648) ≤ n0) (f2 : n1 ≤ 2147483647) (f3 : (-2147483648) ≤ n1) (f4 : n2 ≤ 2147483647) (f5 : (-2147483648) ≤ n2) (f6 : n3 ≤ 2147483647) (f7 : (-2147483648) ≤ n3) (f8 : n4 ≤ 2147483647) (f9 : (-2147483648) ≤ n4) (f10 : n5 = 19) (f11 : n6 ≤ 2147483647) (f12 : (-2147483648) ≤ n6) (f13 : n7 ≤ 2147483647) (f14 : (-2147483648) ≤ n7) (f15 : n8 ≤ 2147483647) (f16 : (-2147483648) ≤ n8) (f17 : n9 = 19) (f18 : (hLe T0 H0 H1 ∧ hFr s_58.2.2.2.2 H0 H1 ∧ hWt T0 H1) ∧ ((True ∧ Bb_58_6 n9 n8 n7 n6 n5 n4 n3 n2 n1 n0 H0 H1) ∧ True) ∧ some q0 = some (mub_58_6 n9 n8 n7 n6 n5 n4 n3 n2 n1 n0 H0 H1)) (f19 : n0 ≤ n2) : nb_58 n1 n9 n8 n7 n6 H0 H1 := by
  unfold nb_58
  intro km mt b1 b2 b3 b4 b5
  have gb := f18.2.1.1.2
  unfold Bb_58_6 at gb
  obtain ⟨x3, y1, y2, y3, y4, yf⟩ := gb km mt b1 b2 b3 b4 b5
  have m22 := (MTc mt).2.2.2.2.2.1
  refine ⟨?_, by omega, by omega⟩
  rw [← yf]
  first
  | (rw [show (n0 - n6).toNat = 0 by omega]; rfl)
  | (rw [show n1 = -1 by omega, pFrom_neg])
def g_58w_6_0 : vG := ([(45, [9, 7], [], 0), (5000, [0, 1, 2, 3, 4, 5, 6, 7, 8, 9], [0, 1], 6), (0, [0], [], 19), (90, [1], [], -2147483648), (91, [1], [], 2147483647), (90, [2], [], -2147483648), (91, [2], [], 2147483647), (90, [3], [], -2147483648), (91, [3], [], 2147483647), (0, [4], [], 19), (90, [5], [], -2147483648), (91, [5], [], 2147483647), (90, [6], [], -2147483648), (91, [6], [], 2147483647), (90, [7], [], -2147483648), (91, [7], [], 2147483647), (90, [8], [], -2147483648), (91, [8], [], 2147483647), (90, [9], [], -2147483648), (91, [9], [], 2147483647)], (3000, [8], [1], 43))
theorem c_58w_6_0 {q0 : Nat} : vOkm T0 (eN e_58 L_58w A_58 mu_58 n_58 B_58 (some q0)) 4 g_58w_6_0 := vOk_inI fun ρ η f0 f1 f2 f3 f4 f5 f6 f7 f8 f9 f10 f11 f12 f13 f14 f15 f16 f17 f18 f19 => q_58w_1 (q0 := q0) (n0 := ρ 9) (n1 := ρ 8) (n2 := ρ 7) (n3 := ρ 6) (n4 := ρ 5) (n5 := ρ 4) (n6 := ρ 3) (n7 := ρ 2) (n8 := ρ 1) (n9 := ρ 0) (H0 := η 0) (H1 := η 1) f19 f18 f17 f16 f15 f14 f13 f12 f11 f10 f9 f8 f7 f6 f5 f4 f3 f2 f1 f0
theorem q_58w_2 {q0 : Nat} {n0 n1 n2 n3 n4 n5 n6 n7 n8 n9 n10 : Int} {H0 H1 : gH} (f0 : n0 ≤ 2147483647) (f1 : (-2147483648) ≤ n0) (f2 : n1 ≤ 2147483647) (f3 : (-2147483648) ≤ n1) (f4 : n2 ≤ 2147483647) (f5 : (-2147483648) ≤ n2) (f6 : n3 ≤ 2147483647) (f7 : (-2147483648) ≤ n3) (f8 : n4 ≤ 2147483647) (f9 : (-2147483648) ≤ n4) (f10 : n5 = 19) (f11 : n6 ≤ 2147483647) (f12 : (-2147483648) ≤ n6) (f13 : n7 ≤ 2147483647) (f14 : (-2147483648) ≤ n7) (f15 : n8 ≤ 2147483647) (f16 : (-2147483648) ≤ n8) (f17 : n9 = 19) (f18 : (hLe T0 H0 H1 ∧ hFr s_58.2.2.2.2 H0 H1 ∧ hWt T0 H1) ∧ ((True ∧ Bb_58_6 n9 n8 n7 n6 n5 n4 n3 n2 n1 n0 H0 H1) ∧ True) ∧ some q0 = some (mub_58_6 n9 n8 n7 n6 n5 n4 n3 n2 n1 n0 H0 H1)) (f19 : n2 < n0) (f20 : n10 = (-1)) (f21 : n1 = n10) : nb_58 n1 n9 n8 n7 n6 H0 H1 := by
  unfold nb_58
  intro km mt b1 b2 b3 b4 b5
  have gb := f18.2.1.1.2
  unfold Bb_58_6 at gb
  obtain ⟨x3, y1, y2, y3, y4, yf⟩ := gb km mt b1 b2 b3 b4 b5
  have m22 := (MTc mt).2.2.2.2.2.1
  refine ⟨?_, by omega, by omega⟩
  rw [← yf]
  first
  | (rw [show (n0 - n6).toNat = 0 by omega]; rfl)
  | (rw [show n1 = -1 by omega, pFrom_neg])
def g_58w_6_1 : vG := ([(40, [8, 10], [], 0), (0, [10], [], -1), (44, [9, 7], [], 0), (5000, [0, 1, 2, 3, 4, 5, 6, 7, 8, 9], [0, 1], 6), (0, [0], [], 19), (90, [1], [], -2147483648), (91, [1], [], 2147483647), (90, [2], [], -2147483648), (91, [2], [], 2147483647), (90, [3], [], -2147483648), (91, [3], [], 2147483647), (0, [4], [], 19), (90, [5], [], -2147483648), (91, [5], [], 2147483647), (90, [6], [], -2147483648), (91, [6], [], 2147483647), (90, [7], [], -2147483648), (91, [7], [], 2147483647), (90, [8], [], -2147483648), (91, [8], [], 2147483647), (90, [9], [], -2147483648), (91, [9], [], 2147483647)], (3000, [8], [1], 43))
theorem c_58w_6_1 {q0 : Nat} : vOkm T0 (eN e_58 L_58w A_58 mu_58 n_58 B_58 (some q0)) 4 g_58w_6_1 := vOk_inI fun ρ η f0 f1 f2 f3 f4 f5 f6 f7 f8 f9 f10 f11 f12 f13 f14 f15 f16 f17 f18 f19 f20 f21 => q_58w_2 (q0 := q0) (n0 := ρ 9) (n1 := ρ 8) (n2 := ρ 7) (n3 := ρ 6) (n4 := ρ 5) (n5 := ρ 4) (n6 := ρ 3) (n7 := ρ 2) (n8 := ρ 1) (n9 := ρ 0) (n10 := ρ 10) (H0 := η 0) (H1 := η 1) f21 f20 f19 f18 f17 f16 f15 f14 f13 f12 f11 f10 f9 f8 f7 f6 f5 f4 f3 f2 f1 f0
theorem q_58w_3 {q0 : Nat} {n0 n1 n2 n3 n4 n5 n6 n7 n8 n9 n10 n11 n12 n13 n14 n15 n16 : Int} {H0 H1 H2 : gH} (f0 : n0 ≤ 2147483647) (f1 : (-2147483648) ≤ n0) (f2 : n1 ≤ 2147483647) (f3 : (-2147483648) ≤ n1) (f4 : n2 ≤ 2147483647) (f5 : (-2147483648) ≤ n2) (f6 : n3 ≤ 2147483647) (f7 : (-2147483648) ≤ n3) (f8 : n4 ≤ 2147483647) (f9 : (-2147483648) ≤ n4) (f10 : n5 = 19) (f11 : n6 ≤ 2147483647) (f12 : (-2147483648) ≤ n6) (f13 : n7 ≤ 2147483647) (f14 : (-2147483648) ≤ n7) (f15 : n8 ≤ 2147483647) (f16 : (-2147483648) ≤ n8) (f17 : n9 = 19) (f18 : (hLe T0 H0 H1 ∧ hFr s_58.2.2.2.2 H0 H1 ∧ hWt T0 H1) ∧ ((True ∧ Bb_58_6 n9 n8 n7 n6 n5 n4 n3 n2 n1 n0 H0 H1) ∧ True) ∧ some q0 = some (mub_58_6 n9 n8 n7 n6 n5 n4 n3 n2 n1 n0 H0 H1)) (f19 : n2 < n0) (f20 : n10 = (-1)) (f21 : n1 ≠ n10) (f22 : n11 = 22) (f23 : hK H1 (n5).toNat = 3) (f24 : n11 = hV H1 (n5).toNat 2) (f25 : n12 = 60) (f26 : n13 = w32 (n0 * n12)) (f27 : n14 = w32 (n13 + n1)) (f28 : n15 ≤ 2147483647) (f29 : (-2147483648) ≤ n15) (f30 : (hLe T0 H1 H2 ∧ hFr s_199k700.2.2.2.2 H1 H2 ∧ ((0 : Int) = 0 → H2.length = H1.length) ∧ hWt T0 H2) ∧ postb_199vk700 n15 n11 n14 H1 H2) (f31 : n16 = w32 (n0 + (-1))) : Bb_58_6 n9 n8 n7 n6 n5 n4 n3 n2 n15 n16 H0 H2 := by
  unfold Bb_58_6
  intro km mt b1 b2 b3 b4 b5
  have gb := f18.2.1.1.2
  unfold Bb_58_6 at gb
  obtain ⟨x3, y1, y2, y3, y4, yf⟩ := gb km mt b1 b2 b3 b4 b5
  have m22 := (MTc mt).2.2.2.2.2.1
  have wa : n13 = n0 * 60 := by
    have w := f26
    rw [f25, w32_id (by omega) (by omega)] at w
    exact w
  have w27 : n14 = n13 + n1 := by
    have w := f27
    rw [w32_id (by omega) (by omega)] at w
    exact w
  have w31 : n16 = n0 + (-1) := by
    have w := f31
    rw [w32_id (by omega) (by omega)] at w
    exact w
  clear f26 f27 f31
  have km1 := KM_le f18.1.1 km
  have q := f30.2
  unfold postb_199vk700 at q
  have e := atQ_r (q := 22) (n := 360) q f22 km1.2.2.2.2
  rw [if_pos (by omega), show hV H1 22 = hV H0 22 from fRow f18.1.2.1 22 (by decide +kernel)] at e
  have ob := m22 (n14).toNat
  refine ⟨x3, by omega, by omega, by omega, by omega, ?_⟩
  rw [← yf, show (n0 - n6).toNat = (n16 - n6).toNat + 1 by omega]
  show _ = (if n1 = -1 then -1 else pFrom _ _ _ _)
  rw [if_neg (by omega), e]
  refine congrArg (fun z : Nat => pFrom (hV H0 22) n6 (n16 - n6).toNat (hV H0 22 z)) ?_
  omega
def g_58w_6_2 : vG := ([(10, [16, 9], [], -1), (1199, [15, 11, 14], [1, 2], 0), (90, [15], [], -2147483648), (91, [15], [], 2147483647), (1, [14, 13, 8], [], 0), (3, [13, 9, 12], [], 0), (0, [12], [], 60), (20, [11, 4], [1], 2), (23, [4], [1], 3), (0, [11], [], 22), (41, [8, 10], [], 0), (0, [10], [], -1), (44, [9, 7], [], 0), (5000, [0, 1, 2, 3, 4, 5, 6, 7, 8, 9], [0, 1], 6), (0, [0], [], 19), (90, [1], [], -2147483648), (91, [1], [], 2147483647), (90, [2], [], -2147483648), (91, [2], [], 2147483647), (90, [3], [], -2147483648), (91, [3], [], 2147483647), (0, [4], [], 19), (90, [5], [], -2147483648), (91, [5], [], 2147483647), (90, [6], [], -2147483648), (91, [6], [], 2147483647), (90, [7], [], -2147483648), (91, [7], [], 2147483647), (90, [8], [], -2147483648), (91, [8], [], 2147483647), (90, [9], [], -2147483648), (91, [9], [], 2147483647)], (4000, [4, 5, 6, 7, 15, 16], [2], 6))
theorem c_58w_6_2 {q0 : Nat} : vOkm T0 (eN e_58 L_58w A_58 mu_58 n_58 B_58 (some q0)) 4 g_58w_6_2 := vOk_inI fun ρ η f0 f1 f2 f3 f4 f5 f6 f7 f8 f9 f10 f11 f12 f13 f14 f15 f16 f17 f18 f19 f20 f21 f22 f23 f24 f25 f26 f27 f28 f29 f30 f31 => q_58w_3 (q0 := q0) (n0 := ρ 9) (n1 := ρ 8) (n2 := ρ 7) (n3 := ρ 6) (n4 := ρ 5) (n5 := ρ 4) (n6 := ρ 3) (n7 := ρ 2) (n8 := ρ 1) (n9 := ρ 0) (n10 := ρ 10) (n11 := ρ 11) (n12 := ρ 12) (n13 := ρ 13) (n14 := ρ 14) (n15 := ρ 15) (n16 := ρ 16) (H0 := η 0) (H1 := η 1) (H2 := η 2) f31 f30 f29 f28 f27 f26 f25 f24 f23 f22 f21 f20 f19 f18 f17 f16 f15 f14 f13 f12 f11 f10 f9 f8 f7 f6 f5 f4 f3 f2 f1 f0
def p_58w_6 : List vG := [g_58w_6_0,
  g_58w_6_1,
  g_58w_6_2]
theorem r_58w_6 : vCovBO (eRc e_58 L_58 cs_58 2000 (6, [(0, (3, 3, 19, 0)), (1, (0, -2147483648, 2147483647, 0)), (2, (0, -2147483648, 2147483647, 0)), (3, (0, -2147483648, 2147483647, 0)), (4, (0, -2147483648, 2147483647, 0)), (5, (0, -2147483648, 2147483647, 0))])) p_58w_6 = true := by decide +kernel
theorem m_58w (d : Nat) : eC e_58w (d + 2) := eC_ref (e := e_58) (L := L_58) (L' := L_58w) (cs := cs_58) (n := 2000) (d := d + 1) (A := A_58) (μ := mu_58) (tp := true) (p0 := p_58_s) (p1 := p_58w_s) (N := n_58) (B := B_58) rfl ⟨m_199vk700 d, trivial⟩ rfl (.inr pre0_ok) (by decide +kernel) (fun _ => post0_ok) r_58_s (allC c_58_s_0 allN) (allC (.inl ⟨p_58_6, r_58_6, fun q0 => (allC c_58_6_0 allN)⟩) allN) ⟨⟨rfl, rfl, rfl, fun _ _ _ _ => trivial⟩, trivial⟩ r_58w_s (allC c_58w_s_0 allN) (allC ⟨p_58w_6, r_58w_6, fun q0 => (allC c_58w_6_0 (allC c_58w_6_1 (allC c_58w_6_2 allN)))⟩ allN)
/- Tracer.seekGiven (ILMixStage$Cue;)V, more fully -/
def nb_144 (a0 a1 a2 : Int) (h0 h : gH) : Prop := ∀ (E : SE) (mu : Int), LYo h0 E mu (a2).toNat → 0 ≤ a2 → KM h0 → MT (mC h0) → 0 ≤ a1 → a1 < 6 → ∀ P : Int → Prop, RB (hV h0 282) P → RB (hV h 282) (fun f => P f ∨ HTp E (lrW (hV h0 25) (recC h0 (a2).toNat)) (4 * hV h0 20 (a1).toNat) f)
def n_144 : List Int → gH → gH → Prop := fun xs h0 h => match xs with
  | [a0, a1, a2] => nb_144 a0 a1 a2 h0 h
  | _ => True
noncomputable def e_144w : vE := eV e_144 n_144
noncomputable def L_144w : List vE := [e_37w, e_39w, e_41w, e_53w, e_201vk764]
def Bb_144_24 (a0 a1 a2 x0 x1 x2 x3 x4 : Int) (h0 h : gH) : Prop := ∀ (E : SE) (mu : Int), LYo h0 E mu (a2).toNat → 0 ≤ a2 → KM h0 → MT (mC h0) → 0 ≤ a1 → a1 < 6 → x1 = a1 ∧ x2 = a2 ∧ x3 = (4 * hV h0 20 (a1).toNat) ∧ 0 ≤ x4 ∧ x4 ≤ (4 * hV h0 20 (a1).toNat) ∧ (∀ t : Nat, (t : Int) < (4 * hV h0 20 (a1).toNat) → RWt E (lrW (hV h0 25) (recC h0 (a2).toNat)) t (hV h 276 t)) ∧ ∀ P : Int → Prop, RB (hV h0 282) P → RB (hV h 282) (fun f => P f ∨ HTp E (lrW (hV h0 25) (recC h0 (a2).toNat)) x4 f)
def B_144 : Int → List Int → gH → gH → Prop := fun c xs h0 h => match c.toNat with
  | 24 => (match xs with
    | [a0, a1, a2, x0, x1, x2, x3, x4] => Bb_144_24 a0 a1 a2 x0 x1 x2 x3 x4 h0 h
    | _ => False)
  | _ => True
theorem q_144w_0 {n0 n1 n2 n3 n4 n5 n6 n7 n8 n9 : Int} {H0 H1 H2 : gH} (f0 : 0 ≤ n0) (f1 : n1 ≤ 2147483647) (f2 : (-2147483648) ≤ n1) (f3 : n2 = 281) (f4 : hWt T0 H0 ∧ True) (f5 : n3 = 4) (f6 : n4 = 19) (f7 : hK H0 (n2).toNat = 9) (f8 : n4 = hV H0 (n2).toNat 1) (f9 : n5 ≤ 2147483647) (f10 : (-2147483648) ≤ n5) (f11 : (hLe T0 H0 H1 ∧ hFr s_53.2.2.2.2 H0 H1 ∧ ((0 : Int) = 0 → H1.length = H0.length) ∧ hWt T0 H1) ∧ (True ∧ nb_53 n5 n4 n1 H0 H1)) (f12 : n6 = w32 (n3 * n5)) (f13 : n7 = 274) (f14 : hK H1 (n2).toNat = 9) (f15 : n7 = hV H1 (n2).toNat 2) (f16 : n8 = 0) (f17 : (hLe T0 H1 H2 ∧ hFr s_37.2.2.2.2 H1 H2 ∧ ((0 : Int) = 0 → H2.length = H1.length) ∧ hWt T0 H2) ∧ (True ∧ nb_37 n7 n0 n8 n6 H1 H2)) (f18 : n9 = 0) : Bb_144_24 n2 n1 n0 n2 n1 n0 n6 n9 H0 H2 := by
  unfold Bb_144_24
  intro E mu ly p2 km mt p0 p6
  have lyo := ly
  obtain ⟨z, k25, kr, k1, k0, lm⟩ := ly
  have m20 := (MTc mt).2.2.2.1
  have b := m20 (n1).toNat
  have qz := f11.2.2
  unfold nb_53 at qz
  have qz := qz km p0 p6
  have wz := f12
  rw [f5, qz] at wz
  rw [w32_id (by omega) (by omega)] at wz
  have ls : LYo H1 E mu (n0).toNat := ⟨(SNC_fr f11.1.1 f11.1.2.1 (by decide +kernel) z), (K25_le f11.1.1 k25), (KR_le f11.1.1 kr), (kLe f11.1.1 k1 rfl), (show hV H1 (n0).toNat 0 = 0 from (f11.1.2.1.2.2 _ 1 k1 rfl 0 (by decide +kernel)).trans k0), by rw [(show recC H1 (n0).toNat = recC H0 (n0).toNat from recC_eq (fr1 f11.1.2.1 (by decide +kernel) k1)), (show hV H1 25 = hV H0 25 from fRow f11.1.2.1 25 (by decide +kernel))]; exact lm⟩
  have qs := f17.2.2
  unfold nb_37 at qs
  have qs := qs E mu ls p2 (by omega) (by omega) (by omega)
  rw [(show recC H1 (n0).toNat = recC H0 (n0).toNat from recC_eq (fr1 f11.1.2.1 (by decide +kernel) k1)), (show hV H1 25 = hV H0 25 from fRow f11.1.2.1 25 (by decide +kernel))] at qs
  refine ⟨rfl, rfl, by omega, by omega, by omega, fun t ht => qs t (by omega), fun P rb => ?_⟩
  rw [(show hV H2 282 = hV H0 282 from (fRow f17.1.2.1 282 (by decide +kernel)).trans (fRow f11.1.2.1 282 (by decide +kernel)))]
  exact RB_iff rb fun f => ⟨.inl, fun w => w.resolve_right (HT_0 (by omega) f)⟩
def g_144w_s_0 : vG := ([(0, [9], [], 0), (1037, [7, 2, 8, 6], [1, 2], 0), (0, [8], [], 0), (20, [7, 0], [1], 2), (23, [0], [1], 9), (0, [7], [], 274), (3, [6, 3, 5], [], 0), (1053, [5, 4, 1], [0, 1], 0), (90, [5], [], -2147483648), (91, [5], [], 2147483647), (20, [4, 0], [0], 1), (23, [0], [0], 9), (0, [4], [], 19), (0, [3], [], 4), (6000, [0, 1, 2], [0], 0), (0, [0], [], 281), (90, [1], [], -2147483648), (91, [1], [], 2147483647), (51, [2], [], 0)], (4000, [0, 1, 2, 6, 9], [2], 24))
theorem c_144w_s_0 : vOkm T0 (eN e_144 L_144w A_144 mu_144 n_144 B_144 none) 3 g_144w_s_0 := vOk_inI fun ρ η f0 f1 f2 f3 f4 f5 f6 f7 f8 f9 f10 f11 f12 f13 f14 f15 f16 f17 f18 => q_144w_0 (n0 := ρ 2) (n1 := ρ 1) (n2 := ρ 0) (n3 := ρ 3) (n4 := ρ 4) (n5 := ρ 5) (n6 := ρ 6) (n7 := ρ 7) (n8 := ρ 8) (n9 := ρ 9) (H0 := η 0) (H1 := η 1) (H2 := η 2) f18 f17 f16 f15 f14 f13 f12 f11 f10 f9 f8 f7 f6 f5 f4 f3 f2 f1 f0
def p_144w_s : List vG := [g_144w_s_0]
theorem r_144w_s : vCovBO (eR0 e_144 L_144 cs_144 2000) p_144w_s = true := by decide +kernel
theorem q_144w_1 {q0 : Nat} {n0 n1 n2 n3 n4 n5 n6 n7 : Int} {H0 H1 : gH} (f0 : n0 ≤ 2147483647) (f1 : (-2147483648) ≤ n0) (f2 : n1 ≤ 2147483647) (f3 : (-2147483648) ≤ n1) (f4 : 0 ≤ n2) (f5 : n3 ≤ 2147483647) (f6 : (-2147483648) ≤ n3) (f7 : n4 = 281) (f8 : 0 ≤ n5) (f9 : n6 ≤ 2147483647) (f10 : (-2147483648) ≤ n6) (f11 : n7 = 281) (f12 : (hLe T0 H0 H1 ∧ hFr s_144.2.2.2.2 H0 H1 ∧ hWt T0 H1) ∧ ((True ∧ Bb_144_24 n7 n6 n5 n4 n3 n2 n1 n0 H0 H1) ∧ True) ∧ some q0 = some (mub_144_24 n7 n6 n5 n4 n3 n2 n1 n0 H0 H1)) (f13 : n1 ≤ n0) : nb_144 n7 n6 n5 H0 H1 := by
  unfold nb_144
  intro E mu ly p2 km mt p0 p6
  have gb := f12.2.1.1.2
  unfold Bb_144_24 at gb
  obtain ⟨e1, e2, e3, e4, e5, rows, rb⟩ := gb E mu ly p2 km mt p0 p6
  have lyo := ly
  obtain ⟨z, k25, kr, k1, k0, lm⟩ := ly
  have m20 := (MTc mt).2.2.2.1
  have b := m20 (n6).toNat
  intro P w
  have q := rb P w
  rw [show n0 = 4 * hV H0 20 (n6).toNat by omega] at q
  exact q
def g_144w_24_0 : vG := ([(43, [7, 6], [], 0), (5000, [0, 1, 2, 3, 4, 5, 6, 7], [0, 1], 24), (0, [0], [], 281), (90, [1], [], -2147483648), (91, [1], [], 2147483647), (51, [2], [], 0), (0, [3], [], 281), (90, [4], [], -2147483648), (91, [4], [], 2147483647), (51, [5], [], 0), (90, [6], [], -2147483648), (91, [6], [], 2147483647), (90, [7], [], -2147483648), (91, [7], [], 2147483647)], (3000, [], [1], 68))
theorem c_144w_24_0 {q0 : Nat} : vOkm T0 (eN e_144 L_144w A_144 mu_144 n_144 B_144 (some q0)) 3 g_144w_24_0 := vOk_inI fun ρ η f0 f1 f2 f3 f4 f5 f6 f7 f8 f9 f10 f11 f12 f13 => q_144w_1 (q0 := q0) (n0 := ρ 7) (n1 := ρ 6) (n2 := ρ 5) (n3 := ρ 4) (n4 := ρ 3) (n5 := ρ 2) (n6 := ρ 1) (n7 := ρ 0) (H0 := η 0) (H1 := η 1) f13 f12 f11 f10 f9 f8 f7 f6 f5 f4 f3 f2 f1 f0
theorem q_144w_2 {q0 : Nat} {n0 n1 n2 n3 n4 n5 n6 n7 n8 n9 n10 n11 n12 n13 : Int} {H0 H1 H2 H3 : gH} (f0 : n0 ≤ 2147483647) (f1 : (-2147483648) ≤ n0) (f2 : n1 ≤ 2147483647) (f3 : (-2147483648) ≤ n1) (f4 : 0 ≤ n2) (f5 : n3 ≤ 2147483647) (f6 : (-2147483648) ≤ n3) (f7 : n4 = 281) (f8 : 0 ≤ n5) (f9 : n6 ≤ 2147483647) (f10 : (-2147483648) ≤ n6) (f11 : n7 = 281) (f12 : (hLe T0 H0 H1 ∧ hFr s_144.2.2.2.2 H0 H1 ∧ hWt T0 H1) ∧ ((True ∧ Bb_144_24 n7 n6 n5 n4 n3 n2 n1 n0 H0 H1) ∧ True) ∧ some q0 = some (mub_144_24 n7 n6 n5 n4 n3 n2 n1 n0 H0 H1)) (f13 : n0 < n1) (f14 : n8 = 274) (f15 : hK H1 (n4).toNat = 9) (f16 : n8 = hV H1 (n4).toNat 2) (f17 : n9 = 0) (f18 : n10 ≤ 2147483647) (f19 : (-2147483648) ≤ n10) (f20 : (hLe T0 H1 H2 ∧ hFr s_39.2.2.2.2 H1 H2 ∧ ((0 : Int) = 0 → H2.length = H1.length) ∧ hWt T0 H2) ∧ (True ∧ nb_39 n10 n8 n9 n0 H1 H2)) (f21 : n11 ≤ 2147483647) (f22 : (-2147483648) ≤ n11) (f23 : hK H2 (n2).toNat = 1) (f24 : n11 = hV H2 (n2).toNat 10) (f25 : n12 ≤ 2147483647) (f26 : (-2147483648) ≤ n12) (f27 : (hLe T0 H2 H3 ∧ hFr s_41.2.2.2.2 H2 H3 ∧ ((0 : Int) = 0 → H3.length = H2.length) ∧ hWt T0 H3) ∧ (True ∧ nb_41 n12 n10 n11 H2 H3)) (f28 : n12 = 0) (f29 : n13 = w32 (n0 + 1)) : Bb_144_24 n7 n6 n5 n4 n3 n2 n1 n13 H0 H3 := by
  unfold Bb_144_24
  intro E mu ly p2 km mt p0 p6
  have gb := f12.2.1.1.2
  unfold Bb_144_24 at gb
  obtain ⟨e1, e2, e3, e4, e5, rows, rb⟩ := gb E mu ly p2 km mt p0 p6
  have lyo := ly
  obtain ⟨z, k25, kr, k1, k0, lm⟩ := ly
  have m20 := (MTc mt).2.2.2.1
  have b := m20 (n6).toNat
  have el := lrW_at (h := H0) (o := (n5).toNat) (mk := hV H0 25) k0
  have g_gn : (lrW (hV H0 25) (recC H0 (n5).toNat)).2.2.2.2.2.1 = hV H0 (n5).toNat 10 := congrArg (fun y : LR => y.2.2.2.2.2.1) el
  have kr1 := KR_le f12.1.1 kr
  have qt := f20.2.2
  unfold nb_39 at qt
  have qt := qt (by omega) (by omega) (by omega) kr1
  have rt := rows (n0).toNat (by omega)
  rw [← qt, Int.toNat_of_nonneg e4] at rt
  have xg : n11 = (lrW (hV H0 25) (recC H0 (n5).toNat)).2.2.2.2.2.1 := by
    rw [g_gn]
    have w := f24
    rw [e2] at w
    exact w.trans ((f20.1.2.1.2.2 _ 1 (kLe f12.1.1 k1 rfl) rfl 10 (by decide +kernel)).trans (f12.1.2.1.2.2 _ 1 k1 rfl 10 (by decide +kernel)))
  have qg := f27.2.2
  unfold nb_41 at qg
  have gv := RWt_gv lm rt xg qg
  have wn := f29
  unfold w32 at wn
  refine ⟨e1, e2, e3, by omega, by omega, fun t ht => ?_, fun P w => ?_⟩
  · rw [(show hV H3 276 = hV H1 276 from (fRow f27.1.2.1 276 (by decide +kernel)).trans (fRow f20.1.2.1 276 (by decide +kernel)))]
    exact rows t ht
  · rw [show hV H3 282 = hV H1 282 from (fRow f27.1.2.1 282 (by decide +kernel)).trans (fRow f20.1.2.1 282 (by decide +kernel))]
    exact RB_iff (rb P w) fun f => or_congr Iff.rfl (HT_skip (gv.1 (by omega)) (by omega) f)
def g_144w_24_1 : vG := ([(10, [13, 7], [], 1), (30, [12], [], 0), (1041, [12, 10, 11], [2, 3], 0), (90, [12], [], -2147483648), (91, [12], [], 2147483647), (20, [11, 5], [2], 10), (23, [5], [2], 1), (90, [11], [], -2147483648), (91, [11], [], 2147483647), (1039, [10, 8, 9, 7], [1, 2], 0), (90, [10], [], -2147483648), (91, [10], [], 2147483647), (0, [9], [], 0), (20, [8, 3], [1], 2), (23, [3], [1], 9), (0, [8], [], 274), (42, [7, 6], [], 0), (5000, [0, 1, 2, 3, 4, 5, 6, 7], [0, 1], 24), (0, [0], [], 281), (90, [1], [], -2147483648), (91, [1], [], 2147483647), (51, [2], [], 0), (0, [3], [], 281), (90, [4], [], -2147483648), (91, [4], [], 2147483647), (51, [5], [], 0), (90, [6], [], -2147483648), (91, [6], [], 2147483647), (90, [7], [], -2147483648), (91, [7], [], 2147483647)], (4000, [3, 4, 5, 6, 13], [3], 24))
theorem c_144w_24_1 {q0 : Nat} : vOkm T0 (eN e_144 L_144w A_144 mu_144 n_144 B_144 (some q0)) 3 g_144w_24_1 := vOk_inI fun ρ η f0 f1 f2 f3 f4 f5 f6 f7 f8 f9 f10 f11 f12 f13 f14 f15 f16 f17 f18 f19 f20 f21 f22 f23 f24 f25 f26 f27 f28 f29 => q_144w_2 (q0 := q0) (n0 := ρ 7) (n1 := ρ 6) (n2 := ρ 5) (n3 := ρ 4) (n4 := ρ 3) (n5 := ρ 2) (n6 := ρ 1) (n7 := ρ 0) (n8 := ρ 8) (n9 := ρ 9) (n10 := ρ 10) (n11 := ρ 11) (n12 := ρ 12) (n13 := ρ 13) (H0 := η 0) (H1 := η 1) (H2 := η 2) (H3 := η 3) f29 f28 f27 f26 f25 f24 f23 f22 f21 f20 f19 f18 f17 f16 f15 f14 f13 f12 f11 f10 f9 f8 f7 f6 f5 f4 f3 f2 f1 f0
theorem q_144w_3 {q0 : Nat} {n0 n1 n2 n3 n4 n5 n6 n7 n8 n9 n10 n11 n12 n13 n14 n15 n16 n17 : Int} {H0 H1 H2 H3 H4 : gH} (f0 : n0 ≤ 2147483647) (f1 : (-2147483648) ≤ n0) (f2 : n1 ≤ 2147483647) (f3 : (-2147483648) ≤ n1) (f4 : 0 ≤ n2) (f5 : n3 ≤ 2147483647) (f6 : (-2147483648) ≤ n3) (f7 : n4 = 281) (f8 : 0 ≤ n5) (f9 : n6 ≤ 2147483647) (f10 : (-2147483648) ≤ n6) (f11 : n7 = 281) (f12 : (hLe T0 H0 H1 ∧ hFr s_144.2.2.2.2 H0 H1 ∧ hWt T0 H1) ∧ ((True ∧ Bb_144_24 n7 n6 n5 n4 n3 n2 n1 n0 H0 H1) ∧ True) ∧ some q0 = some (mub_144_24 n7 n6 n5 n4 n3 n2 n1 n0 H0 H1)) (f13 : n0 < n1) (f14 : n8 = 274) (f15 : hK H1 (n4).toNat = 9) (f16 : n8 = hV H1 (n4).toNat 2) (f17 : n9 = 0) (f18 : n10 ≤ 2147483647) (f19 : (-2147483648) ≤ n10) (f20 : (hLe T0 H1 H2 ∧ hFr s_39.2.2.2.2 H1 H2 ∧ ((0 : Int) = 0 → H2.length = H1.length) ∧ hWt T0 H2) ∧ (True ∧ nb_39 n10 n8 n9 n0 H1 H2)) (f21 : n11 ≤ 2147483647) (f22 : (-2147483648) ≤ n11) (f23 : hK H2 (n2).toNat = 1) (f24 : n11 = hV H2 (n2).toNat 10) (f25 : n12 ≤ 2147483647) (f26 : (-2147483648) ≤ n12) (f27 : (hLe T0 H2 H3 ∧ hFr s_41.2.2.2.2 H2 H3 ∧ ((0 : Int) = 0 → H3.length = H2.length) ∧ hWt T0 H3) ∧ (True ∧ nb_41 n12 n10 n11 H2 H3)) (f28 : n12 ≠ 0) (f29 : n13 = 282) (f30 : hK H3 (n4).toNat = 9) (f31 : n13 = hV H3 (n4).toNat 3) (f32 : n14 = 4) (f33 : n15 = o32 (fun x y => x / y) n0 n14) (f34 : n16 = 1) (f35 : (hLe T0 H3 H4 ∧ hFr s_201k764.2.2.2.2 H3 H4 ∧ ((0 : Int) = 0 → H4.length = H3.length) ∧ hWt T0 H4) ∧ postb_201vk764 n13 n15 n16 H3 H4) (f36 : n17 = w32 (n0 + 1)) : Bb_144_24 n7 n6 n5 n4 n3 n2 n1 n17 H0 H4 := by
  unfold Bb_144_24
  intro E mu ly p2 km mt p0 p6
  have gb := f12.2.1.1.2
  unfold Bb_144_24 at gb
  obtain ⟨e1, e2, e3, e4, e5, rows, rb⟩ := gb E mu ly p2 km mt p0 p6
  have lyo := ly
  obtain ⟨z, k25, kr, k1, k0, lm⟩ := ly
  have m20 := (MTc mt).2.2.2.1
  have b := m20 (n6).toNat
  have el := lrW_at (h := H0) (o := (n5).toNat) (mk := hV H0 25) k0
  have g_gn : (lrW (hV H0 25) (recC H0 (n5).toNat)).2.2.2.2.2.1 = hV H0 (n5).toNat 10 := congrArg (fun y : LR => y.2.2.2.2.2.1) el
  have kr1 := KR_le f12.1.1 kr
  have qt := f20.2.2
  unfold nb_39 at qt
  have qt := qt (by omega) (by omega) (by omega) kr1
  have rt := rows (n0).toNat (by omega)
  rw [← qt, Int.toNat_of_nonneg e4] at rt
  have xg : n11 = (lrW (hV H0 25) (recC H0 (n5).toNat)).2.2.2.2.2.1 := by
    rw [g_gn]
    have w := f24
    rw [e2] at w
    exact w.trans ((f20.1.2.1.2.2 _ 1 (kLe f12.1.1 k1 rfl) rfl 10 (by decide +kernel)).trans (f12.1.2.1.2.2 _ 1 k1 rfl 10 (by decide +kernel)))
  have qg := f27.2.2
  unfold nb_41 at qg
  have gv := RWt_gv lm rt xg qg
  have wn := f36
  unfold w32 at wn
  have wd := o32_div_pos f33 (by omega) (by omega) (by omega) (by omega)
  rw [f32] at wd
  have qp := f35.2
  unfold postb_201vk764 at qp
  have kr2 := (KR_le f27.1.1 (KR_le f20.1.1 kr1))
  have ru := putQ_r (q := 282) (n := 60) qp f29 kr2.2.2 (by omega)
  rw [show hV H3 282 = hV H1 282 from (fRow f27.1.2.1 282 (by decide +kernel)).trans (fRow f20.1.2.1 282 (by decide +kernel)), f34, wd] at ru
  refine ⟨e1, e2, e3, by omega, by omega, fun t ht => ?_, fun P w => ?_⟩
  · rw [(show hV H4 276 = hV H1 276 from (fRow f35.1.2.1 276 (by decide +kernel)).trans ((fRow f27.1.2.1 276 (by decide +kernel)).trans (fRow f20.1.2.1 276 (by decide +kernel))))]
    exact rows t ht
  · rw [ru]
    exact RB_iff (RB_set (rb P w)) fun f => or_assoc.trans (or_congr Iff.rfl (HT_take (gv.2 (by omega)) e4 (by omega) f))
def g_144w_24_2 : vG := ([(10, [17, 7], [], 1), (1201, [13, 15, 16], [3, 4], 0), (0, [16], [], 1), (11, [15, 7, 14], [], 0), (0, [14], [], 4), (20, [13, 3], [3], 3), (23, [3], [3], 9), (0, [13], [], 282), (31, [12], [], 0), (1041, [12, 10, 11], [2, 3], 0), (90, [12], [], -2147483648), (91, [12], [], 2147483647), (20, [11, 5], [2], 10), (23, [5], [2], 1), (90, [11], [], -2147483648), (91, [11], [], 2147483647), (1039, [10, 8, 9, 7], [1, 2], 0), (90, [10], [], -2147483648), (91, [10], [], 2147483647), (0, [9], [], 0), (20, [8, 3], [1], 2), (23, [3], [1], 9), (0, [8], [], 274), (42, [7, 6], [], 0), (5000, [0, 1, 2, 3, 4, 5, 6, 7], [0, 1], 24), (0, [0], [], 281), (90, [1], [], -2147483648), (91, [1], [], 2147483647), (51, [2], [], 0), (0, [3], [], 281), (90, [4], [], -2147483648), (91, [4], [], 2147483647), (51, [5], [], 0), (90, [6], [], -2147483648), (91, [6], [], 2147483647), (90, [7], [], -2147483648), (91, [7], [], 2147483647)], (4000, [3, 4, 5, 6, 17], [4], 24))
theorem c_144w_24_2 {q0 : Nat} : vOkm T0 (eN e_144 L_144w A_144 mu_144 n_144 B_144 (some q0)) 3 g_144w_24_2 := vOk_inI fun ρ η f0 f1 f2 f3 f4 f5 f6 f7 f8 f9 f10 f11 f12 f13 f14 f15 f16 f17 f18 f19 f20 f21 f22 f23 f24 f25 f26 f27 f28 f29 f30 f31 f32 f33 f34 f35 f36 => q_144w_3 (q0 := q0) (n0 := ρ 7) (n1 := ρ 6) (n2 := ρ 5) (n3 := ρ 4) (n4 := ρ 3) (n5 := ρ 2) (n6 := ρ 1) (n7 := ρ 0) (n8 := ρ 8) (n9 := ρ 9) (n10 := ρ 10) (n11 := ρ 11) (n12 := ρ 12) (n13 := ρ 13) (n14 := ρ 14) (n15 := ρ 15) (n16 := ρ 16) (n17 := ρ 17) (H0 := η 0) (H1 := η 1) (H2 := η 2) (H3 := η 3) (H4 := η 4) f36 f35 f34 f33 f32 f31 f30 f29 f28 f27 f26 f25 f24 f23 f22 f21 f20 f19 f18 f17 f16 f15 f14 f13 f12 f11 f10 f9 f8 f7 f6 f5 f4 f3 f2 f1 f0
def p_144w_24 : List vG := [g_144w_24_0,
  g_144w_24_1,
  g_144w_24_2]
theorem r_144w_24 : vCovBO (eRc e_144 L_144 cs_144 2000 (24, [(0, (3, 9, 281, 0)), (1, (0, -2147483648, 2147483647, 0)), (2, (3, 1, -1, 0)), (3, (0, -2147483648, 2147483647, 0)), (4, (0, -2147483648, 2147483647, 0))])) p_144w_24 = true := by decide +kernel
theorem m_144w (d : Nat) : eC e_144w (d + 5) := eC_ref (e := e_144) (L := L_144) (L' := L_144w) (cs := cs_144) (n := 2000) (d := d + 4) (A := A_144) (μ := mu_144) (tp := true) (p0 := p_144_s) (p1 := p_144w_s) (N := n_144) (B := B_144) rfl ⟨m_37w d, ⟨m_39w (d + 2), ⟨m_41w (d + 3), ⟨m_53w (d + 2), ⟨m_201vk764 (d + 3), trivial⟩⟩⟩⟩⟩ rfl (.inr pre0_ok) (by decide +kernel) (fun _ => post0_ok) r_144_s (allC c_144_s_0 allN) (allC (.inl ⟨p_144_24, r_144_24, fun q0 => (allC c_144_24_0 (allC c_144_24_1 allN))⟩) allN) (sub1 (sub1 (sub1 (sub1 ⟨⟨rfl, rfl, rfl, fun _ _ _ _ => trivial⟩, trivial⟩)))) r_144w_s (allC c_144w_s_0 allN) (allC ⟨p_144w_24, r_144w_24, fun q0 => (allC c_144w_24_0 (allC c_144w_24_1 (allC c_144w_24_2 allN)))⟩ allN)
/- Tracer.isSought (III)Z, more fully -/
def nb_135 (r a0 a1 a2 a3 : Int) (h0 h : gH) : Prop := KM h0 → MT (mC h0) → KR h0 → 0 ≤ a3 → a3 ≤ 59 → 0 ≤ a1 → a1 ≤ a2 → a2 ≤ 5 → ∀ P : Int → Prop, RB (hV h0 282) P → (r = 1 ∧ ¬ (pFrom (hV h0 22) a1 (a2 - a1).toNat a3) = -1 ∧ P (pFrom (hV h0 22) a1 (a2 - a1).toNat a3)) ∨ (r = 0 ∧ ¬ (¬ (pFrom (hV h0 22) a1 (a2 - a1).toNat a3) = -1 ∧ P (pFrom (hV h0 22) a1 (a2 - a1).toNat a3)))
def n_135 : List Int → gH → gH → Prop := fun xs h0 h => match xs with
  | [r, a0, a1, a2, a3] => nb_135 r a0 a1 a2 a3 h0 h
  | _ => True
noncomputable def e_135w : vE := eV e_135 n_135
noncomputable def L_135w : List vE := [e_58w, e_199vk764]
def B_135 : Int → List Int → gH → gH → Prop := fun c xs h0 h => True
theorem q_135w_0 {n0 n1 n2 n3 n4 n5 n6 n7 : Int} {H0 H1 : gH} (f0 : n0 ≤ 2147483647) (f1 : (-2147483648) ≤ n0) (f2 : n1 ≤ 2147483647) (f3 : (-2147483648) ≤ n1) (f4 : n2 ≤ 2147483647) (f5 : (-2147483648) ≤ n2) (f6 : n3 = 281) (f7 : hWt T0 H0 ∧ True) (f8 : n4 = 19) (f9 : hK H0 (n3).toNat = 9) (f10 : n4 = hV H0 (n3).toNat 1) (f11 : n5 ≤ 2147483647) (f12 : (-2147483648) ≤ n5) (f13 : (hLe T0 H0 H1 ∧ hFr s_58.2.2.2.2 H0 H1 ∧ ((0 : Int) = 0 → H1.length = H0.length) ∧ hWt T0 H1) ∧ (True ∧ nb_58 n5 n4 n1 n0 n2 H0 H1)) (f14 : n6 = (-1)) (f15 : n5 = n6) (f16 : n7 = 0) : nb_135 n7 n3 n2 n1 n0 H0 H1 := by
  unfold nb_135
  intro km mt kr b1 b2 b3 b4 b5 P rb
  have qc := f13.2.2
  unfold nb_58 at qc
  obtain ⟨q1, q2, q3⟩ := qc km mt b1 b2 b3 b4 b5
  rw [← q1]
  have rc := f16
  exact .inr ⟨rc, fun w => w.1 (by omega)⟩
def g_135w_s_0 : vG := ([(0, [7], [], 0), (40, [5, 6], [], 0), (0, [6], [], -1), (1058, [5, 4, 2, 3, 1], [0, 1], 0), (90, [5], [], -2147483648), (91, [5], [], 2147483647), (20, [4, 0], [0], 1), (23, [0], [0], 9), (0, [4], [], 19), (6000, [0, 1, 2, 3], [0], 0), (0, [0], [], 281), (90, [1], [], -2147483648), (91, [1], [], 2147483647), (90, [2], [], -2147483648), (91, [2], [], 2147483647), (90, [3], [], -2147483648), (91, [3], [], 2147483647)], (3000, [7], [1], 35))
theorem c_135w_s_0 : vOkm T0 (eN e_135 L_135w A_135 mu_135 n_135 B_135 none) 4 g_135w_s_0 := vOk_inI fun ρ η f0 f1 f2 f3 f4 f5 f6 f7 f8 f9 f10 f11 f12 f13 f14 f15 f16 => q_135w_0 (n0 := ρ 3) (n1 := ρ 2) (n2 := ρ 1) (n3 := ρ 0) (n4 := ρ 4) (n5 := ρ 5) (n6 := ρ 6) (n7 := ρ 7) (H0 := η 0) (H1 := η 1) f16 f15 f14 f13 f12 f11 f10 f9 f8 f7 f6 f5 f4 f3 f2 f1 f0
theorem q_135w_1 {n0 n1 n2 n3 n4 n5 n6 n7 n8 n9 : Int} {H0 H1 H2 : gH} (f0 : n0 ≤ 2147483647) (f1 : (-2147483648) ≤ n0) (f2 : n1 ≤ 2147483647) (f3 : (-2147483648) ≤ n1) (f4 : n2 ≤ 2147483647) (f5 : (-2147483648) ≤ n2) (f6 : n3 = 281) (f7 : hWt T0 H0 ∧ True) (f8 : n4 = 19) (f9 : hK H0 (n3).toNat = 9) (f10 : n4 = hV H0 (n3).toNat 1) (f11 : n5 ≤ 2147483647) (f12 : (-2147483648) ≤ n5) (f13 : (hLe T0 H0 H1 ∧ hFr s_58.2.2.2.2 H0 H1 ∧ ((0 : Int) = 0 → H1.length = H0.length) ∧ hWt T0 H1) ∧ (True ∧ nb_58 n5 n4 n1 n0 n2 H0 H1)) (f14 : n6 = (-1)) (f15 : n5 ≠ n6) (f16 : n7 = 282) (f17 : hK H1 (n3).toNat = 9) (f18 : n7 = hV H1 (n3).toNat 3) (f19 : n8 ≤ 2147483647) (f20 : (-2147483648) ≤ n8) (f21 : (hLe T0 H1 H2 ∧ hFr s_199k764.2.2.2.2 H1 H2 ∧ ((0 : Int) = 0 → H2.length = H1.length) ∧ hWt T0 H2) ∧ postb_199vk764 n8 n7 n5 H1 H2) (f22 : n8 = 0) (f23 : n9 = 0) : nb_135 n9 n3 n2 n1 n0 H0 H2 := by
  unfold nb_135
  intro km mt kr b1 b2 b3 b4 b5 P rb
  have qc := f13.2.2
  unfold nb_58 at qc
  obtain ⟨q1, q2, q3⟩ := qc km mt b1 b2 b3 b4 b5
  rw [← q1]
  have rc := f23
  have kr1 := (KR_le f13.1.1 kr)
  have qa := f21.2
  unfold postb_199vk764 at qa
  have qa := atQ_r (q := 282) (n := 60) qa f16 kr1.2.2
  rw [if_pos (by omega), show hV H1 282 = hV H0 282 from fRow f13.1.2.1 282 (by decide +kernel)] at qa
  have ra := RB_at rb (f := n5) (by omega) (by omega)
  rw [← qa] at ra
  exact .inr ⟨rc, fun w => (ra.mpr w.2) (by omega)⟩
def g_135w_s_1 : vG := ([(0, [9], [], 0), (30, [8], [], 0), (1199, [8, 7, 5], [1, 2], 0), (90, [8], [], -2147483648), (91, [8], [], 2147483647), (20, [7, 0], [1], 3), (23, [0], [1], 9), (0, [7], [], 282), (41, [5, 6], [], 0), (0, [6], [], -1), (1058, [5, 4, 2, 3, 1], [0, 1], 0), (90, [5], [], -2147483648), (91, [5], [], 2147483647), (20, [4, 0], [0], 1), (23, [0], [0], 9), (0, [4], [], 19), (6000, [0, 1, 2, 3], [0], 0), (0, [0], [], 281), (90, [1], [], -2147483648), (91, [1], [], 2147483647), (90, [2], [], -2147483648), (91, [2], [], 2147483647), (90, [3], [], -2147483648), (91, [3], [], 2147483647)], (3000, [9], [2], 35))
theorem c_135w_s_1 : vOkm T0 (eN e_135 L_135w A_135 mu_135 n_135 B_135 none) 4 g_135w_s_1 := vOk_inI fun ρ η f0 f1 f2 f3 f4 f5 f6 f7 f8 f9 f10 f11 f12 f13 f14 f15 f16 f17 f18 f19 f20 f21 f22 f23 => q_135w_1 (n0 := ρ 3) (n1 := ρ 2) (n2 := ρ 1) (n3 := ρ 0) (n4 := ρ 4) (n5 := ρ 5) (n6 := ρ 6) (n7 := ρ 7) (n8 := ρ 8) (n9 := ρ 9) (H0 := η 0) (H1 := η 1) (H2 := η 2) f23 f22 f21 f20 f19 f18 f17 f16 f15 f14 f13 f12 f11 f10 f9 f8 f7 f6 f5 f4 f3 f2 f1 f0
theorem q_135w_2 {n0 n1 n2 n3 n4 n5 n6 n7 n8 n9 : Int} {H0 H1 H2 : gH} (f0 : n0 ≤ 2147483647) (f1 : (-2147483648) ≤ n0) (f2 : n1 ≤ 2147483647) (f3 : (-2147483648) ≤ n1) (f4 : n2 ≤ 2147483647) (f5 : (-2147483648) ≤ n2) (f6 : n3 = 281) (f7 : hWt T0 H0 ∧ True) (f8 : n4 = 19) (f9 : hK H0 (n3).toNat = 9) (f10 : n4 = hV H0 (n3).toNat 1) (f11 : n5 ≤ 2147483647) (f12 : (-2147483648) ≤ n5) (f13 : (hLe T0 H0 H1 ∧ hFr s_58.2.2.2.2 H0 H1 ∧ ((0 : Int) = 0 → H1.length = H0.length) ∧ hWt T0 H1) ∧ (True ∧ nb_58 n5 n4 n1 n0 n2 H0 H1)) (f14 : n6 = (-1)) (f15 : n5 ≠ n6) (f16 : n7 = 282) (f17 : hK H1 (n3).toNat = 9) (f18 : n7 = hV H1 (n3).toNat 3) (f19 : n8 ≤ 2147483647) (f20 : (-2147483648) ≤ n8) (f21 : (hLe T0 H1 H2 ∧ hFr s_199k764.2.2.2.2 H1 H2 ∧ ((0 : Int) = 0 → H2.length = H1.length) ∧ hWt T0 H2) ∧ postb_199vk764 n8 n7 n5 H1 H2) (f22 : n8 ≠ 0) (f23 : n9 = 1) : nb_135 n9 n3 n2 n1 n0 H0 H2 := by
  unfold nb_135
  intro km mt kr b1 b2 b3 b4 b5 P rb
  have qc := f13.2.2
  unfold nb_58 at qc
  obtain ⟨q1, q2, q3⟩ := qc km mt b1 b2 b3 b4 b5
  rw [← q1]
  have rc := f23
  have kr1 := (KR_le f13.1.1 kr)
  have qa := f21.2
  unfold postb_199vk764 at qa
  have qa := atQ_r (q := 282) (n := 60) qa f16 kr1.2.2
  rw [if_pos (by omega), show hV H1 282 = hV H0 282 from fRow f13.1.2.1 282 (by decide +kernel)] at qa
  have ra := RB_at rb (f := n5) (by omega) (by omega)
  rw [← qa] at ra
  exact .inl ⟨rc, by omega, ra.mp (by omega)⟩
def g_135w_s_2 : vG := ([(0, [9], [], 1), (31, [8], [], 0), (1199, [8, 7, 5], [1, 2], 0), (90, [8], [], -2147483648), (91, [8], [], 2147483647), (20, [7, 0], [1], 3), (23, [0], [1], 9), (0, [7], [], 282), (41, [5, 6], [], 0), (0, [6], [], -1), (1058, [5, 4, 2, 3, 1], [0, 1], 0), (90, [5], [], -2147483648), (91, [5], [], 2147483647), (20, [4, 0], [0], 1), (23, [0], [0], 9), (0, [4], [], 19), (6000, [0, 1, 2, 3], [0], 0), (0, [0], [], 281), (90, [1], [], -2147483648), (91, [1], [], 2147483647), (90, [2], [], -2147483648), (91, [2], [], 2147483647), (90, [3], [], -2147483648), (91, [3], [], 2147483647)], (3000, [9], [2], 35))
theorem c_135w_s_2 : vOkm T0 (eN e_135 L_135w A_135 mu_135 n_135 B_135 none) 4 g_135w_s_2 := vOk_inI fun ρ η f0 f1 f2 f3 f4 f5 f6 f7 f8 f9 f10 f11 f12 f13 f14 f15 f16 f17 f18 f19 f20 f21 f22 f23 => q_135w_2 (n0 := ρ 3) (n1 := ρ 2) (n2 := ρ 1) (n3 := ρ 0) (n4 := ρ 4) (n5 := ρ 5) (n6 := ρ 6) (n7 := ρ 7) (n8 := ρ 8) (n9 := ρ 9) (H0 := η 0) (H1 := η 1) (H2 := η 2) f23 f22 f21 f20 f19 f18 f17 f16 f15 f14 f13 f12 f11 f10 f9 f8 f7 f6 f5 f4 f3 f2 f1 f0
def p_135w_s : List vG := [g_135w_s_0,
  g_135w_s_1,
  g_135w_s_2]
theorem r_135w_s : vCovBO (eR0 e_135 L_135 cs_135 2000) p_135w_s = true := by decide +kernel
theorem m_135w (d : Nat) : eC e_135w (d + 3) := eC_ref (e := e_135) (L := L_135) (L' := L_135w) (cs := cs_135) (n := 2000) (d := d + 2) (A := A_135) (μ := mu_135) (tp := true) (p0 := p_135_s) (p1 := p_135w_s) (N := n_135) (B := B_135) rfl ⟨m_58w d, ⟨m_199vk764 (d + 1), trivial⟩⟩ rfl (.inr pre0_ok) (by decide +kernel) (fun _ => post0_ok) r_135_s allN allN (sub1 ⟨⟨rfl, rfl, rfl, fun _ _ _ _ => trivial⟩, trivial⟩) r_135w_s (allC c_135w_s_0 (allC c_135w_s_1 (allC c_135w_s_2 allN))) allN
/- java/util/Arrays.fill ([II)V, more fully -/
def nb_331 (a0 a1 : Int) (h0 h : gH) : Prop := 0 ≤ a0 → ∀ i : Nat, (i : Int) < (hN h0 (a0).toNat : Int) → hV h (a0).toNat i = a1
def n_331 : List Int → gH → gH → Prop := fun xs h0 h => match xs with
  | [a0, a1] => nb_331 a0 a1 h0 h
  | _ => True
noncomputable def e_331w : vE := eV e_331k764 n_331
noncomputable def L_331w : List vE := []
def Bb_331_5 (a0 a1 x0 x1 x2 x3 : Int) (h0 h : gH) : Prop := x0 = a0 ∧ x1 = a1 ∧ 0 ≤ x2 ∧ x3 = (hN h0 (a0).toNat : Int) ∧ ∀ i : Nat, (i : Int) < x2 → hV h (a0).toNat i = a1
def B_331 : Int → List Int → gH → gH → Prop := fun c xs h0 h => match c.toNat with
  | 5 => (match xs with
    | [a0, a1, x0, x1, x2, x3] => Bb_331_5 a0 a1 x0 x1 x2 x3 h0 h
    | _ => False)
  | _ => True
theorem q_331w_0 {n0 n1 n2 n3 : Int} {H0 : gH} (f0 : n0 ≤ 2147483647) (f1 : (-2147483648) ≤ n0) (f2 : 0 ≤ n1) (f3 : hWt T0 H0 ∧ True) (f4 : n2 = 0) (f5 : n3 = (hN H0 (n1).toNat : Int)) : Bb_331_5 n1 n0 n1 n0 n2 n3 H0 H0 := by
  unfold Bb_331_5
  exact ⟨rfl, rfl, by omega, f5, fun i hi => by omega⟩
def g_331w_s_0 : vG := ([(21, [3, 0], [0], 0), (0, [2], [], 0), (6000, [0, 1], [0], 0), (51, [0], [], 0), (90, [1], [], -2147483648), (91, [1], [], 2147483647)], (4000, [0, 1, 2, 3], [0], 5))
theorem c_331w_s_0 : vOkm T0 (eN e_331k764 L_331w A_331k764 mu_331k764 n_331 B_331 none) 2 g_331w_s_0 := vOk_inI fun ρ η f0 f1 f2 f3 f4 f5 => q_331w_0 (n0 := ρ 1) (n1 := ρ 0) (n2 := ρ 2) (n3 := ρ 3) (H0 := η 0) f5 f4 f3 f2 f1 f0
def p_331w_s : List vG := [g_331w_s_0]
theorem r_331w_s : vCovBO (eR0 e_331k764 L_331k764 cs_331k764 2000) p_331w_s = true := by decide +kernel
theorem q_331w_1 {q0 : Nat} {n0 n1 n2 n3 n4 n5 : Int} {H0 H1 : gH} (f0 : n0 ≤ 2147483647) (f1 : (-2147483648) ≤ n0) (f2 : n1 ≤ 2147483647) (f3 : 0 ≤ n1) (f4 : n2 ≤ 2147483647) (f5 : (-2147483648) ≤ n2) (f6 : 0 ≤ n3) (f7 : n4 ≤ 2147483647) (f8 : (-2147483648) ≤ n4) (f9 : 0 ≤ n5) (f10 : (hLe T0 H0 H1 ∧ hFr s_331k764.2.2.2.2 H0 H1 ∧ hWt T0 H1) ∧ ((Ab_331k764_5 n5 n4 n3 n2 n1 n0 H0 H1 ∧ Bb_331_5 n5 n4 n3 n2 n1 n0 H0 H1) ∧ True) ∧ some q0 = some (mub_331k764_5 n5 n4 n3 n2 n1 n0 H0 H1)) (f11 : n0 ≤ n1) : nb_331 n5 n4 H0 H1 := by
  have gb := f10.2.1.1.2
  unfold Bb_331_5 at gb
  obtain ⟨e0, e1, e2, e3, e4⟩ := gb
  unfold nb_331
  exact fun p i hi => e4 i (by omega)
def g_331w_5_0 : vG := ([(43, [4, 5], [], 0), (5000, [0, 1, 2, 3, 4, 5], [0, 1], 5), (51, [0], [], 0), (90, [1], [], -2147483648), (91, [1], [], 2147483647), (51, [2], [], 0), (90, [3], [], -2147483648), (91, [3], [], 2147483647), (90, [4], [], 0), (91, [4], [], 2147483647), (90, [5], [], -2147483648), (91, [5], [], 2147483647)], (3000, [], [1], 20))
theorem c_331w_5_0 {q0 : Nat} : vOkm T0 (eN e_331k764 L_331w A_331k764 mu_331k764 n_331 B_331 (some q0)) 2 g_331w_5_0 := vOk_inI fun ρ η f0 f1 f2 f3 f4 f5 f6 f7 f8 f9 f10 f11 => q_331w_1 (q0 := q0) (n0 := ρ 5) (n1 := ρ 4) (n2 := ρ 3) (n3 := ρ 2) (n4 := ρ 1) (n5 := ρ 0) (H0 := η 0) (H1 := η 1) f11 f10 f9 f8 f7 f6 f5 f4 f3 f2 f1 f0
theorem q_331w_2 {q0 : Nat} {n0 n1 n2 n3 n4 n5 n6 : Int} {H0 H1 H2 : gH} (f0 : n0 ≤ 2147483647) (f1 : (-2147483648) ≤ n0) (f2 : n1 ≤ 2147483647) (f3 : 0 ≤ n1) (f4 : n2 ≤ 2147483647) (f5 : (-2147483648) ≤ n2) (f6 : 0 ≤ n3) (f7 : n4 ≤ 2147483647) (f8 : (-2147483648) ≤ n4) (f9 : 0 ≤ n5) (f10 : (hLe T0 H0 H1 ∧ hFr s_331k764.2.2.2.2 H0 H1 ∧ hWt T0 H1) ∧ ((Ab_331k764_5 n5 n4 n3 n2 n1 n0 H0 H1 ∧ Bb_331_5 n5 n4 n3 n2 n1 n0 H0 H1) ∧ True) ∧ some q0 = some (mub_331k764_5 n5 n4 n3 n2 n1 n0 H0 H1)) (f11 : n1 < n0) (f12 : hK H1 (n3).toNat = 764) (f13 : hUpd H2 H1 n3 n1 n2) (f14 : n6 = w32 (n1 + 1)) : Bb_331_5 n5 n4 n3 n2 n6 n0 H0 H2 := by
  have gb := f10.2.1.1.2
  unfold Bb_331_5 at gb
  obtain ⟨e0, e1, e2, e3, e4⟩ := gb
  have w14 := f14
  unfold w32 at w14
  have p0 : 0 ≤ n5 := by omega
  unfold Bb_331_5
  refine ⟨e0, e1, by omega, e3, fun i hi => ?_⟩
  rw [uRow f13 (n5).toNat (by omega), uF_at]
  by_cases c : (i : Int) = n1
  · rw [if_pos c]
    exact e1
  · rw [if_neg c]
    exact e4 i (by omega)
def g_331w_5_1 : vG := ([(10, [6, 4], [], 1), (80, [2, 4, 3], [2, 1], 0), (23, [2], [1], 764), (42, [4, 5], [], 0), (5000, [0, 1, 2, 3, 4, 5], [0, 1], 5), (51, [0], [], 0), (90, [1], [], -2147483648), (91, [1], [], 2147483647), (51, [2], [], 0), (90, [3], [], -2147483648), (91, [3], [], 2147483647), (90, [4], [], 0), (91, [4], [], 2147483647), (90, [5], [], -2147483648), (91, [5], [], 2147483647)], (4000, [2, 3, 6, 5], [2], 5))
theorem c_331w_5_1 {q0 : Nat} : vOkm T0 (eN e_331k764 L_331w A_331k764 mu_331k764 n_331 B_331 (some q0)) 2 g_331w_5_1 := vOk_inI fun ρ η f0 f1 f2 f3 f4 f5 f6 f7 f8 f9 f10 f11 f12 f13 f14 => q_331w_2 (q0 := q0) (n0 := ρ 5) (n1 := ρ 4) (n2 := ρ 3) (n3 := ρ 2) (n4 := ρ 1) (n5 := ρ 0) (n6 := ρ 6) (H0 := η 0) (H1 := η 1) (H2 := η 2) f14 f13 f12 f11 f10 f9 f8 f7 f6 f5 f4 f3 f2 f1 f0
def p_331w_5 : List vG := [g_331w_5_0,
  g_331w_5_1]
theorem r_331w_5 : vCovBO (eRc e_331k764 L_331k764 cs_331k764 2000 (5, [(0, (3, 764, -1, 0)), (1, (0, -2147483648, 2147483647, 0)), (2, (0, 0, 2147483647, 0)), (3, (0, -2147483648, 2147483647, 0))])) p_331w_5 = true := by decide +kernel
theorem m_331w (d : Nat) : eC e_331w (d + 1) := eC_ref (e := e_331k764) (L := L_331k764) (L' := L_331w) (cs := cs_331k764) (n := 2000) (d := d + 0) (A := A_331k764) (μ := mu_331k764) (tp := true) (p0 := p_331k764_s) (p1 := p_331w_s) (N := n_331) (B := B_331) rfl trivial rfl (.inr pre0_ok) (by decide +kernel) (fun _ => post0_ok) r_331k764_s (allC c_331k764_s_0 allN) (allC (.inl ⟨p_331k764_5, r_331k764_5, fun q0 => (allC c_331k764_5_0 (allC c_331k764_5_1 (allC c_331k764_5_2 (allC c_331k764_5_3 allN))))⟩) allN) trivial r_331w_s (allC c_331w_s_0 allN) (allC ⟨p_331w_5, r_331w_5, fun q0 => (allC c_331w_5_0 (allC c_331w_5_1 allN))⟩ allN)
/- MixStage.clear ([II)V, more fully -/
def nb_203 (a0 a1 : Int) (h0 h : gH) : Prop := 0 ≤ a0 → ∀ i : Nat, (i : Int) < (hN h0 (a0).toNat : Int) → hV h (a0).toNat i = a1
def n_203 : List Int → gH → gH → Prop := fun xs h0 h => match xs with
  | [a0, a1] => nb_203 a0 a1 h0 h
  | _ => True
noncomputable def e_203w : vE := eV e_203k764 n_203
noncomputable def L_203w : List vE := [e_331w]
def B_203 : Int → List Int → gH → gH → Prop := fun c xs h0 h => True
theorem q_203w_0 {n0 n1 : Int} {H0 : gH} (f0 : n0 ≤ 2147483647) (f1 : (-2147483648) ≤ n0) (f2 : hWt T0 H0 ∧ True) (f3 : n1 = -1) : nb_203 n1 n0 H0 H0 := by
  unfold nb_203
  intro p
  exfalso
  omega
def g_203w_s_0 : vG := ([(50, [0], [], 0), (6000, [0, 1], [0], 0), (90, [1], [], -2147483648), (91, [1], [], 2147483647)], (3000, [], [0], 9))
theorem c_203w_s_0 : vOkm T0 (eN e_203k764 L_203w A_203k764 mu_203k764 n_203 B_203 none) 2 g_203w_s_0 := vOk_inI fun ρ η f0 f1 f2 f3 => q_203w_0 (n0 := ρ 1) (n1 := ρ 0) (H0 := η 0) f3 f2 f1 f0
theorem q_203w_1 {n0 n1 : Int} {H0 H1 : gH} (f0 : n0 ≤ 2147483647) (f1 : (-2147483648) ≤ n0) (f2 : hWt T0 H0 ∧ True) (f3 : 0 ≤ n1) (f4 : (hLe T0 H0 H1 ∧ hFr s_331k764.2.2.2.2 H0 H1 ∧ ((0 : Int) = 0 → H1.length = H0.length) ∧ hWt T0 H1) ∧ (True ∧ nb_331 n1 n0 H0 H1)) : nb_203 n1 n0 H0 H1 := by
  unfold nb_203
  intro p
  have q := f4.2.2
  unfold nb_331 at q
  exact q p
def g_203w_s_1 : vG := ([(1331, [0, 1], [0, 1], 0), (51, [0], [], 0), (6000, [0, 1], [0], 0), (90, [1], [], -2147483648), (91, [1], [], 2147483647)], (3000, [], [1], 9))
theorem c_203w_s_1 : vOkm T0 (eN e_203k764 L_203w A_203k764 mu_203k764 n_203 B_203 none) 2 g_203w_s_1 := vOk_inI fun ρ η f0 f1 f2 f3 f4 => q_203w_1 (n0 := ρ 1) (n1 := ρ 0) (H0 := η 0) (H1 := η 1) f4 f3 f2 f1 f0
def p_203w_s : List vG := [g_203w_s_0,
  g_203w_s_1]
theorem r_203w_s : vCovBO (eR0 e_203k764 L_203k764 cs_203k764 2000) p_203w_s = true := by decide +kernel
theorem m_203w (d : Nat) : eC e_203w (d + 2) := eC_ref (e := e_203k764) (L := L_203k764) (L' := L_203w) (cs := cs_203k764) (n := 2000) (d := d + 1) (A := A_203k764) (μ := mu_203k764) (tp := true) (p0 := p_203k764_s) (p1 := p_203w_s) (N := n_203) (B := B_203) rfl ⟨m_331w d, trivial⟩ rfl (.inr pre0_ok) (by decide +kernel) (fun _ => post0_ok) r_203k764_s allN allN (sub1 trivial) r_203w_s (allC c_203w_s_0 (allC c_203w_s_1 allN)) allN
/- Tracer.framesOfMusic (LMixStage$Sheet;II)I, more fully -/
def nb_143 (r a0 a1 a2 a3 : Int) (h0 h : gH) : Prop := ∀ (E : SE) (D : List CR), SNC h0 E → K25 h0 → KR h0 → KM h0 → MT (mC h0) → SHL h0 (a1).toNat D → 0 ≤ a1 → (∀ c, c ∈ (D.map (lrW (hV h0 25))) → FBc c) → 0 ≤ a2 → a2 < E.1 → E.2.1 (a2).toNat = 3 → 0 ≤ hV h0 (a1).toNat 0 → hV h0 (a1).toNat 0 ≤ a3 → a3 ≤ 5 → r = SNDf E (D.map (lrW (hV h0 25))) a2 (hV h0 20 (hV h0 (a1).toNat 0).toNat) (hV h0 22) (hV h0 (a1).toNat 0) a3 (hV h0 20 (a3).toNat)
def n_143 : List Int → gH → gH → Prop := fun xs h0 h => match xs with
  | [r, a0, a1, a2, a3] => nb_143 r a0 a1 a2 a3 h0 h
  | _ => True
noncomputable def e_143w : vE := eV e_143 n_143
noncomputable def L_143w : List vE := [e_53w, e_115y, e_135w, e_141w, e_144w, e_203w]
def Bb_143_11 (a0 a1 a2 a3 x0 x1 x2 x3 x4 : Int) (h0 h : gH) : Prop := ∀ (E : SE) (D : List CR), SNC h0 E → K25 h0 → KR h0 → KM h0 → MT (mC h0) → SHL h0 (a1).toNat D → 0 ≤ a1 → (∀ c, c ∈ (D.map (lrW (hV h0 25))) → FBc c) → 0 ≤ a2 → a2 < E.1 → E.2.1 (a2).toNat = 3 → 0 ≤ hV h0 (a1).toNat 0 → hV h0 (a1).toNat 0 ≤ a3 → a3 ≤ 5 → x1 = a1 ∧ x2 = a2 ∧ x3 = a3 ∧ 0 ≤ x4 ∧ x4 ≤ (D.length : Int) ∧ RB (hV h 282) (HRp E (D.map (lrW (hV h0 25))) a2 (4 * (hV h0 20 (hV h0 (a1).toNat 0).toNat)) x4)
def Bb_143_70 (a0 a1 a2 a3 x0 x1 x2 x3 x4 x5 x6 : Int) (h0 h : gH) : Prop := ∀ (E : SE) (D : List CR), SNC h0 E → K25 h0 → KR h0 → KM h0 → MT (mC h0) → SHL h0 (a1).toNat D → 0 ≤ a1 → (∀ c, c ∈ (D.map (lrW (hV h0 25))) → FBc c) → 0 ≤ a2 → a2 < E.1 → E.2.1 (a2).toNat = 3 → 0 ≤ hV h0 (a1).toNat 0 → hV h0 (a1).toNat 0 ≤ a3 → a3 ≤ 5 → x1 = a1 ∧ x2 = a2 ∧ x3 = a3 ∧ x4 = cntE (HRp E (D.map (lrW (hV h0 25))) a2 (4 * (hV h0 20 (hV h0 (a1).toNat 0).toNat)) (D.length : Int)) (fun g => pFrom (hV h0 22) (hV h0 (a1).toNat 0) (a3 - (hV h0 (a1).toNat 0)).toNat g) (x6).toNat ∧ x5 = hV h0 20 (a3).toNat ∧ 0 ≤ x6 ∧ x6 ≤ x5 ∧ RB (hV h 282) (HRp E (D.map (lrW (hV h0 25))) a2 (4 * (hV h0 20 (hV h0 (a1).toNat 0).toNat)) (D.length : Int))
def B_143 : Int → List Int → gH → gH → Prop := fun c xs h0 h => match c.toNat with
  | 11 => (match xs with
    | [a0, a1, a2, a3, x0, x1, x2, x3, x4] => Bb_143_11 a0 a1 a2 a3 x0 x1 x2 x3 x4 h0 h
    | _ => False)
  | 70 => (match xs with
    | [a0, a1, a2, a3, x0, x1, x2, x3, x4, x5, x6] => Bb_143_70 a0 a1 a2 a3 x0 x1 x2 x3 x4 x5 x6 h0 h
    | _ => False)
  | _ => True
theorem q_143w_0 {n0 n1 n2 n3 n4 n5 n6 : Int} {H0 H1 : gH} (f0 : n0 ≤ 2147483647) (f1 : (-2147483648) ≤ n0) (f2 : n1 ≤ 2147483647) (f3 : (-2147483648) ≤ n1) (f4 : 0 ≤ n2) (f5 : n3 = 281) (f6 : hWt T0 H0 ∧ True) (f7 : n4 = 282) (f8 : hK H0 (n3).toNat = 9) (f9 : n4 = hV H0 (n3).toNat 3) (f10 : n5 = 0) (f11 : (hLe T0 H0 H1 ∧ hFr s_203k764.2.2.2.2 H0 H1 ∧ ((0 : Int) = 0 → H1.length = H0.length) ∧ hWt T0 H1) ∧ (True ∧ nb_203 n4 n5 H0 H1)) (f12 : n6 = 0) : Bb_143_11 n3 n2 n1 n0 n3 n2 n1 n0 n6 H0 H1 := by
  unfold Bb_143_11
  intro E D z k25 kr km mt sl p1 fb q0 q1 k3 d0 d1 d5
  have q := f11.2.2
  unfold nb_203 at q
  rw [f7, f10] at q
  have h60 := kr.2.2
  refine ⟨rfl, rfl, rfl, by omega, by omega, RB_0 (fun f hf => q (by decide) f (by show (f : Int) < (hN H0 282 : Int); omega)) (fun f => HR_0 (by omega) f)⟩
def g_143w_s_0 : vG := ([(0, [6], [], 0), (1203, [4, 5], [0, 1], 0), (0, [5], [], 0), (20, [4, 0], [0], 3), (23, [0], [0], 9), (0, [4], [], 282), (6000, [0, 1, 2, 3], [0], 0), (0, [0], [], 281), (51, [1], [], 0), (90, [2], [], -2147483648), (91, [2], [], 2147483647), (90, [3], [], -2147483648), (91, [3], [], 2147483647)], (4000, [0, 1, 2, 3, 6], [1], 11))
theorem c_143w_s_0 : vOkm T0 (eN e_143 L_143w A_143 mu_143 n_143 B_143 none) 4 g_143w_s_0 := vOk_inI fun ρ η f0 f1 f2 f3 f4 f5 f6 f7 f8 f9 f10 f11 f12 => q_143w_0 (n0 := ρ 3) (n1 := ρ 2) (n2 := ρ 1) (n3 := ρ 0) (n4 := ρ 4) (n5 := ρ 5) (n6 := ρ 6) (H0 := η 0) (H1 := η 1) f12 f11 f10 f9 f8 f7 f6 f5 f4 f3 f2 f1 f0
def p_143w_s : List vG := [g_143w_s_0]
theorem r_143w_s : vCovBO (eR0 e_143 L_143 cs_143 2000) p_143w_s = true := by decide +kernel
theorem q_143w_1 {q0 : Nat} {n0 n1 n2 n3 n4 n5 n6 n7 n8 n9 n10 n11 n12 n13 : Int} {H0 H1 H2 : gH} (f0 : n0 ≤ 2147483647) (f1 : (-2147483648) ≤ n0) (f2 : n1 ≤ 2147483647) (f3 : (-2147483648) ≤ n1) (f4 : n2 ≤ 2147483647) (f5 : (-2147483648) ≤ n2) (f6 : 0 ≤ n3) (f7 : n4 = 281) (f8 : n5 ≤ 2147483647) (f9 : (-2147483648) ≤ n5) (f10 : n6 ≤ 2147483647) (f11 : (-2147483648) ≤ n6) (f12 : 0 ≤ n7) (f13 : n8 = 281) (f14 : (hLe T0 H0 H1 ∧ hFr s_143.2.2.2.2 H0 H1 ∧ hWt T0 H1) ∧ ((True ∧ Bb_143_11 n8 n7 n6 n5 n4 n3 n2 n1 n0 H0 H1) ∧ True) ∧ some q0 = some (mub_143_11 n8 n7 n6 n5 n4 n3 n2 n1 n0 H0 H1)) (f15 : n9 ≤ 40) (f16 : 0 ≤ n9) (f17 : hK H1 (n3).toNat = 6) (f18 : n9 = hV H1 (n3).toNat 2) (f19 : n9 ≤ n0) (f20 : n10 = 0) (f21 : n11 = 19) (f22 : hK H1 (n4).toNat = 9) (f23 : n11 = hV H1 (n4).toNat 1) (f24 : n12 ≤ 2147483647) (f25 : (-2147483648) ≤ n12) (f26 : (hLe T0 H1 H2 ∧ hFr s_53.2.2.2.2 H1 H2 ∧ ((0 : Int) = 0 → H2.length = H1.length) ∧ hWt T0 H2) ∧ (True ∧ nb_53 n12 n11 n1 H1 H2)) (f27 : n13 = 0) : Bb_143_70 n8 n7 n6 n5 n4 n3 n2 n1 n10 n12 n13 H0 H2 := by
  unfold Bb_143_70
  intro E D z k25 kr km mt sl p1 fb q0 q1 k3 d0 d1 d5
  have gb := f14.2.1.1.2
  unfold Bb_143_11 at gb
  have gb := gb E D z k25 kr km mt sl p1 fb q0 q1 k3 d0 d1 d5
  have m20 := (MTc mt).2.2.2.1
  have z1 := SNC_fr f14.1.1 f14.1.2.1 (by decide +kernel) z
  have sl1 : SHL H1 (n7).toNat D := SHL_keep sl (SHo_fr f14.1.1 f14.1.2.1 (by decide +kernel)) (RWo_fr f14.1.1 f14.1.2.1 (by decide +kernel)) (CUo_fr f14.1.1 f14.1.2.1 (by decide +kernel))
  have kr1 := KR_le f14.1.1 kr
  have k251 := K25_le f14.1.1 k25
  have km1 := KM_le f14.1.1 km
  have mc1 := mC_fr f14.1.2.1 (by decide +kernel)
  have mt1 : MT (mC H1) := by rw [mc1]; exact mt
  have e25 : hV H1 25 = hV H0 25 := fRow f14.1.2.1 25 (by decide +kernel)
  have e20 : hV H1 20 = hV H0 20 := fRow f14.1.2.1 20 (by decide +kernel)
  have e22 : hV H1 22 = hV H0 22 := fRow f14.1.2.1 22 (by decide +kernel)
  have es0 : hV H1 (n7).toNat 0 = hV H0 (n7).toNat 0 := f14.1.2.1.2.2 _ 6 sl.1 rfl 0 (by decide +kernel)
  have ll : ((D.map (lrW (hV H0 25)))).length = D.length := List.length_map _
  obtain ⟨e1, e2, e3, e4, e5, rb⟩ := gb
  have el := sl1.2.2.2.1
  have x2 : n9 = (D.length : Int) := by
    have w := f18
    rw [e1] at w
    exact w.trans el
  have qz := f26.2.2
  unfold nb_53 at qz
  have qz := qz km1 (by omega) (by omega)
  rw [e3, e20] at qz
  rw [show n0 = (D.length : Int) by omega] at rb
  have b := m20 (n5).toNat
  refine ⟨e1, e2, e3, ?_, qz, by omega, by omega, ?_⟩
  · rw [show (n13).toNat = 0 by omega]
    show _ = (0 : Int)
    omega
  · rw [show hV H2 282 = hV H1 282 from fRow f26.1.2.1 282 (by decide +kernel)]
    exact rb
def g_143w_11_0 : vG := ([(0, [13], [], 0), (1053, [12, 11, 7], [1, 2], 0), (90, [12], [], -2147483648), (91, [12], [], 2147483647), (20, [11, 4], [1], 1), (23, [4], [1], 9), (0, [11], [], 19), (0, [10], [], 0), (43, [8, 9], [], 0), (20, [9, 5], [1], 2), (23, [5], [1], 6), (90, [9], [], 0), (91, [9], [], 40), (5000, [0, 1, 2, 3, 4, 5, 6, 7, 8], [0, 1], 11), (0, [0], [], 281), (51, [1], [], 0), (90, [2], [], -2147483648), (91, [2], [], 2147483647), (90, [3], [], -2147483648), (91, [3], [], 2147483647), (0, [4], [], 281), (51, [5], [], 0), (90, [6], [], -2147483648), (91, [6], [], 2147483647), (90, [7], [], -2147483648), (91, [7], [], 2147483647), (90, [8], [], -2147483648), (91, [8], [], 2147483647)], (4000, [4, 5, 6, 7, 10, 12, 13], [2], 70))
theorem c_143w_11_0 {q0 : Nat} : vOkm T0 (eN e_143 L_143w A_143 mu_143 n_143 B_143 (some q0)) 4 g_143w_11_0 := vOk_inI fun ρ η f0 f1 f2 f3 f4 f5 f6 f7 f8 f9 f10 f11 f12 f13 f14 f15 f16 f17 f18 f19 f20 f21 f22 f23 f24 f25 f26 f27 => q_143w_1 (q0 := q0) (n0 := ρ 8) (n1 := ρ 7) (n2 := ρ 6) (n3 := ρ 5) (n4 := ρ 4) (n5 := ρ 3) (n6 := ρ 2) (n7 := ρ 1) (n8 := ρ 0) (n9 := ρ 9) (n10 := ρ 10) (n11 := ρ 11) (n12 := ρ 12) (n13 := ρ 13) (H0 := η 0) (H1 := η 1) (H2 := η 2) f27 f26 f25 f24 f23 f22 f21 f20 f19 f18 f17 f16 f15 f14 f13 f12 f11 f10 f9 f8 f7 f6 f5 f4 f3 f2 f1 f0
theorem q_143w_2 {q0 : Nat} {n0 n1 n2 n3 n4 n5 n6 n7 n8 n9 n10 n11 n12 : Int} {H0 H1 H2 H3 : gH} (f0 : n0 ≤ 2147483647) (f1 : (-2147483648) ≤ n0) (f2 : n1 ≤ 2147483647) (f3 : (-2147483648) ≤ n1) (f4 : n2 ≤ 2147483647) (f5 : (-2147483648) ≤ n2) (f6 : 0 ≤ n3) (f7 : n4 = 281) (f8 : n5 ≤ 2147483647) (f9 : (-2147483648) ≤ n5) (f10 : n6 ≤ 2147483647) (f11 : (-2147483648) ≤ n6) (f12 : 0 ≤ n7) (f13 : n8 = 281) (f14 : (hLe T0 H0 H1 ∧ hFr s_143.2.2.2.2 H0 H1 ∧ hWt T0 H1) ∧ ((True ∧ Bb_143_11 n8 n7 n6 n5 n4 n3 n2 n1 n0 H0 H1) ∧ True) ∧ some q0 = some (mub_143_11 n8 n7 n6 n5 n4 n3 n2 n1 n0 H0 H1)) (f15 : n9 ≤ 40) (f16 : 0 ≤ n9) (f17 : hK H1 (n3).toNat = 6) (f18 : n9 = hV H1 (n3).toNat 2) (f19 : n0 < n9) (f20 : (hLe T0 H1 H2 ∧ hFr s_115.2.2.2.2 H1 H2 ∧ ((0 : Int) = 0 → H2.length = H1.length) ∧ hWt T0 H2) ∧ postb_115y n10 n3 n0 H1 H2) (f21 : n11 ≤ 1) (f22 : 0 ≤ n11) (f23 : (hLe T0 H2 H3 ∧ hFr s_141.2.2.2.2 H2 H3 ∧ ((0 : Int) = 0 → H3.length = H2.length) ∧ hWt T0 H3) ∧ (postb_141 n11 n4 n10 n2 H2 H3 ∧ nb_141 n11 n4 n10 n2 H2 H3)) (f24 : n11 = 0) (f25 : n12 = w32 (n0 + 1)) : Bb_143_11 n8 n7 n6 n5 n4 n3 n2 n1 n12 H0 H3 := by
  unfold Bb_143_11
  intro E D z k25 kr km mt sl p1 fb q0 q1 k3 d0 d1 d5
  have gb := f14.2.1.1.2
  unfold Bb_143_11 at gb
  have gb := gb E D z k25 kr km mt sl p1 fb q0 q1 k3 d0 d1 d5
  have m20 := (MTc mt).2.2.2.1
  have z1 := SNC_fr f14.1.1 f14.1.2.1 (by decide +kernel) z
  have sl1 : SHL H1 (n7).toNat D := SHL_keep sl (SHo_fr f14.1.1 f14.1.2.1 (by decide +kernel)) (RWo_fr f14.1.1 f14.1.2.1 (by decide +kernel)) (CUo_fr f14.1.1 f14.1.2.1 (by decide +kernel))
  have kr1 := KR_le f14.1.1 kr
  have k251 := K25_le f14.1.1 k25
  have km1 := KM_le f14.1.1 km
  have mc1 := mC_fr f14.1.2.1 (by decide +kernel)
  have mt1 : MT (mC H1) := by rw [mc1]; exact mt
  have e25 : hV H1 25 = hV H0 25 := fRow f14.1.2.1 25 (by decide +kernel)
  have e20 : hV H1 20 = hV H0 20 := fRow f14.1.2.1 20 (by decide +kernel)
  have e22 : hV H1 22 = hV H0 22 := fRow f14.1.2.1 22 (by decide +kernel)
  have es0 : hV H1 (n7).toNat 0 = hV H0 (n7).toNat 0 := f14.1.2.1.2.2 _ 6 sl.1 rfl 0 (by decide +kernel)
  have ll : ((D.map (lrW (hV H0 25)))).length = D.length := List.length_map _
  obtain ⟨e1, e2, e3, e4, e5, rb⟩ := gb
  have el := sl1.2.2.2.1
  have x2 : n9 = (D.length : Int) := by
    have w := f18
    rw [e1] at w
    exact w.trans el
  have e40 := sl1.2.2.2.2.1
  obtain ⟨p, hp⟩ : ∃ p, D[(n0).toNat]? = some p := ⟨_, List.getElem?_eq_getElem (by omega)⟩
  obtain ⟨y1, y2, y3⟩ := sl1.2.2.2.2.2.2 _ p hp
  have v := f20.2
  unfold postb_115y at v
  rw [e1] at v
  have u := v.1 (by omega) (by rw [el]; omega) (by omega)
  rw [sl1.2.1, show (((n7).toNat : Nat) : Int) + 1 = (((n7).toNat + 1 : Nat) : Int) by omega, Int.toNat_natCast] at u
  rw [← u] at y1 y2 y3
  have rl : recC H2 (n10).toNat = p := (recC_eq (fr1 f20.1.2.1 (by decide +kernel) y2)).trans y3
  have c25 : hV H2 25 = hV H0 25 := (fRow f20.1.2.1 25 (by decide +kernel)).trans e25
  have hL : ((D.map (lrW (hV H0 25))))[(n0).toNat]? = some (lrW (hV H0 25) p) := by
    rw [List.getElem?_map, hp]
    rfl
  have fbp := fb _ (List.mem_of_getElem? hL)
  have ql := f23.2.2
  unfold nb_141 at ql
  have ql := ql E (SNC_fr f20.1.1 f20.1.2.1 (by decide +kernel) z1) (by omega) (by omega) (by rw [e2]; exact k3) (by omega) (kLe f20.1.1 y2 rfl)
  rw [rl, c25, e2] at ql
  have wn := f25
  unfold w32 at wn
  have no := (ql.resolve_left (fun w => by have := w.1; omega)).2
  refine ⟨e1, e2, e3, by omega, by omega, ?_⟩
  rw [show hV H3 282 = hV H1 282 from (fRow f23.1.2.1 282 (by decide +kernel)).trans (fRow f20.1.2.1 282 (by decide +kernel))]
  exact RB_iff rb fun f => HR_skip hL no e4 (by omega) f
def g_143w_11_1 : vG := ([(10, [12, 8], [], 1), (30, [11], [], 0), (1141, [11, 4, 10, 6], [2, 3], 0), (90, [11], [], 0), (91, [11], [], 1), (1115, [10, 5, 8], [1, 2], 0), (42, [8, 9], [], 0), (20, [9, 5], [1], 2), (23, [5], [1], 6), (90, [9], [], 0), (91, [9], [], 40), (5000, [0, 1, 2, 3, 4, 5, 6, 7, 8], [0, 1], 11), (0, [0], [], 281), (51, [1], [], 0), (90, [2], [], -2147483648), (91, [2], [], 2147483647), (90, [3], [], -2147483648), (91, [3], [], 2147483647), (0, [4], [], 281), (51, [5], [], 0), (90, [6], [], -2147483648), (91, [6], [], 2147483647), (90, [7], [], -2147483648), (91, [7], [], 2147483647), (90, [8], [], -2147483648), (91, [8], [], 2147483647)], (4000, [4, 5, 6, 7, 12], [3], 11))
theorem c_143w_11_1 {q0 : Nat} : vOkm T0 (eN e_143 L_143w A_143 mu_143 n_143 B_143 (some q0)) 4 g_143w_11_1 := vOk_inI fun ρ η f0 f1 f2 f3 f4 f5 f6 f7 f8 f9 f10 f11 f12 f13 f14 f15 f16 f17 f18 f19 f20 f21 f22 f23 f24 f25 => q_143w_2 (q0 := q0) (n0 := ρ 8) (n1 := ρ 7) (n2 := ρ 6) (n3 := ρ 5) (n4 := ρ 4) (n5 := ρ 3) (n6 := ρ 2) (n7 := ρ 1) (n8 := ρ 0) (n9 := ρ 9) (n10 := ρ 10) (n11 := ρ 11) (n12 := ρ 12) (H0 := η 0) (H1 := η 1) (H2 := η 2) (H3 := η 3) f25 f24 f23 f22 f21 f20 f19 f18 f17 f16 f15 f14 f13 f12 f11 f10 f9 f8 f7 f6 f5 f4 f3 f2 f1 f0
theorem q_143w_3 {q0 : Nat} {n0 n1 n2 n3 n4 n5 n6 n7 n8 n9 n10 n11 n12 n13 : Int} {H0 H1 H2 H3 H4 : gH} (f0 : n0 ≤ 2147483647) (f1 : (-2147483648) ≤ n0) (f2 : n1 ≤ 2147483647) (f3 : (-2147483648) ≤ n1) (f4 : n2 ≤ 2147483647) (f5 : (-2147483648) ≤ n2) (f6 : 0 ≤ n3) (f7 : n4 = 281) (f8 : n5 ≤ 2147483647) (f9 : (-2147483648) ≤ n5) (f10 : n6 ≤ 2147483647) (f11 : (-2147483648) ≤ n6) (f12 : 0 ≤ n7) (f13 : n8 = 281) (f14 : (hLe T0 H0 H1 ∧ hFr s_143.2.2.2.2 H0 H1 ∧ hWt T0 H1) ∧ ((True ∧ Bb_143_11 n8 n7 n6 n5 n4 n3 n2 n1 n0 H0 H1) ∧ True) ∧ some q0 = some (mub_143_11 n8 n7 n6 n5 n4 n3 n2 n1 n0 H0 H1)) (f15 : n9 ≤ 40) (f16 : 0 ≤ n9) (f17 : hK H1 (n3).toNat = 6) (f18 : n9 = hV H1 (n3).toNat 2) (f19 : n0 < n9) (f20 : (hLe T0 H1 H2 ∧ hFr s_115.2.2.2.2 H1 H2 ∧ ((0 : Int) = 0 → H2.length = H1.length) ∧ hWt T0 H2) ∧ postb_115y n10 n3 n0 H1 H2) (f21 : n11 ≤ 1) (f22 : 0 ≤ n11) (f23 : (hLe T0 H2 H3 ∧ hFr s_141.2.2.2.2 H2 H3 ∧ ((0 : Int) = 0 → H3.length = H2.length) ∧ hWt T0 H3) ∧ (postb_141 n11 n4 n10 n2 H2 H3 ∧ nb_141 n11 n4 n10 n2 H2 H3)) (f24 : n11 ≠ 0) (f25 : n12 ≤ 2147483647) (f26 : (-2147483648) ≤ n12) (f27 : hK H3 (n3).toNat = 6) (f28 : n12 = hV H3 (n3).toNat 0) (f29 : (hLe T0 H3 H4 ∧ hFr s_144.2.2.2.2 H3 H4 ∧ ((0 : Int) = 0 → H4.length = H3.length) ∧ hWt T0 H4) ∧ (True ∧ nb_144 n4 n12 n10 H3 H4)) (f30 : n13 = w32 (n0 + 1)) : Bb_143_11 n8 n7 n6 n5 n4 n3 n2 n1 n13 H0 H4 := by
  unfold Bb_143_11
  intro E D z k25 kr km mt sl p1 fb q0 q1 k3 d0 d1 d5
  have gb := f14.2.1.1.2
  unfold Bb_143_11 at gb
  have gb := gb E D z k25 kr km mt sl p1 fb q0 q1 k3 d0 d1 d5
  have m20 := (MTc mt).2.2.2.1
  have z1 := SNC_fr f14.1.1 f14.1.2.1 (by decide +kernel) z
  have sl1 : SHL H1 (n7).toNat D := SHL_keep sl (SHo_fr f14.1.1 f14.1.2.1 (by decide +kernel)) (RWo_fr f14.1.1 f14.1.2.1 (by decide +kernel)) (CUo_fr f14.1.1 f14.1.2.1 (by decide +kernel))
  have kr1 := KR_le f14.1.1 kr
  have k251 := K25_le f14.1.1 k25
  have km1 := KM_le f14.1.1 km
  have mc1 := mC_fr f14.1.2.1 (by decide +kernel)
  have mt1 : MT (mC H1) := by rw [mc1]; exact mt
  have e25 : hV H1 25 = hV H0 25 := fRow f14.1.2.1 25 (by decide +kernel)
  have e20 : hV H1 20 = hV H0 20 := fRow f14.1.2.1 20 (by decide +kernel)
  have e22 : hV H1 22 = hV H0 22 := fRow f14.1.2.1 22 (by decide +kernel)
  have es0 : hV H1 (n7).toNat 0 = hV H0 (n7).toNat 0 := f14.1.2.1.2.2 _ 6 sl.1 rfl 0 (by decide +kernel)
  have ll : ((D.map (lrW (hV H0 25)))).length = D.length := List.length_map _
  obtain ⟨e1, e2, e3, e4, e5, rb⟩ := gb
  have el := sl1.2.2.2.1
  have x2 : n9 = (D.length : Int) := by
    have w := f18
    rw [e1] at w
    exact w.trans el
  have e40 := sl1.2.2.2.2.1
  obtain ⟨p, hp⟩ : ∃ p, D[(n0).toNat]? = some p := ⟨_, List.getElem?_eq_getElem (by omega)⟩
  obtain ⟨y1, y2, y3⟩ := sl1.2.2.2.2.2.2 _ p hp
  have v := f20.2
  unfold postb_115y at v
  rw [e1] at v
  have u := v.1 (by omega) (by rw [el]; omega) (by omega)
  rw [sl1.2.1, show (((n7).toNat : Nat) : Int) + 1 = (((n7).toNat + 1 : Nat) : Int) by omega, Int.toNat_natCast] at u
  rw [← u] at y1 y2 y3
  have rl : recC H2 (n10).toNat = p := (recC_eq (fr1 f20.1.2.1 (by decide +kernel) y2)).trans y3
  have c25 : hV H2 25 = hV H0 25 := (fRow f20.1.2.1 25 (by decide +kernel)).trans e25
  have hL : ((D.map (lrW (hV H0 25))))[(n0).toNat]? = some (lrW (hV H0 25) p) := by
    rw [List.getElem?_map, hp]
    rfl
  have fbp := fb _ (List.mem_of_getElem? hL)
  have ql := f23.2.2
  unfold nb_141 at ql
  have ql := ql E (SNC_fr f20.1.1 f20.1.2.1 (by decide +kernel) z1) (by omega) (by omega) (by rw [e2]; exact k3) (by omega) (kLe f20.1.1 y2 rfl)
  rw [rl, c25, e2] at ql
  have wn := f30
  unfold w32 at wn
  have yes := (ql.resolve_right (fun w => by have := w.1; omega)).2
  have rg : recC H3 (n10).toNat = p := ((recC_eq (fr1 f23.1.2.1 (by decide +kernel) (kLe f20.1.1 y2 rfl))).trans (recC_eq (fr1 f20.1.2.1 (by decide +kernel) y2))).trans y3
  have d25 : hV H3 25 = hV H0 25 := ((fRow f23.1.2.1 25 (by decide +kernel)).trans (fRow f20.1.2.1 25 (by decide +kernel))).trans e25
  have d20 : hV H3 20 = hV H0 20 := ((fRow f23.1.2.1 20 (by decide +kernel)).trans (fRow f20.1.2.1 20 (by decide +kernel))).trans e20
  have pk : p.1 = 0 := Classical.byContradiction fun n => by
    have w := yes.1
    rw [lrW_n n] at w
    exact absurd w (by decide)
  have k0 : hV H3 (n10).toNat 0 = 0 := by
    have w : (recC H3 (n10).toNat).1 = 0 := by rw [rg]; exact pk
    exact w
  have x0 : n12 = hV H0 (n7).toNat 0 := by
    have w := f28
    rw [e1] at w
    exact w.trans (((f23.1.2.1.2.2 _ 6 (kLe f20.1.1 sl1.1 rfl) rfl 0 (by decide +kernel)).trans (f20.1.2.1.2.2 _ 6 sl1.1 rfl 0 (by decide +kernel))).trans es0)
  have zg := (SNC_fr f23.1.1 f23.1.2.1 (by decide +kernel) (SNC_fr f20.1.1 f20.1.2.1 (by decide +kernel) z1))
  have lo : LYo H3 E n6 (n10).toNat := ⟨zg, (K25_le f23.1.1 (K25_le f20.1.1 k251)), (KR_le f23.1.1 (KR_le f20.1.1 kr1)), (kLe f23.1.1 (kLe f20.1.1 y2 rfl) rfl), k0, by rw [rg, d25]; exact ⟨z.2.1, yes, fbp, k3⟩⟩
  have qs := f29.2.2
  unfold nb_144 at qs
  have qs := qs E n6 lo (by omega) (KM_le f23.1.1 (KM_le f20.1.1 km1)) (by rw [show mC H3 = mC H1 from (mC_fr f23.1.2.1 (by decide +kernel)).trans (mC_fr f20.1.2.1 (by decide +kernel))]; exact mt1) (by omega) (by omega) _ (show RB (hV H3 282) _ from by
    rw [show hV H3 282 = hV H1 282 from (fRow f23.1.2.1 282 (by decide +kernel)).trans (fRow f20.1.2.1 282 (by decide +kernel))]
    exact rb)
  rw [rg, d25, d20, x0] at qs
  exact ⟨e1, e2, e3, by omega, by omega, RB_iff qs fun f => HR_take hL yes e4 (by omega) f⟩
def g_143w_11_2 : vG := ([(10, [13, 8], [], 1), (1144, [4, 12, 10], [3, 4], 0), (20, [12, 5], [3], 0), (23, [5], [3], 6), (90, [12], [], -2147483648), (91, [12], [], 2147483647), (31, [11], [], 0), (1141, [11, 4, 10, 6], [2, 3], 0), (90, [11], [], 0), (91, [11], [], 1), (1115, [10, 5, 8], [1, 2], 0), (42, [8, 9], [], 0), (20, [9, 5], [1], 2), (23, [5], [1], 6), (90, [9], [], 0), (91, [9], [], 40), (5000, [0, 1, 2, 3, 4, 5, 6, 7, 8], [0, 1], 11), (0, [0], [], 281), (51, [1], [], 0), (90, [2], [], -2147483648), (91, [2], [], 2147483647), (90, [3], [], -2147483648), (91, [3], [], 2147483647), (0, [4], [], 281), (51, [5], [], 0), (90, [6], [], -2147483648), (91, [6], [], 2147483647), (90, [7], [], -2147483648), (91, [7], [], 2147483647), (90, [8], [], -2147483648), (91, [8], [], 2147483647)], (4000, [4, 5, 6, 7, 13], [4], 11))
theorem c_143w_11_2 {q0 : Nat} : vOkm T0 (eN e_143 L_143w A_143 mu_143 n_143 B_143 (some q0)) 4 g_143w_11_2 := vOk_inI fun ρ η f0 f1 f2 f3 f4 f5 f6 f7 f8 f9 f10 f11 f12 f13 f14 f15 f16 f17 f18 f19 f20 f21 f22 f23 f24 f25 f26 f27 f28 f29 f30 => q_143w_3 (q0 := q0) (n0 := ρ 8) (n1 := ρ 7) (n2 := ρ 6) (n3 := ρ 5) (n4 := ρ 4) (n5 := ρ 3) (n6 := ρ 2) (n7 := ρ 1) (n8 := ρ 0) (n9 := ρ 9) (n10 := ρ 10) (n11 := ρ 11) (n12 := ρ 12) (n13 := ρ 13) (H0 := η 0) (H1 := η 1) (H2 := η 2) (H3 := η 3) (H4 := η 4) f30 f29 f28 f27 f26 f25 f24 f23 f22 f21 f20 f19 f18 f17 f16 f15 f14 f13 f12 f11 f10 f9 f8 f7 f6 f5 f4 f3 f2 f1 f0
def p_143w_11 : List vG := [g_143w_11_0,
  g_143w_11_1,
  g_143w_11_2]
theorem r_143w_11 : vCovBO (eRc e_143 L_143 cs_143 2000 (11, [(0, (3, 9, 281, 0)), (1, (3, 6, -1, 0)), (2, (0, -2147483648, 2147483647, 0)), (3, (0, -2147483648, 2147483647, 0)), (4, (0, -2147483648, 2147483647, 0))])) p_143w_11 = true := by decide +kernel
theorem q_143w_4 {q0 : Nat} {n0 n1 n2 n3 n4 n5 n6 n7 n8 n9 n10 : Int} {H0 H1 : gH} (f0 : n0 ≤ 2147483647) (f1 : (-2147483648) ≤ n0) (f2 : n1 ≤ 2147483647) (f3 : (-2147483648) ≤ n1) (f4 : n2 ≤ 2147483647) (f5 : (-2147483648) ≤ n2) (f6 : n3 ≤ 2147483647) (f7 : (-2147483648) ≤ n3) (f8 : n4 ≤ 2147483647) (f9 : (-2147483648) ≤ n4) (f10 : 0 ≤ n5) (f11 : n6 = 281) (f12 : n7 ≤ 2147483647) (f13 : (-2147483648) ≤ n7) (f14 : n8 ≤ 2147483647) (f15 : (-2147483648) ≤ n8) (f16 : 0 ≤ n9) (f17 : n10 = 281) (f18 : (hLe T0 H0 H1 ∧ hFr s_143.2.2.2.2 H0 H1 ∧ hWt T0 H1) ∧ ((True ∧ Bb_143_70 n10 n9 n8 n7 n6 n5 n4 n3 n2 n1 n0 H0 H1) ∧ True) ∧ some q0 = some (mub_143_70 n10 n9 n8 n7 n6 n5 n4 n3 n2 n1 n0 H0 H1)) (f19 : n1 ≤ n0) : nb_143 n2 n10 n9 n8 n7 H0 H1 := by
  unfold nb_143
  intro E D z k25 kr km mt sl p1 fb q0 q1 k3 d0 d1 d5
  have gb := f18.2.1.1.2
  unfold Bb_143_70 at gb
  have gb := gb E D z k25 kr km mt sl p1 fb q0 q1 k3 d0 d1 d5
  have m20 := (MTc mt).2.2.2.1
  have z1 := SNC_fr f18.1.1 f18.1.2.1 (by decide +kernel) z
  have sl1 : SHL H1 (n9).toNat D := SHL_keep sl (SHo_fr f18.1.1 f18.1.2.1 (by decide +kernel)) (RWo_fr f18.1.1 f18.1.2.1 (by decide +kernel)) (CUo_fr f18.1.1 f18.1.2.1 (by decide +kernel))
  have kr1 := KR_le f18.1.1 kr
  have k251 := K25_le f18.1.1 k25
  have km1 := KM_le f18.1.1 km
  have mc1 := mC_fr f18.1.2.1 (by decide +kernel)
  have mt1 : MT (mC H1) := by rw [mc1]; exact mt
  have e25 : hV H1 25 = hV H0 25 := fRow f18.1.2.1 25 (by decide +kernel)
  have e20 : hV H1 20 = hV H0 20 := fRow f18.1.2.1 20 (by decide +kernel)
  have e22 : hV H1 22 = hV H0 22 := fRow f18.1.2.1 22 (by decide +kernel)
  have es0 : hV H1 (n9).toNat 0 = hV H0 (n9).toNat 0 := f18.1.2.1.2.2 _ 6 sl.1 rfl 0 (by decide +kernel)
  have ll : ((D.map (lrW (hV H0 25)))).length = D.length := List.length_map _
  obtain ⟨e1, e2, e3, e4, e5, e6, e7, rb⟩ := gb
  have b := m20 (n7).toNat
  unfold SNDf
  rw [ll, ← show (n0).toNat = (hV H0 20 (n7).toNat).toNat by omega]
  exact e4
def g_143w_70_0 : vG := ([(43, [10, 9], [], 0), (5000, [0, 1, 2, 3, 4, 5, 6, 7, 8, 9, 10], [0, 1], 70), (0, [0], [], 281), (51, [1], [], 0), (90, [2], [], -2147483648), (91, [2], [], 2147483647), (90, [3], [], -2147483648), (91, [3], [], 2147483647), (0, [4], [], 281), (51, [5], [], 0), (90, [6], [], -2147483648), (91, [6], [], 2147483647), (90, [7], [], -2147483648), (91, [7], [], 2147483647), (90, [8], [], -2147483648), (91, [8], [], 2147483647), (90, [9], [], -2147483648), (91, [9], [], 2147483647), (90, [10], [], -2147483648), (91, [10], [], 2147483647)], (3000, [8], [1], 109))
theorem c_143w_70_0 {q0 : Nat} : vOkm T0 (eN e_143 L_143w A_143 mu_143 n_143 B_143 (some q0)) 4 g_143w_70_0 := vOk_inI fun ρ η f0 f1 f2 f3 f4 f5 f6 f7 f8 f9 f10 f11 f12 f13 f14 f15 f16 f17 f18 f19 => q_143w_4 (q0 := q0) (n0 := ρ 10) (n1 := ρ 9) (n2 := ρ 8) (n3 := ρ 7) (n4 := ρ 6) (n5 := ρ 5) (n6 := ρ 4) (n7 := ρ 3) (n8 := ρ 2) (n9 := ρ 1) (n10 := ρ 0) (H0 := η 0) (H1 := η 1) f19 f18 f17 f16 f15 f14 f13 f12 f11 f10 f9 f8 f7 f6 f5 f4 f3 f2 f1 f0
theorem q_143w_5 {q0 : Nat} {n0 n1 n2 n3 n4 n5 n6 n7 n8 n9 n10 n11 n12 n13 n14 n15 : Int} {H0 H1 H2 : gH} (f0 : n0 ≤ 2147483647) (f1 : (-2147483648) ≤ n0) (f2 : n1 ≤ 2147483647) (f3 : (-2147483648) ≤ n1) (f4 : n2 ≤ 2147483647) (f5 : (-2147483648) ≤ n2) (f6 : n3 ≤ 2147483647) (f7 : (-2147483648) ≤ n3) (f8 : n4 ≤ 2147483647) (f9 : (-2147483648) ≤ n4) (f10 : 0 ≤ n5) (f11 : n6 = 281) (f12 : n7 ≤ 2147483647) (f13 : (-2147483648) ≤ n7) (f14 : n8 ≤ 2147483647) (f15 : (-2147483648) ≤ n8) (f16 : 0 ≤ n9) (f17 : n10 = 281) (f18 : (hLe T0 H0 H1 ∧ hFr s_143.2.2.2.2 H0 H1 ∧ hWt T0 H1) ∧ ((True ∧ Bb_143_70 n10 n9 n8 n7 n6 n5 n4 n3 n2 n1 n0 H0 H1) ∧ True) ∧ some q0 = some (mub_143_70 n10 n9 n8 n7 n6 n5 n4 n3 n2 n1 n0 H0 H1)) (f19 : n0 < n1) (f20 : n11 ≤ 2147483647) (f21 : (-2147483648) ≤ n11) (f22 : hK H1 (n5).toNat = 6) (f23 : n11 = hV H1 (n5).toNat 0) (f24 : n12 ≤ 1) (f25 : 0 ≤ n12) (f26 : (hLe T0 H1 H2 ∧ hFr s_135.2.2.2.2 H1 H2 ∧ ((0 : Int) = 0 → H2.length = H1.length) ∧ hWt T0 H2) ∧ (True ∧ nb_135 n12 n6 n11 n3 n0 H1 H2)) (f27 : n12 = 0) (f28 : n13 = 0) (f29 : n14 = w32 (n2 + n13)) (f30 : n15 = w32 (n0 + 1)) : Bb_143_70 n10 n9 n8 n7 n6 n5 n4 n3 n14 n1 n15 H0 H2 := by
  unfold Bb_143_70
  intro E D z k25 kr km mt sl p1 fb q0 q1 k3 d0 d1 d5
  have gb := f18.2.1.1.2
  unfold Bb_143_70 at gb
  have gb := gb E D z k25 kr km mt sl p1 fb q0 q1 k3 d0 d1 d5
  have m20 := (MTc mt).2.2.2.1
  have z1 := SNC_fr f18.1.1 f18.1.2.1 (by decide +kernel) z
  have sl1 : SHL H1 (n9).toNat D := SHL_keep sl (SHo_fr f18.1.1 f18.1.2.1 (by decide +kernel)) (RWo_fr f18.1.1 f18.1.2.1 (by decide +kernel)) (CUo_fr f18.1.1 f18.1.2.1 (by decide +kernel))
  have kr1 := KR_le f18.1.1 kr
  have k251 := K25_le f18.1.1 k25
  have km1 := KM_le f18.1.1 km
  have mc1 := mC_fr f18.1.2.1 (by decide +kernel)
  have mt1 : MT (mC H1) := by rw [mc1]; exact mt
  have e25 : hV H1 25 = hV H0 25 := fRow f18.1.2.1 25 (by decide +kernel)
  have e20 : hV H1 20 = hV H0 20 := fRow f18.1.2.1 20 (by decide +kernel)
  have e22 : hV H1 22 = hV H0 22 := fRow f18.1.2.1 22 (by decide +kernel)
  have es0 : hV H1 (n9).toNat 0 = hV H0 (n9).toNat 0 := f18.1.2.1.2.2 _ 6 sl.1 rfl 0 (by decide +kernel)
  have ll : ((D.map (lrW (hV H0 25)))).length = D.length := List.length_map _
  obtain ⟨e1, e2, e3, e4, e5, e6, e7, rb⟩ := gb
  have cb := cnt_b _ e4
  have b := m20 (n7).toNat
  have x0 : n11 = hV H0 (n9).toNat 0 := by
    have w := f23
    rw [e1] at w
    exact w.trans es0
  have qi := f26.2.2
  unfold nb_135 at qi
  have qi := qi km1 mt1 kr1 (by omega) (by omega) (by omega) (by omega) (by omega) _ rb
  rw [e22, x0, e3] at qi
  have w29 := f29
  unfold w32 at w29
  have w30 := f30
  unfold w32 at w30
  have no := (qi.resolve_left (fun w => by have := w.1; omega)).2
  refine ⟨e1, e2, e3, cnt_n e6 e4 no (by omega) (by omega), e5, by omega, by omega, ?_⟩
  · rw [show hV H2 282 = hV H1 282 from fRow f26.1.2.1 282 (by decide +kernel)]
    exact rb
def g_143w_70_1 : vG := ([(10, [15, 10], [], 1), (1, [14, 8, 13], [], 0), (0, [13], [], 0), (30, [12], [], 0), (1135, [12, 4, 11, 7, 10], [1, 2], 0), (90, [12], [], 0), (91, [12], [], 1), (20, [11, 5], [1], 0), (23, [5], [1], 6), (90, [11], [], -2147483648), (91, [11], [], 2147483647), (42, [10, 9], [], 0), (5000, [0, 1, 2, 3, 4, 5, 6, 7, 8, 9, 10], [0, 1], 70), (0, [0], [], 281), (51, [1], [], 0), (90, [2], [], -2147483648), (91, [2], [], 2147483647), (90, [3], [], -2147483648), (91, [3], [], 2147483647), (0, [4], [], 281), (51, [5], [], 0), (90, [6], [], -2147483648), (91, [6], [], 2147483647), (90, [7], [], -2147483648), (91, [7], [], 2147483647), (90, [8], [], -2147483648), (91, [8], [], 2147483647), (90, [9], [], -2147483648), (91, [9], [], 2147483647), (90, [10], [], -2147483648), (91, [10], [], 2147483647)], (4000, [4, 5, 6, 7, 14, 9, 15], [2], 70))
theorem c_143w_70_1 {q0 : Nat} : vOkm T0 (eN e_143 L_143w A_143 mu_143 n_143 B_143 (some q0)) 4 g_143w_70_1 := vOk_inI fun ρ η f0 f1 f2 f3 f4 f5 f6 f7 f8 f9 f10 f11 f12 f13 f14 f15 f16 f17 f18 f19 f20 f21 f22 f23 f24 f25 f26 f27 f28 f29 f30 => q_143w_5 (q0 := q0) (n0 := ρ 10) (n1 := ρ 9) (n2 := ρ 8) (n3 := ρ 7) (n4 := ρ 6) (n5 := ρ 5) (n6 := ρ 4) (n7 := ρ 3) (n8 := ρ 2) (n9 := ρ 1) (n10 := ρ 0) (n11 := ρ 11) (n12 := ρ 12) (n13 := ρ 13) (n14 := ρ 14) (n15 := ρ 15) (H0 := η 0) (H1 := η 1) (H2 := η 2) f30 f29 f28 f27 f26 f25 f24 f23 f22 f21 f20 f19 f18 f17 f16 f15 f14 f13 f12 f11 f10 f9 f8 f7 f6 f5 f4 f3 f2 f1 f0
theorem q_143w_6 {q0 : Nat} {n0 n1 n2 n3 n4 n5 n6 n7 n8 n9 n10 n11 n12 n13 n14 n15 : Int} {H0 H1 H2 : gH} (f0 : n0 ≤ 2147483647) (f1 : (-2147483648) ≤ n0) (f2 : n1 ≤ 2147483647) (f3 : (-2147483648) ≤ n1) (f4 : n2 ≤ 2147483647) (f5 : (-2147483648) ≤ n2) (f6 : n3 ≤ 2147483647) (f7 : (-2147483648) ≤ n3) (f8 : n4 ≤ 2147483647) (f9 : (-2147483648) ≤ n4) (f10 : 0 ≤ n5) (f11 : n6 = 281) (f12 : n7 ≤ 2147483647) (f13 : (-2147483648) ≤ n7) (f14 : n8 ≤ 2147483647) (f15 : (-2147483648) ≤ n8) (f16 : 0 ≤ n9) (f17 : n10 = 281) (f18 : (hLe T0 H0 H1 ∧ hFr s_143.2.2.2.2 H0 H1 ∧ hWt T0 H1) ∧ ((True ∧ Bb_143_70 n10 n9 n8 n7 n6 n5 n4 n3 n2 n1 n0 H0 H1) ∧ True) ∧ some q0 = some (mub_143_70 n10 n9 n8 n7 n6 n5 n4 n3 n2 n1 n0 H0 H1)) (f19 : n0 < n1) (f20 : n11 ≤ 2147483647) (f21 : (-2147483648) ≤ n11) (f22 : hK H1 (n5).toNat = 6) (f23 : n11 = hV H1 (n5).toNat 0) (f24 : n12 ≤ 1) (f25 : 0 ≤ n12) (f26 : (hLe T0 H1 H2 ∧ hFr s_135.2.2.2.2 H1 H2 ∧ ((0 : Int) = 0 → H2.length = H1.length) ∧ hWt T0 H2) ∧ (True ∧ nb_135 n12 n6 n11 n3 n0 H1 H2)) (f27 : n12 ≠ 0) (f28 : n13 = 1) (f29 : n14 = w32 (n2 + n13)) (f30 : n15 = w32 (n0 + 1)) : Bb_143_70 n10 n9 n8 n7 n6 n5 n4 n3 n14 n1 n15 H0 H2 := by
  unfold Bb_143_70
  intro E D z k25 kr km mt sl p1 fb q0 q1 k3 d0 d1 d5
  have gb := f18.2.1.1.2
  unfold Bb_143_70 at gb
  have gb := gb E D z k25 kr km mt sl p1 fb q0 q1 k3 d0 d1 d5
  have m20 := (MTc mt).2.2.2.1
  have z1 := SNC_fr f18.1.1 f18.1.2.1 (by decide +kernel) z
  have sl1 : SHL H1 (n9).toNat D := SHL_keep sl (SHo_fr f18.1.1 f18.1.2.1 (by decide +kernel)) (RWo_fr f18.1.1 f18.1.2.1 (by decide +kernel)) (CUo_fr f18.1.1 f18.1.2.1 (by decide +kernel))
  have kr1 := KR_le f18.1.1 kr
  have k251 := K25_le f18.1.1 k25
  have km1 := KM_le f18.1.1 km
  have mc1 := mC_fr f18.1.2.1 (by decide +kernel)
  have mt1 : MT (mC H1) := by rw [mc1]; exact mt
  have e25 : hV H1 25 = hV H0 25 := fRow f18.1.2.1 25 (by decide +kernel)
  have e20 : hV H1 20 = hV H0 20 := fRow f18.1.2.1 20 (by decide +kernel)
  have e22 : hV H1 22 = hV H0 22 := fRow f18.1.2.1 22 (by decide +kernel)
  have es0 : hV H1 (n9).toNat 0 = hV H0 (n9).toNat 0 := f18.1.2.1.2.2 _ 6 sl.1 rfl 0 (by decide +kernel)
  have ll : ((D.map (lrW (hV H0 25)))).length = D.length := List.length_map _
  obtain ⟨e1, e2, e3, e4, e5, e6, e7, rb⟩ := gb
  have cb := cnt_b _ e4
  have b := m20 (n7).toNat
  have x0 : n11 = hV H0 (n9).toNat 0 := by
    have w := f23
    rw [e1] at w
    exact w.trans es0
  have qi := f26.2.2
  unfold nb_135 at qi
  have qi := qi km1 mt1 kr1 (by omega) (by omega) (by omega) (by omega) (by omega) _ rb
  rw [e22, x0, e3] at qi
  have w29 := f29
  unfold w32 at w29
  have w30 := f30
  unfold w32 at w30
  have yes := (qi.resolve_right (fun w => by have := w.1; omega)).2
  refine ⟨e1, e2, e3, cnt_y e6 e4 yes (by omega) (by omega), e5, by omega, by omega, ?_⟩
  · rw [show hV H2 282 = hV H1 282 from fRow f26.1.2.1 282 (by decide +kernel)]
    exact rb
def g_143w_70_2 : vG := ([(10, [15, 10], [], 1), (1, [14, 8, 13], [], 0), (0, [13], [], 1), (31, [12], [], 0), (1135, [12, 4, 11, 7, 10], [1, 2], 0), (90, [12], [], 0), (91, [12], [], 1), (20, [11, 5], [1], 0), (23, [5], [1], 6), (90, [11], [], -2147483648), (91, [11], [], 2147483647), (42, [10, 9], [], 0), (5000, [0, 1, 2, 3, 4, 5, 6, 7, 8, 9, 10], [0, 1], 70), (0, [0], [], 281), (51, [1], [], 0), (90, [2], [], -2147483648), (91, [2], [], 2147483647), (90, [3], [], -2147483648), (91, [3], [], 2147483647), (0, [4], [], 281), (51, [5], [], 0), (90, [6], [], -2147483648), (91, [6], [], 2147483647), (90, [7], [], -2147483648), (91, [7], [], 2147483647), (90, [8], [], -2147483648), (91, [8], [], 2147483647), (90, [9], [], -2147483648), (91, [9], [], 2147483647), (90, [10], [], -2147483648), (91, [10], [], 2147483647)], (4000, [4, 5, 6, 7, 14, 9, 15], [2], 70))
theorem c_143w_70_2 {q0 : Nat} : vOkm T0 (eN e_143 L_143w A_143 mu_143 n_143 B_143 (some q0)) 4 g_143w_70_2 := vOk_inI fun ρ η f0 f1 f2 f3 f4 f5 f6 f7 f8 f9 f10 f11 f12 f13 f14 f15 f16 f17 f18 f19 f20 f21 f22 f23 f24 f25 f26 f27 f28 f29 f30 => q_143w_6 (q0 := q0) (n0 := ρ 10) (n1 := ρ 9) (n2 := ρ 8) (n3 := ρ 7) (n4 := ρ 6) (n5 := ρ 5) (n6 := ρ 4) (n7 := ρ 3) (n8 := ρ 2) (n9 := ρ 1) (n10 := ρ 0) (n11 := ρ 11) (n12 := ρ 12) (n13 := ρ 13) (n14 := ρ 14) (n15 := ρ 15) (H0 := η 0) (H1 := η 1) (H2 := η 2) f30 f29 f28 f27 f26 f25 f24 f23 f22 f21 f20 f19 f18 f17 f16 f15 f14 f13 f12 f11 f10 f9 f8 f7 f6 f5 f4 f3 f2 f1 f0
def p_143w_70 : List vG := [g_143w_70_0,
  g_143w_70_1,
  g_143w_70_2]
theorem r_143w_70 : vCovBO (eRc e_143 L_143 cs_143 2000 (70, [(0, (3, 9, 281, 0)), (1, (3, 6, -1, 0)), (2, (0, -2147483648, 2147483647, 0)), (3, (0, -2147483648, 2147483647, 0)), (4, (0, -2147483648, 2147483647, 0)), (5, (0, -2147483648, 2147483647, 0)), (6, (0, -2147483648, 2147483647, 0))])) p_143w_70 = true := by decide +kernel
theorem m_143w (d : Nat) : eC e_143w (d + 6) := eC_ref (e := e_143) (L := L_143) (L' := L_143w) (cs := cs_143) (n := 2000) (d := d + 5) (A := A_143) (μ := mu_143) (tp := true) (p0 := p_143_s) (p1 := p_143w_s) (N := n_143) (B := B_143) rfl ⟨m_53w (d + 3), ⟨m_115y (d + 4), ⟨m_135w (d + 2), ⟨m_141w (d + 1), ⟨m_144w d, ⟨m_203w (d + 3), trivial⟩⟩⟩⟩⟩⟩ rfl (.inr pre0_ok) (by decide +kernel) (fun _ => post0_ok) r_143_s (allC c_143_s_0 allN) (allC (.inl ⟨p_143_11, r_143_11, fun q0 => (allC c_143_11_0 (allC c_143_11_1 (allC c_143_11_2 (allC c_143_11_3 allN))))⟩) (allC (.inl ⟨p_143_70, r_143_70, fun q0 => (allC c_143_70_0 (allC c_143_70_1 allN))⟩) allN)) (sub1 ⟨⟨rfl, rfl, rfl, fun _ _ _ _ => trivial⟩, (sub1 (sub1 (sub1 (sub1 trivial))))⟩) r_143w_s (allC c_143w_s_0 allN) (allC ⟨p_143w_11, r_143w_11, fun q0 => (allC c_143w_11_0 (allC c_143w_11_1 (allC c_143w_11_2 allN)))⟩ (allC ⟨p_143w_70, r_143w_70, fun q0 => (allC c_143w_70_0 (allC c_143w_70_1 (allC c_143w_70_2 allN)))⟩ allN))
/- Picture.has (I)Z, more fully -/
def nb_51 (r a0 a1 : Int) (h0 h : gH) : Prop := (r = 1 ∧ 0 ≤ a1 ∧ a1 < hV h0 19 3) ∨ (r = 0 ∧ ¬ (0 ≤ a1 ∧ a1 < hV h0 19 3))
def n_51 : List Int → gH → gH → Prop := fun xs h0 h => match xs with
  | [r, a0, a1] => nb_51 r a0 a1 h0 h
  | _ => True
noncomputable def e_51w : vE := eV e_51 n_51
noncomputable def L_51w : List vE := []
def B_51 : Int → List Int → gH → gH → Prop := fun c xs h0 h => True
theorem q_51w_0 {n0 n1 n2 : Int} {H0 : gH} (f0 : n0 ≤ 2147483647) (f1 : (-2147483648) ≤ n0) (f2 : n1 = 19) (f3 : hWt T0 H0 ∧ True) (f4 : n0 < 0) (f5 : n2 = 0) : nb_51 n2 n1 n0 H0 H0 := by
  unfold nb_51
  omega
def g_51w_s_0 : vG := ([(0, [2], [], 0), (32, [1], [], 0), (6000, [0, 1], [0], 0), (0, [0], [], 19), (90, [1], [], -2147483648), (91, [1], [], 2147483647)], (3000, [2], [0], 17))
theorem c_51w_s_0 : vOkm T0 (eN e_51 L_51w A_51 mu_51 n_51 B_51 none) 2 g_51w_s_0 := vOk_inI fun ρ η f0 f1 f2 f3 f4 f5 => q_51w_0 (n0 := ρ 1) (n1 := ρ 0) (n2 := ρ 2) (H0 := η 0) f5 f4 f3 f2 f1 f0
theorem q_51w_1 {n0 n1 n2 n3 : Int} {H0 : gH} (f0 : n0 ≤ 2147483647) (f1 : (-2147483648) ≤ n0) (f2 : n1 = 19) (f3 : hWt T0 H0 ∧ True) (f4 : 0 ≤ n0) (f5 : n2 ≤ 2147483647) (f6 : (-2147483648) ≤ n2) (f7 : hK H0 (n1).toNat = 3) (f8 : n2 = hV H0 (n1).toNat 3) (f9 : n2 ≤ n0) (f10 : n3 = 0) : nb_51 n3 n1 n0 H0 H0 := by
  have r8 := f8
  rw [f2] at r8
  replace r8 : n2 = hV H0 19 3 := r8
  unfold nb_51
  omega
def g_51w_s_1 : vG := ([(0, [3], [], 0), (43, [1, 2], [], 0), (20, [2, 0], [0], 3), (23, [0], [0], 3), (90, [2], [], -2147483648), (91, [2], [], 2147483647), (33, [1], [], 0), (6000, [0, 1], [0], 0), (0, [0], [], 19), (90, [1], [], -2147483648), (91, [1], [], 2147483647)], (3000, [3], [0], 17))
theorem c_51w_s_1 : vOkm T0 (eN e_51 L_51w A_51 mu_51 n_51 B_51 none) 2 g_51w_s_1 := vOk_inI fun ρ η f0 f1 f2 f3 f4 f5 f6 f7 f8 f9 f10 => q_51w_1 (n0 := ρ 1) (n1 := ρ 0) (n2 := ρ 2) (n3 := ρ 3) (H0 := η 0) f10 f9 f8 f7 f6 f5 f4 f3 f2 f1 f0
theorem q_51w_2 {n0 n1 n2 n3 : Int} {H0 : gH} (f0 : n0 ≤ 2147483647) (f1 : (-2147483648) ≤ n0) (f2 : n1 = 19) (f3 : hWt T0 H0 ∧ True) (f4 : 0 ≤ n0) (f5 : n2 ≤ 2147483647) (f6 : (-2147483648) ≤ n2) (f7 : hK H0 (n1).toNat = 3) (f8 : n2 = hV H0 (n1).toNat 3) (f9 : n0 < n2) (f10 : n3 = 1) : nb_51 n3 n1 n0 H0 H0 := by
  have r8 := f8
  rw [f2] at r8
  replace r8 : n2 = hV H0 19 3 := r8
  unfold nb_51
  omega
def g_51w_s_2 : vG := ([(0, [3], [], 1), (42, [1, 2], [], 0), (20, [2, 0], [0], 3), (23, [0], [0], 3), (90, [2], [], -2147483648), (91, [2], [], 2147483647), (33, [1], [], 0), (6000, [0, 1], [0], 0), (0, [0], [], 19), (90, [1], [], -2147483648), (91, [1], [], 2147483647)], (3000, [3], [0], 17))
theorem c_51w_s_2 : vOkm T0 (eN e_51 L_51w A_51 mu_51 n_51 B_51 none) 2 g_51w_s_2 := vOk_inI fun ρ η f0 f1 f2 f3 f4 f5 f6 f7 f8 f9 f10 => q_51w_2 (n0 := ρ 1) (n1 := ρ 0) (n2 := ρ 2) (n3 := ρ 3) (H0 := η 0) f10 f9 f8 f7 f6 f5 f4 f3 f2 f1 f0
def p_51w_s : List vG := [g_51w_s_0,
  g_51w_s_1,
  g_51w_s_2]
theorem r_51w_s : vCovBO (eR0 e_51 L_51 cs_51 2000) p_51w_s = true := by decide +kernel
theorem m_51w (d : Nat) : eC e_51w (d + 1) := eC_ref (e := e_51) (L := L_51) (L' := L_51w) (cs := cs_51) (n := 2000) (d := d + 0) (A := A_51) (μ := mu_51) (tp := true) (p0 := p_51_s) (p1 := p_51w_s) (N := n_51) (B := B_51) rfl trivial rfl (.inr pre0_ok) (by decide +kernel) (fun _ => post0_ok) r_51_s allN allN trivial r_51w_s (allC c_51w_s_0 (allC c_51w_s_1 (allC c_51w_s_2 allN))) allN
/- MixStage.reaches (LMixStage$Sheet;I)Z, more fully -/
def nb_196 (r a0 a1 a2 : Int) (h0 h : gH) : Prop := (0 ≤ a1 → hK h0 (a1).toNat = 6) → (r = 1 ∧ 0 ≤ a1 ∧ 0 ≤ a2 ∧ a2 < hV h0 19 3 ∧ hV h0 (a1).toNat 0 ≤ a2) ∨ (r = 0 ∧ ¬ (0 ≤ a1 ∧ 0 ≤ a2 ∧ a2 < hV h0 19 3 ∧ hV h0 (a1).toNat 0 ≤ a2))
def n_196 : List Int → gH → gH → Prop := fun xs h0 h => match xs with
  | [r, a0, a1, a2] => nb_196 r a0 a1 a2 h0 h
  | _ => True
noncomputable def e_196w : vE := eV e_196 n_196
noncomputable def L_196w : List vE := [e_51w]
def B_196 : Int → List Int → gH → gH → Prop := fun c xs h0 h => True
theorem q_196w_0 {n0 n1 n2 n3 : Int} {H0 : gH} (f0 : n0 ≤ 2147483647) (f1 : (-2147483648) ≤ n0) (f2 : n1 = 7) (f3 : hWt T0 H0 ∧ True) (f4 : n2 = -1) (f5 : n3 = 0) : nb_196 n3 n1 n2 n0 H0 H0 := by
  unfold nb_196
  intro k6
  omega
def g_196w_s_0 : vG := ([(0, [3], [], 0), (50, [1], [], 0), (6000, [0, 1, 2], [0], 0), (0, [0], [], 7), (90, [2], [], -2147483648), (91, [2], [], 2147483647)], (3000, [3], [0], 28))
theorem c_196w_s_0 : vOkm T0 (eN e_196 L_196w A_196 mu_196 n_196 B_196 none) 3 g_196w_s_0 := vOk_inI fun ρ η f0 f1 f2 f3 f4 f5 => q_196w_0 (n0 := ρ 2) (n1 := ρ 0) (n2 := ρ 1) (n3 := ρ 3) (H0 := η 0) f5 f4 f3 f2 f1 f0
theorem q_196w_1 {n0 n1 n2 n3 n4 n5 : Int} {H0 H1 : gH} (f0 : n0 ≤ 2147483647) (f1 : (-2147483648) ≤ n0) (f2 : n1 = 7) (f3 : hWt T0 H0 ∧ True) (f4 : 0 ≤ n2) (f5 : n3 = 19) (f6 : hK H0 (n1).toNat = 11) (f7 : n3 = hV H0 (n1).toNat 6) (f8 : n4 ≤ 1) (f9 : 0 ≤ n4) (f10 : (hLe T0 H0 H1 ∧ hFr s_51.2.2.2.2 H0 H1 ∧ ((0 : Int) = 0 → H1.length = H0.length) ∧ hWt T0 H1) ∧ (True ∧ nb_51 n4 n3 n0 H0 H1)) (f11 : n4 = 0) (f12 : n5 = 0) : nb_196 n5 n1 n2 n0 H0 H1 := by
  unfold nb_196
  intro k6
  have q := f10.2.2
  unfold nb_51 at q
  omega
def g_196w_s_1 : vG := ([(0, [5], [], 0), (30, [4], [], 0), (1051, [4, 3, 2], [0, 1], 0), (90, [4], [], 0), (91, [4], [], 1), (20, [3, 0], [0], 6), (23, [0], [0], 11), (0, [3], [], 19), (51, [1], [], 0), (6000, [0, 1, 2], [0], 0), (0, [0], [], 7), (90, [2], [], -2147483648), (91, [2], [], 2147483647)], (3000, [5], [1], 28))
theorem c_196w_s_1 : vOkm T0 (eN e_196 L_196w A_196 mu_196 n_196 B_196 none) 3 g_196w_s_1 := vOk_inI fun ρ η f0 f1 f2 f3 f4 f5 f6 f7 f8 f9 f10 f11 f12 => q_196w_1 (n0 := ρ 2) (n1 := ρ 0) (n2 := ρ 1) (n3 := ρ 3) (n4 := ρ 4) (n5 := ρ 5) (H0 := η 0) (H1 := η 1) f12 f11 f10 f9 f8 f7 f6 f5 f4 f3 f2 f1 f0
theorem q_196w_2 {n0 n1 n2 n3 n4 n5 n6 : Int} {H0 H1 : gH} (f0 : n0 ≤ 2147483647) (f1 : (-2147483648) ≤ n0) (f2 : n1 = 7) (f3 : hWt T0 H0 ∧ True) (f4 : 0 ≤ n2) (f5 : n3 = 19) (f6 : hK H0 (n1).toNat = 11) (f7 : n3 = hV H0 (n1).toNat 6) (f8 : n4 ≤ 1) (f9 : 0 ≤ n4) (f10 : (hLe T0 H0 H1 ∧ hFr s_51.2.2.2.2 H0 H1 ∧ ((0 : Int) = 0 → H1.length = H0.length) ∧ hWt T0 H1) ∧ (True ∧ nb_51 n4 n3 n0 H0 H1)) (f11 : n4 ≠ 0) (f12 : n5 ≤ 2147483647) (f13 : (-2147483648) ≤ n5) (f14 : hK H1 (n2).toNat = 6) (f15 : n5 = hV H1 (n2).toNat 0) (f16 : n0 < n5) (f17 : n6 = 0) : nb_196 n6 n1 n2 n0 H0 H1 := by
  unfold nb_196
  intro k6
  have q := f10.2.2
  unfold nb_51 at q
  have y0 : hV H1 (n2).toNat 0 = hV H0 (n2).toNat 0 := f10.1.2.1.2.2 _ 6 (k6 (by omega)) rfl 0 (by decide +kernel)
  have e0 := f15
  omega
def g_196w_s_2 : vG := ([(0, [6], [], 0), (42, [2, 5], [], 0), (20, [5, 1], [1], 0), (23, [1], [1], 6), (90, [5], [], -2147483648), (91, [5], [], 2147483647), (31, [4], [], 0), (1051, [4, 3, 2], [0, 1], 0), (90, [4], [], 0), (91, [4], [], 1), (20, [3, 0], [0], 6), (23, [0], [0], 11), (0, [3], [], 19), (51, [1], [], 0), (6000, [0, 1, 2], [0], 0), (0, [0], [], 7), (90, [2], [], -2147483648), (91, [2], [], 2147483647)], (3000, [6], [1], 28))
theorem c_196w_s_2 : vOkm T0 (eN e_196 L_196w A_196 mu_196 n_196 B_196 none) 3 g_196w_s_2 := vOk_inI fun ρ η f0 f1 f2 f3 f4 f5 f6 f7 f8 f9 f10 f11 f12 f13 f14 f15 f16 f17 => q_196w_2 (n0 := ρ 2) (n1 := ρ 0) (n2 := ρ 1) (n3 := ρ 3) (n4 := ρ 4) (n5 := ρ 5) (n6 := ρ 6) (H0 := η 0) (H1 := η 1) f17 f16 f15 f14 f13 f12 f11 f10 f9 f8 f7 f6 f5 f4 f3 f2 f1 f0
theorem q_196w_3 {n0 n1 n2 n3 n4 n5 n6 : Int} {H0 H1 : gH} (f0 : n0 ≤ 2147483647) (f1 : (-2147483648) ≤ n0) (f2 : n1 = 7) (f3 : hWt T0 H0 ∧ True) (f4 : 0 ≤ n2) (f5 : n3 = 19) (f6 : hK H0 (n1).toNat = 11) (f7 : n3 = hV H0 (n1).toNat 6) (f8 : n4 ≤ 1) (f9 : 0 ≤ n4) (f10 : (hLe T0 H0 H1 ∧ hFr s_51.2.2.2.2 H0 H1 ∧ ((0 : Int) = 0 → H1.length = H0.length) ∧ hWt T0 H1) ∧ (True ∧ nb_51 n4 n3 n0 H0 H1)) (f11 : n4 ≠ 0) (f12 : n5 ≤ 2147483647) (f13 : (-2147483648) ≤ n5) (f14 : hK H1 (n2).toNat = 6) (f15 : n5 = hV H1 (n2).toNat 0) (f16 : n5 ≤ n0) (f17 : n6 = 1) : nb_196 n6 n1 n2 n0 H0 H1 := by
  unfold nb_196
  intro k6
  have q := f10.2.2
  unfold nb_51 at q
  have y0 : hV H1 (n2).toNat 0 = hV H0 (n2).toNat 0 := f10.1.2.1.2.2 _ 6 (k6 (by omega)) rfl 0 (by decide +kernel)
  have e0 := f15
  omega
def g_196w_s_3 : vG := ([(0, [6], [], 1), (43, [2, 5], [], 0), (20, [5, 1], [1], 0), (23, [1], [1], 6), (90, [5], [], -2147483648), (91, [5], [], 2147483647), (31, [4], [], 0), (1051, [4, 3, 2], [0, 1], 0), (90, [4], [], 0), (91, [4], [], 1), (20, [3, 0], [0], 6), (23, [0], [0], 11), (0, [3], [], 19), (51, [1], [], 0), (6000, [0, 1, 2], [0], 0), (0, [0], [], 7), (90, [2], [], -2147483648), (91, [2], [], 2147483647)], (3000, [6], [1], 28))
theorem c_196w_s_3 : vOkm T0 (eN e_196 L_196w A_196 mu_196 n_196 B_196 none) 3 g_196w_s_3 := vOk_inI fun ρ η f0 f1 f2 f3 f4 f5 f6 f7 f8 f9 f10 f11 f12 f13 f14 f15 f16 f17 => q_196w_3 (n0 := ρ 2) (n1 := ρ 0) (n2 := ρ 1) (n3 := ρ 3) (n4 := ρ 4) (n5 := ρ 5) (n6 := ρ 6) (H0 := η 0) (H1 := η 1) f17 f16 f15 f14 f13 f12 f11 f10 f9 f8 f7 f6 f5 f4 f3 f2 f1 f0
def p_196w_s : List vG := [g_196w_s_0,
  g_196w_s_1,
  g_196w_s_2,
  g_196w_s_3]
theorem r_196w_s : vCovBO (eR0 e_196 L_196 cs_196 2000) p_196w_s = true := by decide +kernel
theorem m_196w (d : Nat) : eC e_196w (d + 2) := eC_ref (e := e_196) (L := L_196) (L' := L_196w) (cs := cs_196) (n := 2000) (d := d + 1) (A := A_196) (μ := mu_196) (tp := false) (p0 := p_196_s) (p1 := p_196w_s) (N := n_196) (B := B_196) rfl ⟨m_51w d, trivial⟩ rfl (.inr pre0_ok) (by decide +kernel) (fun z => nomatch z) r_196_s (allC c_196_s_0 (allC c_196_s_1 (allC c_196_s_2 (allC c_196_s_3 allN)))) allN (sub1 trivial) r_196w_s (allC c_196w_s_0 (allC c_196w_s_1 (allC c_196w_s_2 (allC c_196w_s_3 allN)))) allN
/- MixStage.sounding (III)I, more fully -/
def nb_189 (r a0 a1 a2 a3 : Int) (h0 h : gH) : Prop := ∀ E : SE, SNC h0 E → K25 h0 → KR h0 → KM h0 → MT (mC h0) → K79 h0 → SK6 h0 → (¬ ((0 ≤ a1 ∧ a1 < hV h0 7 4) ∧ (0 ≤ a2 ∧ a2 < E.1 ∧ E.2.1 (a2).toNat = 3) ∧ 0 ≤ a3 ∧ a3 < hV h0 19 3 ∧ (hV h0 (hV h0 9 (a1).toNat).toNat 0) ≤ a3) → r = -1) ∧ (((0 ≤ a1 ∧ a1 < hV h0 7 4) ∧ (0 ≤ a2 ∧ a2 < E.1 ∧ E.2.1 (a2).toNat = 3) ∧ 0 ≤ a3 ∧ a3 < hV h0 19 3 ∧ (hV h0 (hV h0 9 (a1).toNat).toNat 0) ≤ a3) → ∀ D : List CR, SHL h0 (hV h0 9 (a1).toNat).toNat D → (∀ c, c ∈ (D.map (lrW (hV h0 25))) → FBc c) → 0 ≤ (hV h0 (hV h0 9 (a1).toNat).toNat 0) → r = SNDf E (D.map (lrW (hV h0 25))) a2 (hV h0 20 (hV h0 (hV h0 9 (a1).toNat).toNat 0).toNat) (hV h0 22) (hV h0 (hV h0 9 (a1).toNat).toNat 0) a3 (hV h0 20 (a3).toNat))
def n_189 : List Int → gH → gH → Prop := fun xs h0 h => match xs with
  | [r, a0, a1, a2, a3] => nb_189 r a0 a1 a2 a3 h0 h
  | _ => True
noncomputable def e_189w : vE := eV e_189 n_189
noncomputable def L_189w : List vE := [e_3v, e_143w, e_194y, e_196w]
def B_189 : Int → List Int → gH → gH → Prop := fun c xs h0 h => True
theorem q_189w_0 {n0 n1 n2 n3 n4 n5 n6 n7 n8 : Int} {H0 H1 H2 : gH} (f0 : n0 ≤ 2147483647) (f1 : (-2147483648) ≤ n0) (f2 : n1 ≤ 2147483647) (f3 : (-2147483648) ≤ n1) (f4 : n2 ≤ 2147483647) (f5 : (-2147483648) ≤ n2) (f6 : n3 = 7) (f7 : hWt T0 H0 ∧ True) (f8 : (hLe T0 H0 H1 ∧ hFr s_194.2.2.2.2 H0 H1 ∧ ((0 : Int) = 0 → H1.length = H0.length) ∧ hWt T0 H1) ∧ postb_194y n4 n3 n2 H0 H1) (f9 : n5 = 23) (f10 : hK H1 (n3).toNat = 11) (f11 : n5 = hV H1 (n3).toNat 7) (f12 : n6 = 3) (f13 : (hLe T0 H1 H2 ∧ hFr s_3.2.2.2.2 H1 H2 ∧ ((0 : Int) = 0 → H2.length = H1.length) ∧ hWt T0 H2) ∧ postb_3v n7 n5 n1 n6 H1 H2) (f14 : n7 = -1) (f15 : n8 = (-1)) : nb_189 n8 n3 n2 n1 n0 H0 H2 := by
  unfold nb_189
  intro E z k25 kr km mt k79 s9
  have qs := f8.2
  unfold postb_194y at qs
  obtain ⟨qs1, qs2⟩ := qs k79
  have ks : 0 ≤ n4 → (0 ≤ n2 ∧ n2 < hV H0 7 4) ∧ n4 = hV H0 9 (n2).toNat ∧ hK H0 (n4).toNat = 6 := fun w => by
    have v : 0 ≤ n2 ∧ n2 < hV H0 7 4 := Classical.byContradiction fun v => by have := qs2 v; omega
    have e := qs1 v.1 v.2
    exact ⟨v, e, by rw [e]; exact (s9 _ (by omega)).2⟩
  have zk := (SNC_fr f8.1.1 f8.1.2.1 (by decide +kernel) z)
  have qk := f13.2
  unfold postb_3v at qk
  rw [f12] at qk
  unfold KV at qk
  rw [zk.1] at qk
  have no : ¬ (0 ≤ n1 ∧ n1 < E.1 ∧ E.2.1 (n1).toNat = 3) := fun w => by
    have y := zk.2.2.1 (n1).toNat (by omega)
    rcases qk with q | q
    · omega
    · exact q.2 ⟨w.1, w.2.1, y.1, y.2.2.1.trans w.2.2⟩
  exact ⟨fun _ => by omega, fun w => absurd w.2.1 no⟩
def g_189w_s_0 : vG := ([(0, [8], [], -1), (50, [7], [], 0), (1003, [7, 5, 2, 6], [1, 2], 0), (0, [6], [], 3), (20, [5, 0], [1], 7), (23, [0], [1], 11), (0, [5], [], 23), (1194, [4, 0, 1], [0, 1], 0), (6000, [0, 1, 2, 3], [0], 0), (0, [0], [], 7), (90, [1], [], -2147483648), (91, [1], [], 2147483647), (90, [2], [], -2147483648), (91, [2], [], 2147483647), (90, [3], [], -2147483648), (91, [3], [], 2147483647)], (3000, [8], [2], 30))
theorem c_189w_s_0 : vOkm T0 (eN e_189 L_189w A_189 mu_189 n_189 B_189 none) 4 g_189w_s_0 := vOk_inI fun ρ η f0 f1 f2 f3 f4 f5 f6 f7 f8 f9 f10 f11 f12 f13 f14 f15 => q_189w_0 (n0 := ρ 3) (n1 := ρ 2) (n2 := ρ 1) (n3 := ρ 0) (n4 := ρ 4) (n5 := ρ 5) (n6 := ρ 6) (n7 := ρ 7) (n8 := ρ 8) (H0 := η 0) (H1 := η 1) (H2 := η 2) f15 f14 f13 f12 f11 f10 f9 f8 f7 f6 f5 f4 f3 f2 f1 f0
theorem q_189w_1 {n0 n1 n2 n3 n4 n5 n6 n7 n8 n9 n10 : Int} {H0 H1 H2 H3 H4 : gH} (f0 : n0 ≤ 2147483647) (f1 : (-2147483648) ≤ n0) (f2 : n1 ≤ 2147483647) (f3 : (-2147483648) ≤ n1) (f4 : n2 ≤ 2147483647) (f5 : (-2147483648) ≤ n2) (f6 : n3 = 7) (f7 : hWt T0 H0 ∧ True) (f8 : (hLe T0 H0 H1 ∧ hFr s_194.2.2.2.2 H0 H1 ∧ ((0 : Int) = 0 → H1.length = H0.length) ∧ hWt T0 H1) ∧ postb_194y n4 n3 n2 H0 H1) (f9 : n5 = 23) (f10 : hK H1 (n3).toNat = 11) (f11 : n5 = hV H1 (n3).toNat 7) (f12 : n6 = 3) (f13 : (hLe T0 H1 H2 ∧ hFr s_3.2.2.2.2 H1 H2 ∧ ((0 : Int) = 0 → H2.length = H1.length) ∧ hWt T0 H2) ∧ postb_3v n7 n5 n1 n6 H1 H2) (f14 : 0 ≤ n7) (f15 : n8 ≤ 1) (f16 : 0 ≤ n8) (f17 : (hLe T0 H2 H3 ∧ hFr s_196.2.2.2.2 H2 H3 ∧ ((0 : Int) = 0 → H3.length = H2.length) ∧ hWt T0 H3) ∧ (postb_196 n8 n3 n4 n0 H2 H3 ∧ nb_196 n8 n3 n4 n0 H2 H3)) (f18 : n8 ≠ 0) (f19 : n9 = 281) (f20 : hK H3 (n3).toNat = 11) (f21 : n9 = hV H3 (n3).toNat 10) (f22 : n10 ≤ 2147483647) (f23 : (-2147483648) ≤ n10) (f24 : (hLe T0 H3 H4 ∧ hFr s_143.2.2.2.2 H3 H4 ∧ ((0 : Int) = 0 → H4.length = H3.length) ∧ hWt T0 H4) ∧ (True ∧ nb_143 n10 n9 n4 n1 n0 H3 H4)) : nb_189 n10 n3 n2 n1 n0 H0 H4 := by
  unfold nb_189
  intro E z k25 kr km mt k79 s9
  have qs := f8.2
  unfold postb_194y at qs
  obtain ⟨qs1, qs2⟩ := qs k79
  have ks : 0 ≤ n4 → (0 ≤ n2 ∧ n2 < hV H0 7 4) ∧ n4 = hV H0 9 (n2).toNat ∧ hK H0 (n4).toNat = 6 := fun w => by
    have v : 0 ≤ n2 ∧ n2 < hV H0 7 4 := Classical.byContradiction fun v => by have := qs2 v; omega
    have e := qs1 v.1 v.2
    exact ⟨v, e, by rw [e]; exact (s9 _ (by omega)).2⟩
  have zk := (SNC_fr f8.1.1 f8.1.2.1 (by decide +kernel) z)
  have qk := f13.2
  unfold postb_3v at qk
  rw [f12] at qk
  unfold KV at qk
  rw [zk.1] at qk
  have kk := qk.resolve_right (fun w => by omega)
  have k3 : E.2.1 (n1).toNat = 3 := by
    have y := zk.2.2.1 (n1).toNat (by omega)
    exact y.2.2.1.symm.trans kk.2.2.2.2.1
  have kk0 := kk.1
  have kk1 := kk.2.1
  have qr := f17.2.2
  unfold nb_196 at qr
  have qr := qr (fun w => (kLe f13.1.1 (kLe f8.1.1 (ks w).2.2 rfl) rfl))
  rw [show hV H2 19 3 = hV H0 19 3 from (f13.1.2.1.1 19 3 (by decide +kernel)).trans (f8.1.2.1.1 19 3 (by decide +kernel))] at qr
  have g0 : 0 ≤ n4 → hV H2 (n4).toNat 0 = hV H0 (n4).toNat 0 := fun w => (f13.1.2.1.2.2 _ 6 (kLe f8.1.1 (ks w).2.2 rfl) rfl 0 (by decide +kernel)).trans (f8.1.2.1.2.2 _ 6 (ks w).2.2 rfl 0 (by decide +kernel))
  have rr := (qr.resolve_right (fun w => by have := w.1; omega)).2
  obtain ⟨a0_, a1_, a2_, a3_⟩ := rr
  obtain ⟨ks1, ks2, ks3⟩ := ks a0_
  rw [g0 a0_, ks2] at a3_
  refine ⟨fun w => absurd ⟨ks1, ⟨kk0, kk1, k3⟩, a1_, a2_, a3_⟩ w, fun _ D sl fb d0 => ?_⟩
  have sl0 : SHL H0 (n4).toNat D := by
    rw [ks2]
    exact sl
  have gd : hV H3 (n4).toNat 0 = hV H0 (hV H0 9 (n2).toNat).toNat 0 := by
    rw [show hV H3 (n4).toNat 0 = hV H0 (n4).toNat 0 from (f17.1.2.1.2.2 _ 6 (kLe f13.1.1 (kLe f8.1.1 ks3 rfl) rfl) rfl 0 (by decide +kernel)).trans ((f13.1.2.1.2.2 _ 6 (kLe f8.1.1 ks3 rfl) rfl 0 (by decide +kernel)).trans (f8.1.2.1.2.2 _ 6 ks3 rfl 0 (by decide +kernel))), ks2]
  have m3 := (MTc mt).2.2.1
  have g25 : hV H3 25 = hV H0 25 := (fRow f17.1.2.1 25 (by decide +kernel)).trans ((fRow f13.1.2.1 25 (by decide +kernel)).trans (fRow f8.1.2.1 25 (by decide +kernel)))
  have qf := f24.2.2
  unfold nb_143 at qf
  rw [gd, g25, show hV H3 20 = hV H0 20 from (fRow f17.1.2.1 20 (by decide +kernel)).trans ((fRow f13.1.2.1 20 (by decide +kernel)).trans (fRow f8.1.2.1 20 (by decide +kernel))), show hV H3 22 = hV H0 22 from (fRow f17.1.2.1 22 (by decide +kernel)).trans ((fRow f13.1.2.1 22 (by decide +kernel)).trans (fRow f8.1.2.1 22 (by decide +kernel)))] at qf
  exact qf E D (SNC_fr f17.1.1 f17.1.2.1 (by decide +kernel) (SNC_fr f13.1.1 f13.1.2.1 (by decide +kernel) (SNC_fr f8.1.1 f8.1.2.1 (by decide +kernel) z))) (K25_le f17.1.1 (K25_le f13.1.1 (K25_le f8.1.1 k25))) (KR_le f17.1.1 (KR_le f13.1.1 (KR_le f8.1.1 kr))) (KM_le f17.1.1 (KM_le f13.1.1 (KM_le f8.1.1 km))) (by rw [show mC H3 = mC H0 from (mC_fr f17.1.2.1 (by decide +kernel)).trans ((mC_fr f13.1.2.1 (by decide +kernel)).trans (mC_fr f8.1.2.1 (by decide +kernel)))]; exact mt) (SHL_keep (SHL_keep (SHL_keep sl0 (SHo_fr f8.1.1 f8.1.2.1 (by decide +kernel)) (RWo_fr f8.1.1 f8.1.2.1 (by decide +kernel)) (CUo_fr f8.1.1 f8.1.2.1 (by decide +kernel))) (SHo_fr f13.1.1 f13.1.2.1 (by decide +kernel)) (RWo_fr f13.1.1 f13.1.2.1 (by decide +kernel)) (CUo_fr f13.1.1 f13.1.2.1 (by decide +kernel))) (SHo_fr f17.1.1 f17.1.2.1 (by decide +kernel)) (RWo_fr f17.1.1 f17.1.2.1 (by decide +kernel)) (CUo_fr f17.1.1 f17.1.2.1 (by decide +kernel))) a0_ fb kk0 kk1 k3 d0 a3_ (by omega)
def g_189w_s_1 : vG := ([(1143, [10, 9, 4, 2, 3], [3, 4], 0), (90, [10], [], -2147483648), (91, [10], [], 2147483647), (20, [9, 0], [3], 10), (23, [0], [3], 11), (0, [9], [], 281), (31, [8], [], 0), (1196, [8, 0, 4, 3], [2, 3], 0), (90, [8], [], 0), (91, [8], [], 1), (51, [7], [], 0), (1003, [7, 5, 2, 6], [1, 2], 0), (0, [6], [], 3), (20, [5, 0], [1], 7), (23, [0], [1], 11), (0, [5], [], 23), (1194, [4, 0, 1], [0, 1], 0), (6000, [0, 1, 2, 3], [0], 0), (0, [0], [], 7), (90, [1], [], -2147483648), (91, [1], [], 2147483647), (90, [2], [], -2147483648), (91, [2], [], 2147483647), (90, [3], [], -2147483648), (91, [3], [], 2147483647)], (3000, [10], [4], 42))
theorem c_189w_s_1 : vOkm T0 (eN e_189 L_189w A_189 mu_189 n_189 B_189 none) 4 g_189w_s_1 := vOk_inI fun ρ η f0 f1 f2 f3 f4 f5 f6 f7 f8 f9 f10 f11 f12 f13 f14 f15 f16 f17 f18 f19 f20 f21 f22 f23 f24 => q_189w_1 (n0 := ρ 3) (n1 := ρ 2) (n2 := ρ 1) (n3 := ρ 0) (n4 := ρ 4) (n5 := ρ 5) (n6 := ρ 6) (n7 := ρ 7) (n8 := ρ 8) (n9 := ρ 9) (n10 := ρ 10) (H0 := η 0) (H1 := η 1) (H2 := η 2) (H3 := η 3) (H4 := η 4) f24 f23 f22 f21 f20 f19 f18 f17 f16 f15 f14 f13 f12 f11 f10 f9 f8 f7 f6 f5 f4 f3 f2 f1 f0
theorem q_189w_2 {n0 n1 n2 n3 n4 n5 n6 n7 n8 n9 : Int} {H0 H1 H2 H3 : gH} (f0 : n0 ≤ 2147483647) (f1 : (-2147483648) ≤ n0) (f2 : n1 ≤ 2147483647) (f3 : (-2147483648) ≤ n1) (f4 : n2 ≤ 2147483647) (f5 : (-2147483648) ≤ n2) (f6 : n3 = 7) (f7 : hWt T0 H0 ∧ True) (f8 : (hLe T0 H0 H1 ∧ hFr s_194.2.2.2.2 H0 H1 ∧ ((0 : Int) = 0 → H1.length = H0.length) ∧ hWt T0 H1) ∧ postb_194y n4 n3 n2 H0 H1) (f9 : n5 = 23) (f10 : hK H1 (n3).toNat = 11) (f11 : n5 = hV H1 (n3).toNat 7) (f12 : n6 = 3) (f13 : (hLe T0 H1 H2 ∧ hFr s_3.2.2.2.2 H1 H2 ∧ ((0 : Int) = 0 → H2.length = H1.length) ∧ hWt T0 H2) ∧ postb_3v n7 n5 n1 n6 H1 H2) (f14 : 0 ≤ n7) (f15 : n8 ≤ 1) (f16 : 0 ≤ n8) (f17 : (hLe T0 H2 H3 ∧ hFr s_196.2.2.2.2 H2 H3 ∧ ((0 : Int) = 0 → H3.length = H2.length) ∧ hWt T0 H3) ∧ (postb_196 n8 n3 n4 n0 H2 H3 ∧ nb_196 n8 n3 n4 n0 H2 H3)) (f18 : n8 = 0) (f19 : n9 = (-1)) : nb_189 n9 n3 n2 n1 n0 H0 H3 := by
  unfold nb_189
  intro E z k25 kr km mt k79 s9
  have qs := f8.2
  unfold postb_194y at qs
  obtain ⟨qs1, qs2⟩ := qs k79
  have ks : 0 ≤ n4 → (0 ≤ n2 ∧ n2 < hV H0 7 4) ∧ n4 = hV H0 9 (n2).toNat ∧ hK H0 (n4).toNat = 6 := fun w => by
    have v : 0 ≤ n2 ∧ n2 < hV H0 7 4 := Classical.byContradiction fun v => by have := qs2 v; omega
    have e := qs1 v.1 v.2
    exact ⟨v, e, by rw [e]; exact (s9 _ (by omega)).2⟩
  have zk := (SNC_fr f8.1.1 f8.1.2.1 (by decide +kernel) z)
  have qk := f13.2
  unfold postb_3v at qk
  rw [f12] at qk
  unfold KV at qk
  rw [zk.1] at qk
  have kk := qk.resolve_right (fun w => by omega)
  have k3 : E.2.1 (n1).toNat = 3 := by
    have y := zk.2.2.1 (n1).toNat (by omega)
    exact y.2.2.1.symm.trans kk.2.2.2.2.1
  have kk0 := kk.1
  have kk1 := kk.2.1
  have qr := f17.2.2
  unfold nb_196 at qr
  have qr := qr (fun w => (kLe f13.1.1 (kLe f8.1.1 (ks w).2.2 rfl) rfl))
  rw [show hV H2 19 3 = hV H0 19 3 from (f13.1.2.1.1 19 3 (by decide +kernel)).trans (f8.1.2.1.1 19 3 (by decide +kernel))] at qr
  have g0 : 0 ≤ n4 → hV H2 (n4).toNat 0 = hV H0 (n4).toNat 0 := fun w => (f13.1.2.1.2.2 _ 6 (kLe f8.1.1 (ks w).2.2 rfl) rfl 0 (by decide +kernel)).trans (f8.1.2.1.2.2 _ 6 (ks w).2.2 rfl 0 (by decide +kernel))
  refine ⟨fun _ => by omega, fun w => ?_⟩
  exfalso
  obtain ⟨w1, _, w3, w4, w5⟩ := w
  have e := qs1 w1.1 w1.2
  have sp := (s9 (n2).toNat (by omega)).1
  have g := g0 (by omega)
  rw [e] at g
  rcases qr with q | q
  · omega
  · refine q.2 ⟨by omega, w3, w4, ?_⟩
    rw [e, g]
    exact w5
def g_189w_s_2 : vG := ([(0, [9], [], -1), (30, [8], [], 0), (1196, [8, 0, 4, 3], [2, 3], 0), (90, [8], [], 0), (91, [8], [], 1), (51, [7], [], 0), (1003, [7, 5, 2, 6], [1, 2], 0), (0, [6], [], 3), (20, [5, 0], [1], 7), (23, [0], [1], 11), (0, [5], [], 23), (1194, [4, 0, 1], [0, 1], 0), (6000, [0, 1, 2, 3], [0], 0), (0, [0], [], 7), (90, [1], [], -2147483648), (91, [1], [], 2147483647), (90, [2], [], -2147483648), (91, [2], [], 2147483647), (90, [3], [], -2147483648), (91, [3], [], 2147483647)], (3000, [9], [3], 30))
theorem c_189w_s_2 : vOkm T0 (eN e_189 L_189w A_189 mu_189 n_189 B_189 none) 4 g_189w_s_2 := vOk_inI fun ρ η f0 f1 f2 f3 f4 f5 f6 f7 f8 f9 f10 f11 f12 f13 f14 f15 f16 f17 f18 f19 => q_189w_2 (n0 := ρ 3) (n1 := ρ 2) (n2 := ρ 1) (n3 := ρ 0) (n4 := ρ 4) (n5 := ρ 5) (n6 := ρ 6) (n7 := ρ 7) (n8 := ρ 8) (n9 := ρ 9) (H0 := η 0) (H1 := η 1) (H2 := η 2) (H3 := η 3) f19 f18 f17 f16 f15 f14 f13 f12 f11 f10 f9 f8 f7 f6 f5 f4 f3 f2 f1 f0
def p_189w_s : List vG := [g_189w_s_0,
  g_189w_s_1,
  g_189w_s_2]
theorem r_189w_s : vCovBO (eR0 e_189 L_189 cs_189 2000) p_189w_s = true := by decide +kernel
theorem m_189w (d : Nat) : eC e_189w (d + 7) := eC_ref (e := e_189) (L := L_189) (L' := L_189w) (cs := cs_189) (n := 2000) (d := d + 6) (A := A_189) (μ := mu_189) (tp := true) (p0 := p_189_s) (p1 := p_189w_s) (N := n_189) (B := B_189) rfl ⟨m_3v (d + 4), ⟨m_143w d, ⟨m_194y (d + 5), ⟨m_196w (d + 4), trivial⟩⟩⟩⟩ rfl (.inr pre0_ok) (by decide +kernel) (fun _ => post0_ok) r_189_s (allC c_189_s_0 allN) allN ⟨⟨rfl, rfl, rfl, fun _ _ _ _ => trivial⟩, (sub1 ⟨⟨rfl, rfl, rfl, fun _ _ _ _ => trivial⟩, (sub1 trivial)⟩)⟩ r_189w_s (allC c_189w_s_0 (allC c_189w_s_1 (allC c_189w_s_2 allN))) allN
