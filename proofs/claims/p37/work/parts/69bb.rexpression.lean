/- MixStageModel.expression ()V, more fully still -/
theorem o_236 : eOK e_236 L_236 cs_236 2000 A_236 mu_236 := eOK_of (tp := false) (p0 := p_236_s) (fun z => nomatch z) r_236_s (allC c_236_s_0 allN) (allC (.inl ⟨p_236_12, r_236_12, fun q0 => (allC c_236_12_0 (allC c_236_12_1 (allC c_236_12_2 allN)))⟩) (allC (.inl ⟨p_236_23, r_236_23, fun q0 => (allC c_236_23_0 (allC c_236_23_1 (allC c_236_23_2 (allC c_236_23_3 (allC c_236_23_4 (allC c_236_23_5 (allC c_236_23_6 (allC c_236_23_7 (allC c_236_23_8 (allC c_236_23_9 (allC c_236_23_10 (allC c_236_23_11 (allC c_236_23_12 (allC c_236_23_13 (allC c_236_23_14 allN)))))))))))))))⟩) (allC (.inl ⟨p_236_96, r_236_96, fun q0 => (allC c_236_96_0 (allC c_236_96_1 (allC c_236_96_2 (allC c_236_96_3 (allC c_236_96_4 (allC c_236_96_5 (allC c_236_96_6 (allC c_236_96_7 (allC c_236_96_8 (allC c_236_96_9 (allC c_236_96_10 (allC c_236_96_11 (allC c_236_96_12 (allC c_236_96_13 (allC c_236_96_14 (allC c_236_96_15 allN))))))))))))))))⟩) (allC (.inl ⟨p_236_187, r_236_187, fun q0 => (allC c_236_187_0 (allC c_236_187_1 (allC c_236_187_2 (allC c_236_187_3 (allC c_236_187_4 (allC c_236_187_5 (allC c_236_187_6 (allC c_236_187_7 (allC c_236_187_8 (allC c_236_187_9 (allC c_236_187_10 (allC c_236_187_11 (allC c_236_187_12 (allC c_236_187_13 (allC c_236_187_14 (allC c_236_187_15 (allC c_236_187_16 (allC c_236_187_17 (allC c_236_187_18 allN)))))))))))))))))))⟩) allN))))
theorem o_236w : eOK e_236w L_236w cs_236 2000 (eAB A_236 B_236) mu_236 := eOK_ref (p1 := p_236w_s) o_236 (sub0 (sub1 (sub1 (sub0 (sub1 trivial))))) r_236w_s (allC c_236w_s_0 allN) (allC ⟨p_236w_12, r_236w_12, fun q0 => (allC c_236w_12_0 (allC c_236w_12_1 (allC c_236w_12_2 allN)))⟩ (allC ⟨p_236w_23, r_236w_23, fun q0 => (allC c_236w_23_0 (allC c_236w_23_1 (allC c_236w_23_2 (allC c_236w_23_3 allN))))⟩ (allC ⟨p_236w_96, r_236w_96, fun q0 => (allC c_236w_96_0 (allC c_236w_96_1 (allC c_236w_96_2 (allC c_236w_96_3 (allC c_236w_96_4 (allC c_236w_96_5 (allC c_236w_96_6 (allC c_236w_96_7 (allC c_236w_96_8 (allC c_236w_96_9 (allC c_236w_96_10 allN)))))))))))⟩ (allC ⟨p_236w_187, r_236w_187, fun q0 => (allC c_236w_187_0 (allC c_236w_187_1 (allC c_236w_187_2 (allC c_236w_187_3 (allC c_236w_187_4 allN)))))⟩ allN))))
def yb_236 (a0 : Int) (h0 h : gH) : Prop := RI h0 → 0 ≤ hV h0 285 51 → KPc h0 h ∧ (0 ≤ (absR h).1 → (absR h0).1 ≤ (absR h).1 ∧ CODr h (hV h0 285 51) (xE (vwR h0) (absR h0).1 (absR h).1) ∧ GE (xE (vwR h0) (absR h0).1 (absR h).1))
def y_236 : List Int → gH → gH → Prop := fun xs h0 h => match xs with
  | [a0] => yb_236 a0 h0 h
  | _ => True
noncomputable def e_236y : vE := eV e_236w y_236
noncomputable def L_236y : List vE := [e_216, e_217w, e_219w, e_235w, e_237y]
def Byb_236_12 (a0 x0 x1 x2 : Int) (h0 h : gH) : Prop := RI h0 → 0 ≤ hV h0 285 51 → KPc h0 h ∧ (0 ≤ (absR h).1 → RSr h (hV h0 285 51) (vwR h0) (absR h0).1 (absR h).1 1 (hV h 285 12))
def Byb_236_23 (a0 x0 x1 x2 : Int) (h0 h : gH) : Prop := RI h0 → 0 ≤ hV h0 285 51 → KPc h0 h ∧ (0 ≤ (absR h).1 → RSr h (hV h0 285 51) (vwR h0) (absR h0).1 (absR h).1 1 (hV h 285 12))
def Byb_236_96 (a0 x0 x1 x2 : Int) (h0 h : gH) : Prop := RI h0 → 0 ≤ hV h0 285 51 → KPc h0 h ∧ (0 ≤ (absR h).1 → RSr h (hV h0 285 51) (vwR h0) (absR h0).1 (absR h).1 0 (hV h 285 12))
def Byb_236_187 (a0 x0 x1 x2 : Int) (h0 h : gH) : Prop := RI h0 → 0 ≤ hV h0 285 51 → KPc h0 h ∧ (0 ≤ (absR h).1 → RSr h (hV h0 285 51) (vwR h0) (absR h0).1 (absR h).1 0 (hV h 285 12))
def By_236 : Int → List Int → gH → gH → Prop := fun c xs h0 h => match c.toNat with
  | 12 => (match xs with
    | [a0, x0, x1, x2] => Byb_236_12 a0 x0 x1 x2 h0 h
    | _ => False)
  | 23 => (match xs with
    | [a0, x0, x1, x2] => Byb_236_23 a0 x0 x1 x2 h0 h
    | _ => False)
  | 96 => (match xs with
    | [a0, x0, x1, x2] => Byb_236_96 a0 x0 x1 x2 h0 h
    | _ => False)
  | 187 => (match xs with
    | [a0, x0, x1, x2] => Byb_236_187 a0 x0 x1 x2 h0 h
    | _ => False)
  | _ => True
theorem q_236y_0 {n0 n1 n2 n3 n4 : Int} {H0 H1 : gH} (f0 : n0 = 285) (f1 : hWt T0 H0 ∧ preb_236 n0 H0) (f2 : n1 = 0) (f3 : hK H0 (n0).toNat = 12) (f4 : n2 = 55) (f5 : hUpd H1 H0 n0 n2 n1) (f6 : n3 ≤ 7) (f7 : 0 ≤ n3) (f8 : hK H1 (n0).toNat = 12) (f9 : n3 = hV H1 (n0).toNat 12) (f10 : n4 = 1) : Byb_236_12 n0 n0 n3 n4 H0 H1 := by
  unfold Byb_236_12
  intro z s0
  have d9 := rdS (q := 285) f9 f0
  have pr := f1.2
  unfold preb_236 at pr
  have g12 := f1.1 285 12 _ _ rW_12
  have p0 := PR_slot (s := 55) f5 f0 f4 (by decide) z
  have v0 : vwR H1 = vwR H0 := p0.2.1
  have ah0 : absR H1 = (absR H0) := p0.1
  have h12 : hV H1 285 12 = hV H0 285 12 := uSlot f5 285 12 (by rw [f4]; decide)
  have x0 : XRk H0 H1 := (XRk_up f5 (.inl (by rw [f0, f4]; decide)))
  refine ⟨KPc_x x0, fun hp => ?_⟩
  rw [ah0] at hp ⊢
  have hf := faultR_no z hp
  rw [show hV H1 285 12 = 0 by omega]
  exact RSr_0 x0.1.symm ((uSame f5 285 55 (by rw [f0]; rfl) (by rw [f4]; rfl)).trans f2)
def g_236y_s_0 : vG := ([(0, [4], [], 1), (20, [3, 0], [1], 12), (23, [0], [1], 12), (90, [3], [], 0), (91, [3], [], 7), (80, [0, 2, 1], [1, 0], 0), (0, [2], [], 55), (23, [0], [0], 12), (0, [1], [], 0), (6000, [0], [0], 0), (0, [0], [], 285)], (4000, [0, 3, 4], [1], 12))
theorem c_236y_s_0 : vOkm T0 (eN e_236w L_236y (eAB A_236 B_236) mu_236 y_236 By_236 none) 1 g_236y_s_0 := vOk_inI fun ρ η f0 f1 f2 f3 f4 f5 f6 f7 f8 f9 f10 => q_236y_0 (n0 := ρ 0) (n1 := ρ 1) (n2 := ρ 2) (n3 := ρ 3) (n4 := ρ 4) (H0 := η 0) (H1 := η 1) f10 f9 f8 f7 f6 f5 f4 f3 f2 f1 f0
def p_236y_s : List vG := [g_236y_s_0]
theorem r_236y_s : vCovBO (eR0 e_236w L_236w cs_236 2000) p_236y_s = true := by decide +kernel
theorem q_236y_1 {q0 : Nat} {n0 n1 n2 n3 : Int} {H0 H1 : gH} (f0 : n0 ≤ 1) (f1 : 0 ≤ n0) (f2 : n1 ≤ 7) (f3 : 0 ≤ n1) (f4 : n2 = 285) (f5 : n3 = 285) (f6 : (hLe T0 H0 H1 ∧ hFr s_236.2.2.2.2 H0 H1 ∧ hWt T0 H1) ∧ (((Ab_236_12 n3 n2 n1 n0 H0 H1 ∧ Bb_236_12 n3 n2 n1 n0 H0 H1) ∧ Byb_236_12 n3 n2 n1 n0 H0 H1) ∧ preb_236 n3 H0) ∧ some q0 = some (mub_236_12 n3 n2 n1 n0 H0 H1)) (f7 : n0 = 0) : yb_236 n3 H0 H1 := by
  unfold yb_236
  intro z s0
  have ga := f6.2.1.1.1.2
  unfold Bb_236_12 at ga
  obtain ⟨z1, op, ye⟩ := ga z
  have vz : vwR H1 = vwR H0 := vwR_fr f6.1.2.1 (by decide +kernel)
  have gy := f6.2.1.1.2
  unfold Byb_236_12 at gy
  obtain ⟨kp, ky⟩ := gy z s0
  have q7 := f7
  have pr := f6.2.1.2
  unfold preb_236 at pr
  have ab := f6.2.1.1.1.1
  unfold Ab_236_12 at ab
  have hx1 : n1 = hV H0 285 12 := ab.2.2.2.1
  have hft : hV H0 285 13 ≤ hV H1 285 13 := ab.2.2.2.2.2.2.2.2.2.1
  have lo0 := z.2.2.2.1
  have lo1 := z1.2.2.2.1
  have rg0 := f0
  have rg1 := f1
  have rg2 := f2
  have rg3 := f3
  have g12 := f6.1.2.2 285 12 _ _ rW_12
  have f0 : hV H1 285 13 = 0 → n1 = 0 := fun c => by omega
  exfalso
  have := ab.2.2.2.2.2.2.2.2.2.2
  omega
def g_236y_12_0 : vG := ([(30, [3], [], 0), (5000, [0, 1, 2, 3], [0, 1], 12), (0, [0], [], 285), (0, [1], [], 285), (90, [2], [], 0), (91, [2], [], 7), (90, [3], [], 0), (91, [3], [], 1)], (3000, [], [1], 272))
theorem c_236y_12_0 {q0 : Nat} : vOkm T0 (eN e_236w L_236y (eAB A_236 B_236) mu_236 y_236 By_236 (some q0)) 1 g_236y_12_0 := vOk_inI fun ρ η f0 f1 f2 f3 f4 f5 f6 f7 => q_236y_1 (q0 := q0) (n0 := ρ 3) (n1 := ρ 2) (n2 := ρ 1) (n3 := ρ 0) (H0 := η 0) (H1 := η 1) f7 f6 f5 f4 f3 f2 f1 f0
theorem q_236y_2 {q0 : Nat} {n0 n1 n2 n3 n4 : Int} {H0 H1 : gH} (f0 : n0 ≤ 1) (f1 : 0 ≤ n0) (f2 : n1 ≤ 7) (f3 : 0 ≤ n1) (f4 : n2 = 285) (f5 : n3 = 285) (f6 : (hLe T0 H0 H1 ∧ hFr s_236.2.2.2.2 H0 H1 ∧ hWt T0 H1) ∧ (((Ab_236_12 n3 n2 n1 n0 H0 H1 ∧ Bb_236_12 n3 n2 n1 n0 H0 H1) ∧ Byb_236_12 n3 n2 n1 n0 H0 H1) ∧ preb_236 n3 H0) ∧ some q0 = some (mub_236_12 n3 n2 n1 n0 H0 H1)) (f7 : n0 ≠ 0) (f8 : n4 ≤ 2) (f9 : 0 ≤ n4) (f10 : hK H1 (n2).toNat = 12) (f11 : n4 = hV H1 (n2).toNat 13) (f12 : n4 ≠ 0) : yb_236 n3 H0 H1 := by
  unfold yb_236
  intro z s0
  have ga := f6.2.1.1.1.2
  unfold Bb_236_12 at ga
  obtain ⟨z1, op, ye⟩ := ga z
  have vz : vwR H1 = vwR H0 := vwR_fr f6.1.2.1 (by decide +kernel)
  have gy := f6.2.1.1.2
  unfold Byb_236_12 at gy
  obtain ⟨kp, ky⟩ := gy z s0
  have d11 := rdS (q := 285) f11 f4
  have q7 := f7
  have q12 := f12
  have pr := f6.2.1.2
  unfold preb_236 at pr
  have ab := f6.2.1.1.1.1
  unfold Ab_236_12 at ab
  have hx1 : n1 = hV H0 285 12 := ab.2.2.2.1
  have hft : hV H0 285 13 ≤ hV H1 285 13 := ab.2.2.2.2.2.2.2.2.2.1
  have lo0 := z.2.2.2.1
  have lo1 := z1.2.2.2.1
  have rg0 := f0
  have rg1 := f1
  have rg2 := f2
  have rg3 := f3
  have g12 := f6.1.2.2 285 12 _ _ rW_12
  have f0 : hV H1 285 13 = 0 → n1 = 0 := fun c => by omega
  have hn := absR_neg z1 (by omega)
  exact ⟨kp, fun hp => by omega⟩
def g_236y_12_1 : vG := ([(31, [4], [], 0), (20, [4, 1], [1], 13), (23, [1], [1], 12), (90, [4], [], 0), (91, [4], [], 2), (31, [3], [], 0), (5000, [0, 1, 2, 3], [0, 1], 12), (0, [0], [], 285), (0, [1], [], 285), (90, [2], [], 0), (91, [2], [], 7), (90, [3], [], 0), (91, [3], [], 1)], (3000, [], [1], 272))
theorem c_236y_12_1 {q0 : Nat} : vOkm T0 (eN e_236w L_236y (eAB A_236 B_236) mu_236 y_236 By_236 (some q0)) 1 g_236y_12_1 := vOk_inI fun ρ η f0 f1 f2 f3 f4 f5 f6 f7 f8 f9 f10 f11 f12 => q_236y_2 (q0 := q0) (n0 := ρ 3) (n1 := ρ 2) (n2 := ρ 1) (n3 := ρ 0) (n4 := ρ 4) (H0 := η 0) (H1 := η 1) f12 f11 f10 f9 f8 f7 f6 f5 f4 f3 f2 f1 f0
theorem q_236y_3 {q0 : Nat} {n0 n1 n2 n3 n4 : Int} {H0 H1 : gH} (f0 : n0 ≤ 1) (f1 : 0 ≤ n0) (f2 : n1 ≤ 7) (f3 : 0 ≤ n1) (f4 : n2 = 285) (f5 : n3 = 285) (f6 : (hLe T0 H0 H1 ∧ hFr s_236.2.2.2.2 H0 H1 ∧ hWt T0 H1) ∧ (((Ab_236_12 n3 n2 n1 n0 H0 H1 ∧ Bb_236_12 n3 n2 n1 n0 H0 H1) ∧ Byb_236_12 n3 n2 n1 n0 H0 H1) ∧ preb_236 n3 H0) ∧ some q0 = some (mub_236_12 n3 n2 n1 n0 H0 H1)) (f7 : n0 ≠ 0) (f8 : n4 ≤ 2) (f9 : 0 ≤ n4) (f10 : hK H1 (n2).toNat = 12) (f11 : n4 = hV H1 (n2).toNat 13) (f12 : n4 = 0) : Byb_236_23 n3 n2 n1 n0 H0 H1 := by
  unfold Byb_236_23
  intro z s0
  have ga := f6.2.1.1.1.2
  unfold Bb_236_12 at ga
  obtain ⟨z1, op, ye⟩ := ga z
  have vz : vwR H1 = vwR H0 := vwR_fr f6.1.2.1 (by decide +kernel)
  have gy := f6.2.1.1.2
  unfold Byb_236_12 at gy
  obtain ⟨kp, ky⟩ := gy z s0
  have d11 := rdS (q := 285) f11 f4
  have q7 := f7
  have q12 := f12
  have pr := f6.2.1.2
  unfold preb_236 at pr
  have ab := f6.2.1.1.1.1
  unfold Ab_236_12 at ab
  have hx1 : n1 = hV H0 285 12 := ab.2.2.2.1
  have hft : hV H0 285 13 ≤ hV H1 285 13 := ab.2.2.2.2.2.2.2.2.2.1
  have lo0 := z.2.2.2.1
  have lo1 := z1.2.2.2.1
  have rg0 := f0
  have rg1 := f1
  have rg2 := f2
  have rg3 := f3
  have g12 := f6.1.2.2 285 12 _ _ rW_12
  have f0 : hV H1 285 13 = 0 → n1 = 0 := fun c => by omega
  exact ⟨kp, ky⟩
def g_236y_12_2 : vG := ([(30, [4], [], 0), (20, [4, 1], [1], 13), (23, [1], [1], 12), (90, [4], [], 0), (91, [4], [], 2), (31, [3], [], 0), (5000, [0, 1, 2, 3], [0, 1], 12), (0, [0], [], 285), (0, [1], [], 285), (90, [2], [], 0), (91, [2], [], 7), (90, [3], [], 0), (91, [3], [], 1)], (4000, [1, 2, 3], [1], 23))
theorem c_236y_12_2 {q0 : Nat} : vOkm T0 (eN e_236w L_236y (eAB A_236 B_236) mu_236 y_236 By_236 (some q0)) 1 g_236y_12_2 := vOk_inI fun ρ η f0 f1 f2 f3 f4 f5 f6 f7 f8 f9 f10 f11 f12 => q_236y_3 (q0 := q0) (n0 := ρ 3) (n1 := ρ 2) (n2 := ρ 1) (n3 := ρ 0) (n4 := ρ 4) (H0 := η 0) (H1 := η 1) f12 f11 f10 f9 f8 f7 f6 f5 f4 f3 f2 f1 f0
def p_236y_12 : List vG := [g_236y_12_0,
  g_236y_12_1,
  g_236y_12_2]
theorem r_236y_12 : vCovBO (eRc e_236w L_236w cs_236 2000 (12, [(0, (3, 12, 285, 0)), (1, (0, 0, 7, 0)), (2, (0, 0, 1, 0))])) p_236y_12 = true := by decide +kernel
theorem q_236y_4 {q0 : Nat} {n0 n1 n2 n3 n4 n5 n6 : Int} {H0 H1 H2 H3 : gH} (f0 : n0 ≤ 2147483647) (f1 : (-2147483648) ≤ n0) (f2 : n1 ≤ 7) (f3 : 0 ≤ n1) (f4 : n2 = 285) (f5 : n3 = 285) (f6 : (hLe T0 H0 H1 ∧ hFr s_236.2.2.2.2 H0 H1 ∧ hWt T0 H1) ∧ (((Ab_236_23 n3 n2 n1 n0 H0 H1 ∧ Bb_236_23 n3 n2 n1 n0 H0 H1) ∧ Byb_236_23 n3 n2 n1 n0 H0 H1) ∧ preb_236 n3 H0) ∧ some q0 = some (mub_236_23 n3 n2 n1 n0 H0 H1)) (f7 : n4 = 6) (f8 : n5 ≤ 1) (f9 : 0 ≤ n5) (f10 : (hLe T0 H1 H2 ∧ hFr s_216.2.2.2.2 H1 H2 ∧ ((0 : Int) = 0 → H2.length = H1.length) ∧ hWt T0 H2) ∧ postb_216 n5 n2 n4 H1 H2) (f11 : n5 = 0) (f12 : (hLe T0 H2 H3 ∧ hFr s_237.2.2.2.2 H2 H3 ∧ ((0 : Int) = 0 → H3.length = H2.length) ∧ hWt T0 H3) ∧ ((postb_237 n2 H2 H3 ∧ nb_237 n2 H2 H3) ∧ yb_237 n2 H2 H3)) (f13 : n6 ≤ 2) (f14 : 0 ≤ n6) (f15 : hK H3 (n2).toNat = 12) (f16 : n6 = hV H3 (n2).toNat 13) (f17 : n6 ≤ 0) : Byb_236_96 n3 n2 n1 n0 H0 H3 := by
  unfold Byb_236_96
  intro z s0
  have ga := f6.2.1.1.1.2
  unfold Bb_236_23 at ga
  obtain ⟨z1, op, ye⟩ := ga z
  have vz : vwR H1 = vwR H0 := vwR_fr f6.1.2.1 (by decide +kernel)
  have gy := f6.2.1.1.2
  unfold Byb_236_23 at gy
  obtain ⟨kp, ky⟩ := gy z s0
  have d16 := rdS (q := 285) f16 f4
  have q11 := f11
  have q17 := f17
  have pr := f6.2.1.2
  unfold preb_236 at pr
  have ab := f6.2.1.1.1.1
  unfold Ab_236_23 at ab
  have hx1 : n1 = hV H0 285 12 := ab.2.2.2.1
  have hft : hV H0 285 13 ≤ hV H1 285 13 := ab.2.2.2.2.2.2.2.2.2
  have lo0 := z.2.2.2.1
  have lo1 := z1.2.2.2.1
  have rg0 := f0
  have rg1 := f1
  have rg2 := f2
  have rg3 := f3
  have g12 := f6.1.2.2 285 12 _ _ rW_12
  have f0 : hV H1 285 13 = 0 → n1 = 0 := fun c => by omega
  have p0 := PR_fr f10.1.2.1 (by decide +kernel) z1
  have v0 : vwR H2 = vwR H0 := p0.2.1.trans vz
  have ah0 : absR H2 = (absR H1) := p0.1
  have i0 := f10.2
  unfold postb_216 at i0
  rw [f7] at i0
  have cm0 := f11
  have b0 := (isR_or (k := 6) p0.2.2.1 (by decide) i0).resolve_left (fun w => absurd (w.1.symm.trans cm0) (by decide))
  replace b0 := b0.2
  rw [v0, ah0, kmc_6] at b0
  have c1 := f12.2.1.2 p0.2.2.1
  rw [v0, ah0] at c1
  have v1 : vwR H3 = vwR H0 := (vwR_fr f12.1.2.1 (by decide +kernel)).trans v0
  have xb : XRk H1 H2 := (XRk_fr f10.1.2.1 (by decide +kernel))
  have uu := f12.2.2
  unfold yb_237 at uu
  have uu := uu p0.2.2.1
  rw [v0, ah0] at uu
  refine ⟨KPc_tr kp (KPc_tr (KPc_x xb) uu.1), fun hp => ?_⟩
  have h12 : hV H3 285 12 = hV H1 285 12 := (f12.1.2.1.1 285 12 (by decide +kernel)).trans (f10.1.2.1.1 285 12 (by decide +kernel))
  obtain ⟨u1, u2⟩ := uu.2 hp
  rw [c1.2] at hp ⊢
  have kk : (vwR H0).1 (absR H1).1 = 3 ∨ (45 ≤ (vwR H0).1 (absR H1).1 ∧ (vwR H0).1 (absR H1).1 ≤ 49) := u2.elim (fun w => .inl w.1) .inr
  unfold pUn at hp ⊢
  rw [if_pos kk] at hp ⊢
  have h1 := (pt1R_kind z hp).1
  have pn := ptkR_next z hp
  have f1 := faultR_no z1 h1
  have op1 := op f1
  rw [h12]
  exact RSr_unit (RSr_eq xb (f10.1.2.1.1 285 55 (by decide +kernel)) (fRow f10.1.2.1 322 (by decide +kernel)) (ky h1)) op1.2 u2 (fun q hq => u1 _ q s0 hq) XRk_rfl rfl rfl pn
def g_236y_23_0 : vG := ([(35, [6], [], 0), (20, [6, 1], [3], 13), (23, [1], [3], 12), (90, [6], [], 0), (91, [6], [], 2), (1237, [1], [2, 3], 0), (30, [5], [], 0), (1216, [5, 1, 4], [1, 2], 0), (90, [5], [], 0), (91, [5], [], 1), (0, [4], [], 6), (5000, [0, 1, 2, 3], [0, 1], 23), (0, [0], [], 285), (0, [1], [], 285), (90, [2], [], 0), (91, [2], [], 7), (90, [3], [], -2147483648), (91, [3], [], 2147483647)], (4000, [1, 2, 3], [3], 96))
theorem c_236y_23_0 {q0 : Nat} : vOkm T0 (eN e_236w L_236y (eAB A_236 B_236) mu_236 y_236 By_236 (some q0)) 1 g_236y_23_0 := vOk_inI fun ρ η f0 f1 f2 f3 f4 f5 f6 f7 f8 f9 f10 f11 f12 f13 f14 f15 f16 f17 => q_236y_4 (q0 := q0) (n0 := ρ 3) (n1 := ρ 2) (n2 := ρ 1) (n3 := ρ 0) (n4 := ρ 4) (n5 := ρ 5) (n6 := ρ 6) (H0 := η 0) (H1 := η 1) (H2 := η 2) (H3 := η 3) f17 f16 f15 f14 f13 f12 f11 f10 f9 f8 f7 f6 f5 f4 f3 f2 f1 f0
theorem q_236y_5 {q0 : Nat} {n0 n1 n2 n3 n4 n5 n6 : Int} {H0 H1 H2 H3 : gH} (f0 : n0 ≤ 2147483647) (f1 : (-2147483648) ≤ n0) (f2 : n1 ≤ 7) (f3 : 0 ≤ n1) (f4 : n2 = 285) (f5 : n3 = 285) (f6 : (hLe T0 H0 H1 ∧ hFr s_236.2.2.2.2 H0 H1 ∧ hWt T0 H1) ∧ (((Ab_236_23 n3 n2 n1 n0 H0 H1 ∧ Bb_236_23 n3 n2 n1 n0 H0 H1) ∧ Byb_236_23 n3 n2 n1 n0 H0 H1) ∧ preb_236 n3 H0) ∧ some q0 = some (mub_236_23 n3 n2 n1 n0 H0 H1)) (f7 : n4 = 6) (f8 : n5 ≤ 1) (f9 : 0 ≤ n5) (f10 : (hLe T0 H1 H2 ∧ hFr s_216.2.2.2.2 H1 H2 ∧ ((0 : Int) = 0 → H2.length = H1.length) ∧ hWt T0 H2) ∧ postb_216 n5 n2 n4 H1 H2) (f11 : n5 = 0) (f12 : (hLe T0 H2 H3 ∧ hFr s_237.2.2.2.2 H2 H3 ∧ ((0 : Int) = 0 → H3.length = H2.length) ∧ hWt T0 H3) ∧ ((postb_237 n2 H2 H3 ∧ nb_237 n2 H2 H3) ∧ yb_237 n2 H2 H3)) (f13 : n6 ≤ 2) (f14 : 0 ≤ n6) (f15 : hK H3 (n2).toNat = 12) (f16 : n6 = hV H3 (n2).toNat 13) (f17 : 0 < n6) : yb_236 n3 H0 H3 := by
  unfold yb_236
  intro z s0
  have ga := f6.2.1.1.1.2
  unfold Bb_236_23 at ga
  obtain ⟨z1, op, ye⟩ := ga z
  have vz : vwR H1 = vwR H0 := vwR_fr f6.1.2.1 (by decide +kernel)
  have gy := f6.2.1.1.2
  unfold Byb_236_23 at gy
  obtain ⟨kp, ky⟩ := gy z s0
  have d16 := rdS (q := 285) f16 f4
  have q11 := f11
  have q17 := f17
  have pr := f6.2.1.2
  unfold preb_236 at pr
  have ab := f6.2.1.1.1.1
  unfold Ab_236_23 at ab
  have hx1 : n1 = hV H0 285 12 := ab.2.2.2.1
  have hft : hV H0 285 13 ≤ hV H1 285 13 := ab.2.2.2.2.2.2.2.2.2
  have lo0 := z.2.2.2.1
  have lo1 := z1.2.2.2.1
  have rg0 := f0
  have rg1 := f1
  have rg2 := f2
  have rg3 := f3
  have g12 := f6.1.2.2 285 12 _ _ rW_12
  have f0 : hV H1 285 13 = 0 → n1 = 0 := fun c => by omega
  have p0 := PR_fr f10.1.2.1 (by decide +kernel) z1
  have v0 : vwR H2 = vwR H0 := p0.2.1.trans vz
  have ah0 : absR H2 = (absR H1) := p0.1
  have i0 := f10.2
  unfold postb_216 at i0
  rw [f7] at i0
  have cm0 := f11
  have b0 := (isR_or (k := 6) p0.2.2.1 (by decide) i0).resolve_left (fun w => absurd (w.1.symm.trans cm0) (by decide))
  replace b0 := b0.2
  rw [v0, ah0, kmc_6] at b0
  have c1 := f12.2.1.2 p0.2.2.1
  rw [v0, ah0] at c1
  have v1 : vwR H3 = vwR H0 := (vwR_fr f12.1.2.1 (by decide +kernel)).trans v0
  have xb : XRk H1 H2 := (XRk_fr f10.1.2.1 (by decide +kernel))
  have uu := f12.2.2
  unfold yb_237 at uu
  have uu := uu p0.2.2.1
  rw [v0, ah0] at uu
  refine ⟨KPc_tr kp (KPc_tr (KPc_x xb) uu.1), fun hp => ?_⟩
  exfalso
  have hn := absR_neg c1.1 (by omega)
  omega
def g_236y_23_1 : vG := ([(34, [6], [], 0), (20, [6, 1], [3], 13), (23, [1], [3], 12), (90, [6], [], 0), (91, [6], [], 2), (1237, [1], [2, 3], 0), (30, [5], [], 0), (1216, [5, 1, 4], [1, 2], 0), (90, [5], [], 0), (91, [5], [], 1), (0, [4], [], 6), (5000, [0, 1, 2, 3], [0, 1], 23), (0, [0], [], 285), (0, [1], [], 285), (90, [2], [], 0), (91, [2], [], 7), (90, [3], [], -2147483648), (91, [3], [], 2147483647)], (3000, [], [3], 95))
theorem c_236y_23_1 {q0 : Nat} : vOkm T0 (eN e_236w L_236y (eAB A_236 B_236) mu_236 y_236 By_236 (some q0)) 1 g_236y_23_1 := vOk_inI fun ρ η f0 f1 f2 f3 f4 f5 f6 f7 f8 f9 f10 f11 f12 f13 f14 f15 f16 f17 => q_236y_5 (q0 := q0) (n0 := ρ 3) (n1 := ρ 2) (n2 := ρ 1) (n3 := ρ 0) (n4 := ρ 4) (n5 := ρ 5) (n6 := ρ 6) (H0 := η 0) (H1 := η 1) (H2 := η 2) (H3 := η 3) f17 f16 f15 f14 f13 f12 f11 f10 f9 f8 f7 f6 f5 f4 f3 f2 f1 f0
theorem q_236y_6 {q0 : Nat} {n0 n1 n2 n3 n4 n5 n6 n7 n8 n9 n10 n11 n12 n13 n14 n15 n16 n17 n18 : Int} {H0 H1 H2 H3 H4 H5 H6 : gH} (f0 : n0 ≤ 2147483647) (f1 : (-2147483648) ≤ n0) (f2 : n1 ≤ 7) (f3 : 0 ≤ n1) (f4 : n2 = 285) (f5 : n3 = 285) (f6 : (hLe T0 H0 H1 ∧ hFr s_236.2.2.2.2 H0 H1 ∧ hWt T0 H1) ∧ (((Ab_236_23 n3 n2 n1 n0 H0 H1 ∧ Bb_236_23 n3 n2 n1 n0 H0 H1) ∧ Byb_236_23 n3 n2 n1 n0 H0 H1) ∧ preb_236 n3 H0) ∧ some q0 = some (mub_236_23 n3 n2 n1 n0 H0 H1)) (f7 : n4 = 6) (f8 : n5 ≤ 1) (f9 : 0 ≤ n5) (f10 : (hLe T0 H1 H2 ∧ hFr s_216.2.2.2.2 H1 H2 ∧ ((0 : Int) = 0 → H2.length = H1.length) ∧ hWt T0 H2) ∧ postb_216 n5 n2 n4 H1 H2) (f11 : n5 ≠ 0) (f12 : n6 ≤ 7) (f13 : 0 ≤ n6) (f14 : hK H2 (n2).toNat = 12) (f15 : n6 = hV H2 (n2).toNat 12) (f16 : n7 = 6) (f17 : n6 ≠ n7) (f18 : n8 ≤ 7) (f19 : 0 ≤ n8) (f20 : hK H2 (n2).toNat = 12) (f21 : n8 = hV H2 (n2).toNat 12) (f22 : n9 = 1) (f23 : n10 = w32 (n8 + n9)) (f24 : hK H2 (n2).toNat = 12) (f25 : n11 = 12) (f26 : hUpd H3 H2 n2 n11 n10) (f27 : (hLe T0 H3 H4 ∧ hFr s_219.2.2.2.2 H3 H4 ∧ ((0 : Int) = 0 → H4.length = H3.length) ∧ hWt T0 H4) ∧ (postb_219 n2 H3 H4 ∧ nb_219 n2 H3 H4)) (f28 : n12 = 322) (f29 : hK H4 (n2).toNat = 12) (f30 : n12 = hV H4 (n2).toNat 54) (f31 : n13 ≤ 64) (f32 : 0 ≤ n13) (f33 : hK H4 (n2).toNat = 12) (f34 : n13 = hV H4 (n2).toNat 55) (f35 : n14 = 6) (f36 : hK H4 (n12).toNat = 404) (f37 : hUpd H5 H4 n12 n13 n14) (f38 : n15 ≤ 64) (f39 : 0 ≤ n15) (f40 : hK H5 (n2).toNat = 12) (f41 : n15 = hV H5 (n2).toNat 55) (f42 : n16 = 1) (f43 : n17 = w32 (n15 + n16)) (f44 : hK H5 (n2).toNat = 12) (f45 : n18 = 55) (f46 : hUpd H6 H5 n2 n18 n17) : Byb_236_23 n3 n2 n1 n0 H0 H6 := by
  unfold Byb_236_23
  intro z s0
  have ga := f6.2.1.1.1.2
  unfold Bb_236_23 at ga
  obtain ⟨z1, op, ye⟩ := ga z
  have vz : vwR H1 = vwR H0 := vwR_fr f6.1.2.1 (by decide +kernel)
  have gy := f6.2.1.1.2
  unfold Byb_236_23 at gy
  obtain ⟨kp, ky⟩ := gy z s0
  have d15 := rdS (q := 285) f15 f4
  have d21 := rdS (q := 285) f21 f4
  have d34 := rdS (q := 285) f34 f4
  have d41 := rdS (q := 285) f41 f4
  have q11 := f11
  have q17 := f17
  have qc16 := f16
  have pr := f6.2.1.2
  unfold preb_236 at pr
  have ab := f6.2.1.1.1.1
  unfold Ab_236_23 at ab
  have hx1 : n1 = hV H0 285 12 := ab.2.2.2.1
  have hft : hV H0 285 13 ≤ hV H1 285 13 := ab.2.2.2.2.2.2.2.2.2
  have lo0 := z.2.2.2.1
  have lo1 := z1.2.2.2.1
  have rg0 := f0
  have rg1 := f1
  have rg2 := f2
  have rg3 := f3
  have g12 := f6.1.2.2 285 12 _ _ rW_12
  have f0 : hV H1 285 13 = 0 → n1 = 0 := fun c => by omega
  have rg12 := f12
  have rg13 := f13
  have rg18 := f18
  have rg19 := f19
  have rg31 := f31
  have rg32 := f32
  have rg38 := f38
  have rg39 := f39
  have p0 := PR_fr f10.1.2.1 (by decide +kernel) z1
  have v0 : vwR H2 = vwR H0 := p0.2.1.trans vz
  have ah0 : absR H2 = (absR H1) := p0.1
  have i0 := f10.2
  unfold postb_216 at i0
  rw [f7] at i0
  have cm0 := f11
  have b0 := (isR_or (k := 6) p0.2.2.1 (by decide) i0).resolve_right (fun w => cm0 w.1)
  replace b0 := b0.2
  rw [v0, ah0, kmc_6] at b0
  have p1 := PR_slot (s := 12) f26 f4 f25 (by decide) p0.2.2.1
  have v1 : vwR H3 = vwR H0 := p1.2.1.trans v0
  have ah1 : absR H3 = (absR H1) := p1.1.trans ah0
  have c2 := f27.2.2 p1.2.2.1 (by rw [v1, ah1]; rw [b0]; decide)
  rw [v1, ah1, b0] at c2
  have v2 : vwR H4 = vwR H0 := (vwR_fr f27.1.2.1 (by decide +kernel)).trans v1
  have p3 := PR_row (q := 322) f37 f28 (by decide) c2.1
  have v3 : vwR H5 = vwR H0 := p3.2.1.trans v2
  have ah3 : absR H5 = (ptk (vwR H0) 10 (absR H1)) := p3.1.trans c2.2
  have p4 := PR_slot (s := 55) f46 f4 f45 (by decide) p3.2.2.1
  have v4 : vwR H6 = vwR H0 := p4.2.1.trans v3
  have ah4 : absR H6 = (ptk (vwR H0) 10 (absR H1)) := p4.1.trans ah3
  have fz := faultR_no z1 (kdR_pos b0 (by decide))
  have op1 := op fz
  have e12_0 : n6 = hV H1 285 12 := by rw [d15, show hV H2 285 12 = hV H1 285 12 from f10.1.2.1.1 285 12 (by decide +kernel)]
  have e12_1 : n8 = hV H1 285 12 := by rw [d21, show hV H2 285 12 = hV H1 285 12 from f10.1.2.1.1 285 12 (by decide +kernel)]
  have h12 : hV H6 285 12 = n10 := (uSlot f46 285 12 (by rw [f45]; decide)).trans ((uPlace f37 285 12 (by rw [f28]; decide)).trans ((f27.1.2.1.1 285 12 (by decide +kernel)).trans (uSame f26 285 12 (by rw [f4]; rfl) (by rw [f25]; rfl))))
  have h55 : hV H6 285 55 = n17 := uSame f46 285 55 (by rw [f4]; rfl) (by rw [f45]; rfl)
  have r322 : hV H6 322 = uF (hV H1 322) n13 n14 := (uRowNe f46 322 (by rw [f4]; decide)).trans ((uRowQ f37 322 f28).trans (congrArg (fun g => uF g n13 n14) ((fRow f27.1.2.1 322 (by decide +kernel)).trans ((uRowNe f26 322 (by rw [f4]; decide)).trans ((fRow f10.1.2.1 322 (by decide +kernel)).trans rfl)))))
  rw [f35] at r322
  have e55_34 : n13 = hV H1 285 55 := by rw [d34, show hV H4 285 55 = hV H1 285 55 from (f27.1.2.1.1 285 55 (by decide +kernel)).trans ((uSlot f26 285 55 (by rw [f25]; decide)).trans (f10.1.2.1.1 285 55 (by decide +kernel)))]
  have e55_41 : n15 = hV H1 285 55 := by rw [d41, show hV H5 285 55 = hV H1 285 55 from (uPlace f37 285 55 (by rw [f28]; decide)).trans ((f27.1.2.1.1 285 55 (by decide +kernel)).trans ((uSlot f26 285 55 (by rw [f25]; decide)).trans (f10.1.2.1.1 285 55 (by decide +kernel))))]
  have s23 : n10 = n8 + 1 := by
    have q := f23
    rw [f22] at q
    rw [q]
    exact w32_id (by omega) (by omega)
  have s43 : n17 = n15 + 1 := by
    have q := f43
    rw [f42] at q
    rw [q]
    exact w32_id (by omega) (by omega)
  have x0 : XRk H1 H6 := (XRk_tr (XRk_fr f10.1.2.1 (by decide +kernel)) (XRk_tr (XRk_up f26 (.inl (by rw [f4, f25]; decide))) (XRk_tr (XRk_fr f27.1.2.1 (by decide +kernel)) (XRk_tr (XRk_up f37 (.inr (by rw [f28]; decide))) (XRk_up f46 (.inl (by rw [f4, f45]; decide)))))))
  refine ⟨KPc_tr kp (KPc_x x0), fun hp => ?_⟩
  rw [ah4] at hp ⊢
  have pn := ptkR_next z hp
  exact RSr_open (n := n13) (ky (pt1R_kind z hp).1) op1.2 b0 x0 (by omega) (by omega) r322 pn (by omega)
def g_236y_23_2 : vG := ([(80, [1, 18, 17], [6, 5], 0), (0, [18], [], 55), (23, [1], [5], 12), (1, [17, 15, 16], [], 0), (0, [16], [], 1), (20, [15, 1], [5], 55), (23, [1], [5], 12), (90, [15], [], 0), (91, [15], [], 64), (80, [12, 13, 14], [5, 4], 0), (23, [12], [4], 404), (0, [14], [], 6), (20, [13, 1], [4], 55), (23, [1], [4], 12), (90, [13], [], 0), (91, [13], [], 64), (20, [12, 1], [4], 54), (23, [1], [4], 12), (0, [12], [], 322), (1219, [1], [3, 4], 0), (80, [1, 11, 10], [3, 2], 0), (0, [11], [], 12), (23, [1], [2], 12), (1, [10, 8, 9], [], 0), (0, [9], [], 1), (20, [8, 1], [2], 12), (23, [1], [2], 12), (90, [8], [], 0), (91, [8], [], 7), (41, [6, 7], [], 0), (0, [7], [], 6), (20, [6, 1], [2], 12), (23, [1], [2], 12), (90, [6], [], 0), (91, [6], [], 7), (31, [5], [], 0), (1216, [5, 1, 4], [1, 2], 0), (90, [5], [], 0), (91, [5], [], 1), (0, [4], [], 6), (5000, [0, 1, 2, 3], [0, 1], 23), (0, [0], [], 285), (0, [1], [], 285), (90, [2], [], 0), (91, [2], [], 7), (90, [3], [], -2147483648), (91, [3], [], 2147483647)], (4000, [1, 2, 3], [6], 23))
theorem c_236y_23_2 {q0 : Nat} : vOkm T0 (eN e_236w L_236y (eAB A_236 B_236) mu_236 y_236 By_236 (some q0)) 1 g_236y_23_2 := vOk_inI fun ρ η f0 f1 f2 f3 f4 f5 f6 f7 f8 f9 f10 f11 f12 f13 f14 f15 f16 f17 f18 f19 f20 f21 f22 f23 f24 f25 f26 f27 f28 f29 f30 f31 f32 f33 f34 f35 f36 f37 f38 f39 f40 f41 f42 f43 f44 f45 f46 => q_236y_6 (q0 := q0) (n0 := ρ 3) (n1 := ρ 2) (n2 := ρ 1) (n3 := ρ 0) (n4 := ρ 4) (n5 := ρ 5) (n6 := ρ 6) (n7 := ρ 7) (n8 := ρ 8) (n9 := ρ 9) (n10 := ρ 10) (n11 := ρ 11) (n12 := ρ 12) (n13 := ρ 13) (n14 := ρ 14) (n15 := ρ 15) (n16 := ρ 16) (n17 := ρ 17) (n18 := ρ 18) (H0 := η 0) (H1 := η 1) (H2 := η 2) (H3 := η 3) (H4 := η 4) (H5 := η 5) (H6 := η 6) f46 f45 f44 f43 f42 f41 f40 f39 f38 f37 f36 f35 f34 f33 f32 f31 f30 f29 f28 f27 f26 f25 f24 f23 f22 f21 f20 f19 f18 f17 f16 f15 f14 f13 f12 f11 f10 f9 f8 f7 f6 f5 f4 f3 f2 f1 f0
theorem q_236y_7 {q0 : Nat} {n0 n1 n2 n3 n4 n5 n6 n7 n8 n9 n10 n11 n12 n13 n14 n15 n16 n17 n18 n19 : Int} {H0 H1 H2 H3 H4 H5 H6 H7 : gH} (f0 : n0 ≤ 2147483647) (f1 : (-2147483648) ≤ n0) (f2 : n1 ≤ 7) (f3 : 0 ≤ n1) (f4 : n2 = 285) (f5 : n3 = 285) (f6 : (hLe T0 H0 H1 ∧ hFr s_236.2.2.2.2 H0 H1 ∧ hWt T0 H1) ∧ (((Ab_236_23 n3 n2 n1 n0 H0 H1 ∧ Bb_236_23 n3 n2 n1 n0 H0 H1) ∧ Byb_236_23 n3 n2 n1 n0 H0 H1) ∧ preb_236 n3 H0) ∧ some q0 = some (mub_236_23 n3 n2 n1 n0 H0 H1)) (f7 : n4 = 6) (f8 : n5 ≤ 1) (f9 : 0 ≤ n5) (f10 : (hLe T0 H1 H2 ∧ hFr s_216.2.2.2.2 H1 H2 ∧ ((0 : Int) = 0 → H2.length = H1.length) ∧ hWt T0 H2) ∧ postb_216 n5 n2 n4 H1 H2) (f11 : n5 ≠ 0) (f12 : n6 ≤ 7) (f13 : 0 ≤ n6) (f14 : hK H2 (n2).toNat = 12) (f15 : n6 = hV H2 (n2).toNat 12) (f16 : n7 = 6) (f17 : n6 = n7) (f18 : n8 = 2) (f19 : (hLe T0 H2 H3 ∧ hFr s_217.2.2.2.2 H2 H3 ∧ ((0 : Int) = 0 → H3.length = H2.length) ∧ hWt T0 H3) ∧ (postb_217 n2 n8 H2 H3 ∧ nb_217 n2 n8 H2 H3)) (f20 : n9 ≤ 7) (f21 : 0 ≤ n9) (f22 : hK H3 (n2).toNat = 12) (f23 : n9 = hV H3 (n2).toNat 12) (f24 : n10 = 1) (f25 : n11 = w32 (n9 + n10)) (f26 : hK H3 (n2).toNat = 12) (f27 : n12 = 12) (f28 : hUpd H4 H3 n2 n12 n11) (f29 : (hLe T0 H4 H5 ∧ hFr s_219.2.2.2.2 H4 H5 ∧ ((0 : Int) = 0 → H5.length = H4.length) ∧ hWt T0 H5) ∧ (postb_219 n2 H4 H5 ∧ nb_219 n2 H4 H5)) (f30 : n13 = 322) (f31 : hK H5 (n2).toNat = 12) (f32 : n13 = hV H5 (n2).toNat 54) (f33 : n14 ≤ 64) (f34 : 0 ≤ n14) (f35 : hK H5 (n2).toNat = 12) (f36 : n14 = hV H5 (n2).toNat 55) (f37 : n15 = 6) (f38 : hK H5 (n13).toNat = 404) (f39 : hUpd H6 H5 n13 n14 n15) (f40 : n16 ≤ 64) (f41 : 0 ≤ n16) (f42 : hK H6 (n2).toNat = 12) (f43 : n16 = hV H6 (n2).toNat 55) (f44 : n17 = 1) (f45 : n18 = w32 (n16 + n17)) (f46 : hK H6 (n2).toNat = 12) (f47 : n19 = 55) (f48 : hUpd H7 H6 n2 n19 n18) : Byb_236_23 n3 n2 n1 n0 H0 H7 := by
  unfold Byb_236_23
  intro z s0
  have ga := f6.2.1.1.1.2
  unfold Bb_236_23 at ga
  obtain ⟨z1, op, ye⟩ := ga z
  have vz : vwR H1 = vwR H0 := vwR_fr f6.1.2.1 (by decide +kernel)
  have gy := f6.2.1.1.2
  unfold Byb_236_23 at gy
  obtain ⟨kp, ky⟩ := gy z s0
  have d15 := rdS (q := 285) f15 f4
  have d23 := rdS (q := 285) f23 f4
  have d36 := rdS (q := 285) f36 f4
  have d43 := rdS (q := 285) f43 f4
  have q11 := f11
  have q17 := f17
  have qc16 := f16
  have pr := f6.2.1.2
  unfold preb_236 at pr
  have ab := f6.2.1.1.1.1
  unfold Ab_236_23 at ab
  have hx1 : n1 = hV H0 285 12 := ab.2.2.2.1
  have hft : hV H0 285 13 ≤ hV H1 285 13 := ab.2.2.2.2.2.2.2.2.2
  have lo0 := z.2.2.2.1
  have lo1 := z1.2.2.2.1
  have rg0 := f0
  have rg1 := f1
  have rg2 := f2
  have rg3 := f3
  have g12 := f6.1.2.2 285 12 _ _ rW_12
  have f0 : hV H1 285 13 = 0 → n1 = 0 := fun c => by omega
  have rg12 := f12
  have rg13 := f13
  have rg20 := f20
  have rg21 := f21
  have rg33 := f33
  have rg34 := f34
  have rg40 := f40
  have rg41 := f41
  have p0 := PR_fr f10.1.2.1 (by decide +kernel) z1
  have v0 : vwR H2 = vwR H0 := p0.2.1.trans vz
  have ah0 : absR H2 = (absR H1) := p0.1
  have i0 := f10.2
  unfold postb_216 at i0
  rw [f7] at i0
  have cm0 := f11
  have b0 := (isR_or (k := 6) p0.2.2.1 (by decide) i0).resolve_right (fun w => cm0 w.1)
  replace b0 := b0.2
  rw [v0, ah0, kmc_6] at b0
  have c1 := f19.2.2 p0.2.2.1
  try rw [f18] at c1
  rw [v0, ah0] at c1
  have v1 : vwR H3 = vwR H0 := (vwR_fr f19.1.2.1 (by decide +kernel)).trans v0
  have p2 := PR_slot (s := 12) f28 f4 f27 (by decide) c1.1
  have v2 : vwR H4 = vwR H0 := p2.2.1.trans v1
  have ah2 : absR H4 = (pfail (vwR H0) 2 (absR H1)) := p2.1.trans c1.2
  have hn := pfailR_lt z (f := 2) (p := absR H1) (by decide)
  have cn := f29.2.2 p2.2.2.1 (by rw [v2, ah2, vwR_ok H0 _ hn]; decide)
  rw [v2, ah2, vwR_ok H0 _ hn, ptk_neg hn pfail_ok] at cn
  have vn : vwR H5 = vwR H0 := (vwR_fr f29.1.2.1 (by decide +kernel)).trans v2
  have e12_0 : n6 = hV H1 285 12 := by rw [d15, show hV H2 285 12 = hV H1 285 12 from f10.1.2.1.1 285 12 (by decide +kernel)]
  have p50 := PR_row (q := 322) f39 f30 (by decide) cn.1
  have v50 : vwR H6 = vwR H0 := p50.2.1.trans vn
  have ah50 : absR H6 = (pfail (vwR H0) 2 (absR H1)) := p50.1.trans cn.2
  have p51 := PR_slot (s := 55) f48 f4 f47 (by decide) p50.2.2.1
  have v51 : vwR H7 = vwR H0 := p51.2.1.trans v50
  have ah51 : absR H7 = (pfail (vwR H0) 2 (absR H1)) := p51.1.trans ah50
  refine ⟨KPc_tr kp (KPc_x (XRk_tr (XRk_fr f10.1.2.1 (by decide +kernel)) (XRk_tr (XRk_fr f19.1.2.1 (by decide +kernel)) (XRk_tr (XRk_up f28 (.inl (by rw [f4, f27]; decide))) (XRk_tr (XRk_fr f29.1.2.1 (by decide +kernel)) (XRk_tr (XRk_up f39 (.inr (by rw [f30]; decide))) (XRk_up f48 (.inl (by rw [f4, f47]; decide))))))))), fun hp => ?_⟩
  exfalso
  rw [ah51] at hp
  omega
def g_236y_23_3 : vG := ([(80, [1, 19, 18], [7, 6], 0), (0, [19], [], 55), (23, [1], [6], 12), (1, [18, 16, 17], [], 0), (0, [17], [], 1), (20, [16, 1], [6], 55), (23, [1], [6], 12), (90, [16], [], 0), (91, [16], [], 64), (80, [13, 14, 15], [6, 5], 0), (23, [13], [5], 404), (0, [15], [], 6), (20, [14, 1], [5], 55), (23, [1], [5], 12), (90, [14], [], 0), (91, [14], [], 64), (20, [13, 1], [5], 54), (23, [1], [5], 12), (0, [13], [], 322), (1219, [1], [4, 5], 0), (80, [1, 12, 11], [4, 3], 0), (0, [12], [], 12), (23, [1], [3], 12), (1, [11, 9, 10], [], 0), (0, [10], [], 1), (20, [9, 1], [3], 12), (23, [1], [3], 12), (90, [9], [], 0), (91, [9], [], 7), (1217, [1, 8], [2, 3], 0), (0, [8], [], 2), (40, [6, 7], [], 0), (0, [7], [], 6), (20, [6, 1], [2], 12), (23, [1], [2], 12), (90, [6], [], 0), (91, [6], [], 7), (31, [5], [], 0), (1216, [5, 1, 4], [1, 2], 0), (90, [5], [], 0), (91, [5], [], 1), (0, [4], [], 6), (5000, [0, 1, 2, 3], [0, 1], 23), (0, [0], [], 285), (0, [1], [], 285), (90, [2], [], 0), (91, [2], [], 7), (90, [3], [], -2147483648), (91, [3], [], 2147483647)], (4000, [1, 2, 3], [7], 23))
theorem c_236y_23_3 {q0 : Nat} : vOkm T0 (eN e_236w L_236y (eAB A_236 B_236) mu_236 y_236 By_236 (some q0)) 1 g_236y_23_3 := vOk_inI fun ρ η f0 f1 f2 f3 f4 f5 f6 f7 f8 f9 f10 f11 f12 f13 f14 f15 f16 f17 f18 f19 f20 f21 f22 f23 f24 f25 f26 f27 f28 f29 f30 f31 f32 f33 f34 f35 f36 f37 f38 f39 f40 f41 f42 f43 f44 f45 f46 f47 f48 => q_236y_7 (q0 := q0) (n0 := ρ 3) (n1 := ρ 2) (n2 := ρ 1) (n3 := ρ 0) (n4 := ρ 4) (n5 := ρ 5) (n6 := ρ 6) (n7 := ρ 7) (n8 := ρ 8) (n9 := ρ 9) (n10 := ρ 10) (n11 := ρ 11) (n12 := ρ 12) (n13 := ρ 13) (n14 := ρ 14) (n15 := ρ 15) (n16 := ρ 16) (n17 := ρ 17) (n18 := ρ 18) (n19 := ρ 19) (H0 := η 0) (H1 := η 1) (H2 := η 2) (H3 := η 3) (H4 := η 4) (H5 := η 5) (H6 := η 6) (H7 := η 7) f48 f47 f46 f45 f44 f43 f42 f41 f40 f39 f38 f37 f36 f35 f34 f33 f32 f31 f30 f29 f28 f27 f26 f25 f24 f23 f22 f21 f20 f19 f18 f17 f16 f15 f14 f13 f12 f11 f10 f9 f8 f7 f6 f5 f4 f3 f2 f1 f0
def p_236y_23 : List vG := [g_236y_23_0,
  g_236y_23_1,
  g_236y_23_2,
  g_236y_23_3]
theorem r_236y_23 : vCovBO (eRc e_236w L_236w cs_236 2000 (23, [(0, (3, 12, 285, 0)), (1, (0, 0, 7, 0)), (2, (0, -2147483648, 2147483647, 0))])) p_236y_23 = true := by decide +kernel
theorem q_236y_8 {q0 : Nat} {n0 n1 n2 n3 n4 n5 n6 n7 n8 : Int} {H0 H1 H2 H3 : gH} (f0 : n0 ≤ 2147483647) (f1 : (-2147483648) ≤ n0) (f2 : n1 ≤ 7) (f3 : 0 ≤ n1) (f4 : n2 = 285) (f5 : n3 = 285) (f6 : (hLe T0 H0 H1 ∧ hFr s_236.2.2.2.2 H0 H1 ∧ hWt T0 H1) ∧ (((Ab_236_96 n3 n2 n1 n0 H0 H1 ∧ Bb_236_96 n3 n2 n1 n0 H0 H1) ∧ Byb_236_96 n3 n2 n1 n0 H0 H1) ∧ preb_236 n3 H0) ∧ some q0 = some (mub_236_96 n3 n2 n1 n0 H0 H1)) (f7 : n4 = 7) (f8 : n5 ≤ 1) (f9 : 0 ≤ n5) (f10 : (hLe T0 H1 H2 ∧ hFr s_216.2.2.2.2 H1 H2 ∧ ((0 : Int) = 0 → H2.length = H1.length) ∧ hWt T0 H2) ∧ postb_216 n5 n2 n4 H1 H2) (f11 : n5 = 0) (f12 : n6 = 8) (f13 : n7 ≤ 1) (f14 : 0 ≤ n7) (f15 : (hLe T0 H2 H3 ∧ hFr s_216.2.2.2.2 H2 H3 ∧ ((0 : Int) = 0 → H3.length = H2.length) ∧ hWt T0 H3) ∧ postb_216 n7 n2 n6 H2 H3) (f16 : n7 ≠ 0) (f17 : n8 = 1) : Byb_236_187 n3 n2 n1 n8 H0 H3 := by
  unfold Byb_236_187
  intro z s0
  have ga := f6.2.1.1.1.2
  unfold Bb_236_96 at ga
  obtain ⟨z1, op, ye⟩ := ga z
  have vz : vwR H1 = vwR H0 := vwR_fr f6.1.2.1 (by decide +kernel)
  have gy := f6.2.1.1.2
  unfold Byb_236_96 at gy
  obtain ⟨kp, ky⟩ := gy z s0
  have q11 := f11
  have q16 := f16
  have pr := f6.2.1.2
  unfold preb_236 at pr
  have ab := f6.2.1.1.1.1
  unfold Ab_236_96 at ab
  have hx1 : n1 = hV H0 285 12 := ab.2.2.2.1
  have hft : hV H0 285 13 ≤ hV H1 285 13 := ab.2.2.2.2.2.2.2.2.2.2
  have lo0 := z.2.2.2.1
  have lo1 := z1.2.2.2.1
  have rg0 := f0
  have rg1 := f1
  have rg2 := f2
  have rg3 := f3
  have g12 := f6.1.2.2 285 12 _ _ rW_12
  have f0 : hV H1 285 13 = 0 → n1 = 0 := fun c => by omega
  have p0 := PR_fr f10.1.2.1 (by decide +kernel) z1
  have v0 : vwR H2 = vwR H0 := p0.2.1.trans vz
  have ah0 : absR H2 = (absR H1) := p0.1
  have i0 := f10.2
  unfold postb_216 at i0
  rw [f7] at i0
  have cm0 := f11
  have b0 := (isR_or (k := 7) p0.2.2.1 (by decide) i0).resolve_left (fun w => absurd (w.1.symm.trans cm0) (by decide))
  replace b0 := b0.2
  rw [v0, ah0, kmc_7] at b0
  have p1 := PR_fr f15.1.2.1 (by decide +kernel) p0.2.2.1
  have v1 : vwR H3 = vwR H0 := p1.2.1.trans v0
  have ah1 : absR H3 = (absR H1) := p1.1.trans ah0
  have i1 := f15.2
  unfold postb_216 at i1
  rw [f12] at i1
  have cm1 := f16
  have b1 := (isR_or (k := 8) p1.2.2.1 (by decide) i1).resolve_right (fun w => cm1 w.1)
  replace b1 := b1.2
  rw [v1, ah1, kmc_8] at b1
  have x0 : XRk H1 H3 := (XRk_tr (XRk_fr f10.1.2.1 (by decide +kernel)) (XRk_fr f15.1.2.1 (by decide +kernel)))
  have h12 : hV H3 285 12 = hV H1 285 12 := (f15.1.2.1.1 285 12 (by decide +kernel)).trans (f10.1.2.1.1 285 12 (by decide +kernel))
  refine ⟨KPc_tr kp (KPc_x x0), fun hp => ?_⟩
  rw [ah1] at hp ⊢
  rw [h12]
  exact RSr_eq x0 ((f15.1.2.1.1 285 55 (by decide +kernel)).trans (f10.1.2.1.1 285 55 (by decide +kernel))) ((fRow f15.1.2.1 322 (by decide +kernel)).trans (fRow f10.1.2.1 322 (by decide +kernel))) (ky hp)
def g_236y_96_0 : vG := ([(0, [8], [], 1), (31, [7], [], 0), (1216, [7, 1, 6], [2, 3], 0), (90, [7], [], 0), (91, [7], [], 1), (0, [6], [], 8), (30, [5], [], 0), (1216, [5, 1, 4], [1, 2], 0), (90, [5], [], 0), (91, [5], [], 1), (0, [4], [], 7), (5000, [0, 1, 2, 3], [0, 1], 96), (0, [0], [], 285), (0, [1], [], 285), (90, [2], [], 0), (91, [2], [], 7), (90, [3], [], -2147483648), (91, [3], [], 2147483647)], (4000, [1, 2, 8], [3], 187))
theorem c_236y_96_0 {q0 : Nat} : vOkm T0 (eN e_236w L_236y (eAB A_236 B_236) mu_236 y_236 By_236 (some q0)) 1 g_236y_96_0 := vOk_inI fun ρ η f0 f1 f2 f3 f4 f5 f6 f7 f8 f9 f10 f11 f12 f13 f14 f15 f16 f17 => q_236y_8 (q0 := q0) (n0 := ρ 3) (n1 := ρ 2) (n2 := ρ 1) (n3 := ρ 0) (n4 := ρ 4) (n5 := ρ 5) (n6 := ρ 6) (n7 := ρ 7) (n8 := ρ 8) (H0 := η 0) (H1 := η 1) (H2 := η 2) (H3 := η 3) f17 f16 f15 f14 f13 f12 f11 f10 f9 f8 f7 f6 f5 f4 f3 f2 f1 f0
theorem q_236y_9 {q0 : Nat} {n0 n1 n2 n3 n4 n5 n6 n7 n8 n9 n10 : Int} {H0 H1 H2 H3 H4 : gH} (f0 : n0 ≤ 2147483647) (f1 : (-2147483648) ≤ n0) (f2 : n1 ≤ 7) (f3 : 0 ≤ n1) (f4 : n2 = 285) (f5 : n3 = 285) (f6 : (hLe T0 H0 H1 ∧ hFr s_236.2.2.2.2 H0 H1 ∧ hWt T0 H1) ∧ (((Ab_236_96 n3 n2 n1 n0 H0 H1 ∧ Bb_236_96 n3 n2 n1 n0 H0 H1) ∧ Byb_236_96 n3 n2 n1 n0 H0 H1) ∧ preb_236 n3 H0) ∧ some q0 = some (mub_236_96 n3 n2 n1 n0 H0 H1)) (f7 : n4 = 7) (f8 : n5 ≤ 1) (f9 : 0 ≤ n5) (f10 : (hLe T0 H1 H2 ∧ hFr s_216.2.2.2.2 H1 H2 ∧ ((0 : Int) = 0 → H2.length = H1.length) ∧ hWt T0 H2) ∧ postb_216 n5 n2 n4 H1 H2) (f11 : n5 = 0) (f12 : n6 = 8) (f13 : n7 ≤ 1) (f14 : 0 ≤ n7) (f15 : (hLe T0 H2 H3 ∧ hFr s_216.2.2.2.2 H2 H3 ∧ ((0 : Int) = 0 → H3.length = H2.length) ∧ hWt T0 H3) ∧ postb_216 n7 n2 n6 H2 H3) (f16 : n7 = 0) (f17 : n8 = 9) (f18 : n9 ≤ 1) (f19 : 0 ≤ n9) (f20 : (hLe T0 H3 H4 ∧ hFr s_216.2.2.2.2 H3 H4 ∧ ((0 : Int) = 0 → H4.length = H3.length) ∧ hWt T0 H4) ∧ postb_216 n9 n2 n8 H3 H4) (f21 : n9 ≠ 0) (f22 : n10 = 1) : Byb_236_187 n3 n2 n1 n10 H0 H4 := by
  unfold Byb_236_187
  intro z s0
  have ga := f6.2.1.1.1.2
  unfold Bb_236_96 at ga
  obtain ⟨z1, op, ye⟩ := ga z
  have vz : vwR H1 = vwR H0 := vwR_fr f6.1.2.1 (by decide +kernel)
  have gy := f6.2.1.1.2
  unfold Byb_236_96 at gy
  obtain ⟨kp, ky⟩ := gy z s0
  have q11 := f11
  have q16 := f16
  have q21 := f21
  have pr := f6.2.1.2
  unfold preb_236 at pr
  have ab := f6.2.1.1.1.1
  unfold Ab_236_96 at ab
  have hx1 : n1 = hV H0 285 12 := ab.2.2.2.1
  have hft : hV H0 285 13 ≤ hV H1 285 13 := ab.2.2.2.2.2.2.2.2.2.2
  have lo0 := z.2.2.2.1
  have lo1 := z1.2.2.2.1
  have rg0 := f0
  have rg1 := f1
  have rg2 := f2
  have rg3 := f3
  have g12 := f6.1.2.2 285 12 _ _ rW_12
  have f0 : hV H1 285 13 = 0 → n1 = 0 := fun c => by omega
  have p0 := PR_fr f10.1.2.1 (by decide +kernel) z1
  have v0 : vwR H2 = vwR H0 := p0.2.1.trans vz
  have ah0 : absR H2 = (absR H1) := p0.1
  have i0 := f10.2
  unfold postb_216 at i0
  rw [f7] at i0
  have cm0 := f11
  have b0 := (isR_or (k := 7) p0.2.2.1 (by decide) i0).resolve_left (fun w => absurd (w.1.symm.trans cm0) (by decide))
  replace b0 := b0.2
  rw [v0, ah0, kmc_7] at b0
  have p1 := PR_fr f15.1.2.1 (by decide +kernel) p0.2.2.1
  have v1 : vwR H3 = vwR H0 := p1.2.1.trans v0
  have ah1 : absR H3 = (absR H1) := p1.1.trans ah0
  have i1 := f15.2
  unfold postb_216 at i1
  rw [f12] at i1
  have cm1 := f16
  have b1 := (isR_or (k := 8) p1.2.2.1 (by decide) i1).resolve_left (fun w => absurd (w.1.symm.trans cm1) (by decide))
  replace b1 := b1.2
  rw [v1, ah1, kmc_8] at b1
  have p2 := PR_fr f20.1.2.1 (by decide +kernel) p1.2.2.1
  have v2 : vwR H4 = vwR H0 := p2.2.1.trans v1
  have ah2 : absR H4 = (absR H1) := p2.1.trans ah1
  have i2 := f20.2
  unfold postb_216 at i2
  rw [f17] at i2
  have cm2 := f21
  have b2 := (isR_or (k := 9) p2.2.2.1 (by decide) i2).resolve_right (fun w => cm2 w.1)
  replace b2 := b2.2
  rw [v2, ah2, kmc_9] at b2
  have x0 : XRk H1 H4 := (XRk_tr (XRk_fr f10.1.2.1 (by decide +kernel)) (XRk_tr (XRk_fr f15.1.2.1 (by decide +kernel)) (XRk_fr f20.1.2.1 (by decide +kernel))))
  have h12 : hV H4 285 12 = hV H1 285 12 := (f20.1.2.1.1 285 12 (by decide +kernel)).trans ((f15.1.2.1.1 285 12 (by decide +kernel)).trans (f10.1.2.1.1 285 12 (by decide +kernel)))
  refine ⟨KPc_tr kp (KPc_x x0), fun hp => ?_⟩
  rw [ah2] at hp ⊢
  rw [h12]
  exact RSr_eq x0 ((f20.1.2.1.1 285 55 (by decide +kernel)).trans ((f15.1.2.1.1 285 55 (by decide +kernel)).trans (f10.1.2.1.1 285 55 (by decide +kernel)))) ((fRow f20.1.2.1 322 (by decide +kernel)).trans ((fRow f15.1.2.1 322 (by decide +kernel)).trans (fRow f10.1.2.1 322 (by decide +kernel)))) (ky hp)
def g_236y_96_1 : vG := ([(0, [10], [], 1), (31, [9], [], 0), (1216, [9, 1, 8], [3, 4], 0), (90, [9], [], 0), (91, [9], [], 1), (0, [8], [], 9), (30, [7], [], 0), (1216, [7, 1, 6], [2, 3], 0), (90, [7], [], 0), (91, [7], [], 1), (0, [6], [], 8), (30, [5], [], 0), (1216, [5, 1, 4], [1, 2], 0), (90, [5], [], 0), (91, [5], [], 1), (0, [4], [], 7), (5000, [0, 1, 2, 3], [0, 1], 96), (0, [0], [], 285), (0, [1], [], 285), (90, [2], [], 0), (91, [2], [], 7), (90, [3], [], -2147483648), (91, [3], [], 2147483647)], (4000, [1, 2, 10], [4], 187))
theorem c_236y_96_1 {q0 : Nat} : vOkm T0 (eN e_236w L_236y (eAB A_236 B_236) mu_236 y_236 By_236 (some q0)) 1 g_236y_96_1 := vOk_inI fun ρ η f0 f1 f2 f3 f4 f5 f6 f7 f8 f9 f10 f11 f12 f13 f14 f15 f16 f17 f18 f19 f20 f21 f22 => q_236y_9 (q0 := q0) (n0 := ρ 3) (n1 := ρ 2) (n2 := ρ 1) (n3 := ρ 0) (n4 := ρ 4) (n5 := ρ 5) (n6 := ρ 6) (n7 := ρ 7) (n8 := ρ 8) (n9 := ρ 9) (n10 := ρ 10) (H0 := η 0) (H1 := η 1) (H2 := η 2) (H3 := η 3) (H4 := η 4) f22 f21 f20 f19 f18 f17 f16 f15 f14 f13 f12 f11 f10 f9 f8 f7 f6 f5 f4 f3 f2 f1 f0
theorem q_236y_10 {q0 : Nat} {n0 n1 n2 n3 n4 n5 n6 n7 n8 n9 n10 n11 n12 : Int} {H0 H1 H2 H3 H4 H5 : gH} (f0 : n0 ≤ 2147483647) (f1 : (-2147483648) ≤ n0) (f2 : n1 ≤ 7) (f3 : 0 ≤ n1) (f4 : n2 = 285) (f5 : n3 = 285) (f6 : (hLe T0 H0 H1 ∧ hFr s_236.2.2.2.2 H0 H1 ∧ hWt T0 H1) ∧ (((Ab_236_96 n3 n2 n1 n0 H0 H1 ∧ Bb_236_96 n3 n2 n1 n0 H0 H1) ∧ Byb_236_96 n3 n2 n1 n0 H0 H1) ∧ preb_236 n3 H0) ∧ some q0 = some (mub_236_96 n3 n2 n1 n0 H0 H1)) (f7 : n4 = 7) (f8 : n5 ≤ 1) (f9 : 0 ≤ n5) (f10 : (hLe T0 H1 H2 ∧ hFr s_216.2.2.2.2 H1 H2 ∧ ((0 : Int) = 0 → H2.length = H1.length) ∧ hWt T0 H2) ∧ postb_216 n5 n2 n4 H1 H2) (f11 : n5 = 0) (f12 : n6 = 8) (f13 : n7 ≤ 1) (f14 : 0 ≤ n7) (f15 : (hLe T0 H2 H3 ∧ hFr s_216.2.2.2.2 H2 H3 ∧ ((0 : Int) = 0 → H3.length = H2.length) ∧ hWt T0 H3) ∧ postb_216 n7 n2 n6 H2 H3) (f16 : n7 = 0) (f17 : n8 = 9) (f18 : n9 ≤ 1) (f19 : 0 ≤ n9) (f20 : (hLe T0 H3 H4 ∧ hFr s_216.2.2.2.2 H3 H4 ∧ ((0 : Int) = 0 → H4.length = H3.length) ∧ hWt T0 H4) ∧ postb_216 n9 n2 n8 H3 H4) (f21 : n9 = 0) (f22 : n10 = 10) (f23 : n11 ≤ 1) (f24 : 0 ≤ n11) (f25 : (hLe T0 H4 H5 ∧ hFr s_216.2.2.2.2 H4 H5 ∧ ((0 : Int) = 0 → H5.length = H4.length) ∧ hWt T0 H5) ∧ postb_216 n11 n2 n10 H4 H5) (f26 : n11 ≠ 0) (f27 : n12 = 1) : Byb_236_187 n3 n2 n1 n12 H0 H5 := by
  unfold Byb_236_187
  intro z s0
  have ga := f6.2.1.1.1.2
  unfold Bb_236_96 at ga
  obtain ⟨z1, op, ye⟩ := ga z
  have vz : vwR H1 = vwR H0 := vwR_fr f6.1.2.1 (by decide +kernel)
  have gy := f6.2.1.1.2
  unfold Byb_236_96 at gy
  obtain ⟨kp, ky⟩ := gy z s0
  have q11 := f11
  have q16 := f16
  have q21 := f21
  have q26 := f26
  have pr := f6.2.1.2
  unfold preb_236 at pr
  have ab := f6.2.1.1.1.1
  unfold Ab_236_96 at ab
  have hx1 : n1 = hV H0 285 12 := ab.2.2.2.1
  have hft : hV H0 285 13 ≤ hV H1 285 13 := ab.2.2.2.2.2.2.2.2.2.2
  have lo0 := z.2.2.2.1
  have lo1 := z1.2.2.2.1
  have rg0 := f0
  have rg1 := f1
  have rg2 := f2
  have rg3 := f3
  have g12 := f6.1.2.2 285 12 _ _ rW_12
  have f0 : hV H1 285 13 = 0 → n1 = 0 := fun c => by omega
  have p0 := PR_fr f10.1.2.1 (by decide +kernel) z1
  have v0 : vwR H2 = vwR H0 := p0.2.1.trans vz
  have ah0 : absR H2 = (absR H1) := p0.1
  have i0 := f10.2
  unfold postb_216 at i0
  rw [f7] at i0
  have cm0 := f11
  have b0 := (isR_or (k := 7) p0.2.2.1 (by decide) i0).resolve_left (fun w => absurd (w.1.symm.trans cm0) (by decide))
  replace b0 := b0.2
  rw [v0, ah0, kmc_7] at b0
  have p1 := PR_fr f15.1.2.1 (by decide +kernel) p0.2.2.1
  have v1 : vwR H3 = vwR H0 := p1.2.1.trans v0
  have ah1 : absR H3 = (absR H1) := p1.1.trans ah0
  have i1 := f15.2
  unfold postb_216 at i1
  rw [f12] at i1
  have cm1 := f16
  have b1 := (isR_or (k := 8) p1.2.2.1 (by decide) i1).resolve_left (fun w => absurd (w.1.symm.trans cm1) (by decide))
  replace b1 := b1.2
  rw [v1, ah1, kmc_8] at b1
  have p2 := PR_fr f20.1.2.1 (by decide +kernel) p1.2.2.1
  have v2 : vwR H4 = vwR H0 := p2.2.1.trans v1
  have ah2 : absR H4 = (absR H1) := p2.1.trans ah1
  have i2 := f20.2
  unfold postb_216 at i2
  rw [f17] at i2
  have cm2 := f21
  have b2 := (isR_or (k := 9) p2.2.2.1 (by decide) i2).resolve_left (fun w => absurd (w.1.symm.trans cm2) (by decide))
  replace b2 := b2.2
  rw [v2, ah2, kmc_9] at b2
  have p3 := PR_fr f25.1.2.1 (by decide +kernel) p2.2.2.1
  have v3 : vwR H5 = vwR H0 := p3.2.1.trans v2
  have ah3 : absR H5 = (absR H1) := p3.1.trans ah2
  have i3 := f25.2
  unfold postb_216 at i3
  rw [f22] at i3
  have cm3 := f26
  have b3 := (isR_or (k := 10) p3.2.2.1 (by decide) i3).resolve_right (fun w => cm3 w.1)
  replace b3 := b3.2
  rw [v3, ah3, kmc_10] at b3
  have x0 : XRk H1 H5 := (XRk_tr (XRk_fr f10.1.2.1 (by decide +kernel)) (XRk_tr (XRk_fr f15.1.2.1 (by decide +kernel)) (XRk_tr (XRk_fr f20.1.2.1 (by decide +kernel)) (XRk_fr f25.1.2.1 (by decide +kernel)))))
  have h12 : hV H5 285 12 = hV H1 285 12 := (f25.1.2.1.1 285 12 (by decide +kernel)).trans ((f20.1.2.1.1 285 12 (by decide +kernel)).trans ((f15.1.2.1.1 285 12 (by decide +kernel)).trans (f10.1.2.1.1 285 12 (by decide +kernel))))
  refine ⟨KPc_tr kp (KPc_x x0), fun hp => ?_⟩
  rw [ah3] at hp ⊢
  rw [h12]
  exact RSr_eq x0 ((f25.1.2.1.1 285 55 (by decide +kernel)).trans ((f20.1.2.1.1 285 55 (by decide +kernel)).trans ((f15.1.2.1.1 285 55 (by decide +kernel)).trans (f10.1.2.1.1 285 55 (by decide +kernel))))) ((fRow f25.1.2.1 322 (by decide +kernel)).trans ((fRow f20.1.2.1 322 (by decide +kernel)).trans ((fRow f15.1.2.1 322 (by decide +kernel)).trans (fRow f10.1.2.1 322 (by decide +kernel))))) (ky hp)
def g_236y_96_2 : vG := ([(0, [12], [], 1), (31, [11], [], 0), (1216, [11, 1, 10], [4, 5], 0), (90, [11], [], 0), (91, [11], [], 1), (0, [10], [], 10), (30, [9], [], 0), (1216, [9, 1, 8], [3, 4], 0), (90, [9], [], 0), (91, [9], [], 1), (0, [8], [], 9), (30, [7], [], 0), (1216, [7, 1, 6], [2, 3], 0), (90, [7], [], 0), (91, [7], [], 1), (0, [6], [], 8), (30, [5], [], 0), (1216, [5, 1, 4], [1, 2], 0), (90, [5], [], 0), (91, [5], [], 1), (0, [4], [], 7), (5000, [0, 1, 2, 3], [0, 1], 96), (0, [0], [], 285), (0, [1], [], 285), (90, [2], [], 0), (91, [2], [], 7), (90, [3], [], -2147483648), (91, [3], [], 2147483647)], (4000, [1, 2, 12], [5], 187))
theorem c_236y_96_2 {q0 : Nat} : vOkm T0 (eN e_236w L_236y (eAB A_236 B_236) mu_236 y_236 By_236 (some q0)) 1 g_236y_96_2 := vOk_inI fun ρ η f0 f1 f2 f3 f4 f5 f6 f7 f8 f9 f10 f11 f12 f13 f14 f15 f16 f17 f18 f19 f20 f21 f22 f23 f24 f25 f26 f27 => q_236y_10 (q0 := q0) (n0 := ρ 3) (n1 := ρ 2) (n2 := ρ 1) (n3 := ρ 0) (n4 := ρ 4) (n5 := ρ 5) (n6 := ρ 6) (n7 := ρ 7) (n8 := ρ 8) (n9 := ρ 9) (n10 := ρ 10) (n11 := ρ 11) (n12 := ρ 12) (H0 := η 0) (H1 := η 1) (H2 := η 2) (H3 := η 3) (H4 := η 4) (H5 := η 5) f27 f26 f25 f24 f23 f22 f21 f20 f19 f18 f17 f16 f15 f14 f13 f12 f11 f10 f9 f8 f7 f6 f5 f4 f3 f2 f1 f0
theorem q_236y_11 {q0 : Nat} {n0 n1 n2 n3 n4 n5 n6 n7 n8 n9 n10 n11 n12 n13 n14 : Int} {H0 H1 H2 H3 H4 H5 H6 : gH} (f0 : n0 ≤ 2147483647) (f1 : (-2147483648) ≤ n0) (f2 : n1 ≤ 7) (f3 : 0 ≤ n1) (f4 : n2 = 285) (f5 : n3 = 285) (f6 : (hLe T0 H0 H1 ∧ hFr s_236.2.2.2.2 H0 H1 ∧ hWt T0 H1) ∧ (((Ab_236_96 n3 n2 n1 n0 H0 H1 ∧ Bb_236_96 n3 n2 n1 n0 H0 H1) ∧ Byb_236_96 n3 n2 n1 n0 H0 H1) ∧ preb_236 n3 H0) ∧ some q0 = some (mub_236_96 n3 n2 n1 n0 H0 H1)) (f7 : n4 = 7) (f8 : n5 ≤ 1) (f9 : 0 ≤ n5) (f10 : (hLe T0 H1 H2 ∧ hFr s_216.2.2.2.2 H1 H2 ∧ ((0 : Int) = 0 → H2.length = H1.length) ∧ hWt T0 H2) ∧ postb_216 n5 n2 n4 H1 H2) (f11 : n5 = 0) (f12 : n6 = 8) (f13 : n7 ≤ 1) (f14 : 0 ≤ n7) (f15 : (hLe T0 H2 H3 ∧ hFr s_216.2.2.2.2 H2 H3 ∧ ((0 : Int) = 0 → H3.length = H2.length) ∧ hWt T0 H3) ∧ postb_216 n7 n2 n6 H2 H3) (f16 : n7 = 0) (f17 : n8 = 9) (f18 : n9 ≤ 1) (f19 : 0 ≤ n9) (f20 : (hLe T0 H3 H4 ∧ hFr s_216.2.2.2.2 H3 H4 ∧ ((0 : Int) = 0 → H4.length = H3.length) ∧ hWt T0 H4) ∧ postb_216 n9 n2 n8 H3 H4) (f21 : n9 = 0) (f22 : n10 = 10) (f23 : n11 ≤ 1) (f24 : 0 ≤ n11) (f25 : (hLe T0 H4 H5 ∧ hFr s_216.2.2.2.2 H4 H5 ∧ ((0 : Int) = 0 → H5.length = H4.length) ∧ hWt T0 H5) ∧ postb_216 n11 n2 n10 H4 H5) (f26 : n11 = 0) (f27 : n12 = 15) (f28 : n13 ≤ 1) (f29 : 0 ≤ n13) (f30 : (hLe T0 H5 H6 ∧ hFr s_216.2.2.2.2 H5 H6 ∧ ((0 : Int) = 0 → H6.length = H5.length) ∧ hWt T0 H6) ∧ postb_216 n13 n2 n12 H5 H6) (f31 : n13 = 0) (f32 : n14 = 0) : Byb_236_187 n3 n2 n1 n14 H0 H6 := by
  unfold Byb_236_187
  intro z s0
  have ga := f6.2.1.1.1.2
  unfold Bb_236_96 at ga
  obtain ⟨z1, op, ye⟩ := ga z
  have vz : vwR H1 = vwR H0 := vwR_fr f6.1.2.1 (by decide +kernel)
  have gy := f6.2.1.1.2
  unfold Byb_236_96 at gy
  obtain ⟨kp, ky⟩ := gy z s0
  have q11 := f11
  have q16 := f16
  have q21 := f21
  have q26 := f26
  have q31 := f31
  have pr := f6.2.1.2
  unfold preb_236 at pr
  have ab := f6.2.1.1.1.1
  unfold Ab_236_96 at ab
  have hx1 : n1 = hV H0 285 12 := ab.2.2.2.1
  have hft : hV H0 285 13 ≤ hV H1 285 13 := ab.2.2.2.2.2.2.2.2.2.2
  have lo0 := z.2.2.2.1
  have lo1 := z1.2.2.2.1
  have rg0 := f0
  have rg1 := f1
  have rg2 := f2
  have rg3 := f3
  have g12 := f6.1.2.2 285 12 _ _ rW_12
  have f0 : hV H1 285 13 = 0 → n1 = 0 := fun c => by omega
  have p0 := PR_fr f10.1.2.1 (by decide +kernel) z1
  have v0 : vwR H2 = vwR H0 := p0.2.1.trans vz
  have ah0 : absR H2 = (absR H1) := p0.1
  have i0 := f10.2
  unfold postb_216 at i0
  rw [f7] at i0
  have cm0 := f11
  have b0 := (isR_or (k := 7) p0.2.2.1 (by decide) i0).resolve_left (fun w => absurd (w.1.symm.trans cm0) (by decide))
  replace b0 := b0.2
  rw [v0, ah0, kmc_7] at b0
  have p1 := PR_fr f15.1.2.1 (by decide +kernel) p0.2.2.1
  have v1 : vwR H3 = vwR H0 := p1.2.1.trans v0
  have ah1 : absR H3 = (absR H1) := p1.1.trans ah0
  have i1 := f15.2
  unfold postb_216 at i1
  rw [f12] at i1
  have cm1 := f16
  have b1 := (isR_or (k := 8) p1.2.2.1 (by decide) i1).resolve_left (fun w => absurd (w.1.symm.trans cm1) (by decide))
  replace b1 := b1.2
  rw [v1, ah1, kmc_8] at b1
  have p2 := PR_fr f20.1.2.1 (by decide +kernel) p1.2.2.1
  have v2 : vwR H4 = vwR H0 := p2.2.1.trans v1
  have ah2 : absR H4 = (absR H1) := p2.1.trans ah1
  have i2 := f20.2
  unfold postb_216 at i2
  rw [f17] at i2
  have cm2 := f21
  have b2 := (isR_or (k := 9) p2.2.2.1 (by decide) i2).resolve_left (fun w => absurd (w.1.symm.trans cm2) (by decide))
  replace b2 := b2.2
  rw [v2, ah2, kmc_9] at b2
  have p3 := PR_fr f25.1.2.1 (by decide +kernel) p2.2.2.1
  have v3 : vwR H5 = vwR H0 := p3.2.1.trans v2
  have ah3 : absR H5 = (absR H1) := p3.1.trans ah2
  have i3 := f25.2
  unfold postb_216 at i3
  rw [f22] at i3
  have cm3 := f26
  have b3 := (isR_or (k := 10) p3.2.2.1 (by decide) i3).resolve_left (fun w => absurd (w.1.symm.trans cm3) (by decide))
  replace b3 := b3.2
  rw [v3, ah3, kmc_10] at b3
  have p4 := PR_fr f30.1.2.1 (by decide +kernel) p3.2.2.1
  have v4 : vwR H6 = vwR H0 := p4.2.1.trans v3
  have ah4 : absR H6 = (absR H1) := p4.1.trans ah3
  have i4 := f30.2
  unfold postb_216 at i4
  rw [f27] at i4
  have cm4 := f31
  have b4 := (isR_or (k := 15) p4.2.2.1 (by decide) i4).resolve_left (fun w => absurd (w.1.symm.trans cm4) (by decide))
  replace b4 := b4.2
  rw [v4, ah4, kmc_15] at b4
  have x0 : XRk H1 H6 := (XRk_tr (XRk_fr f10.1.2.1 (by decide +kernel)) (XRk_tr (XRk_fr f15.1.2.1 (by decide +kernel)) (XRk_tr (XRk_fr f20.1.2.1 (by decide +kernel)) (XRk_tr (XRk_fr f25.1.2.1 (by decide +kernel)) (XRk_fr f30.1.2.1 (by decide +kernel))))))
  have h12 : hV H6 285 12 = hV H1 285 12 := (f30.1.2.1.1 285 12 (by decide +kernel)).trans ((f25.1.2.1.1 285 12 (by decide +kernel)).trans ((f20.1.2.1.1 285 12 (by decide +kernel)).trans ((f15.1.2.1.1 285 12 (by decide +kernel)).trans (f10.1.2.1.1 285 12 (by decide +kernel)))))
  refine ⟨KPc_tr kp (KPc_x x0), fun hp => ?_⟩
  rw [ah4] at hp ⊢
  rw [h12]
  exact RSr_eq x0 ((f30.1.2.1.1 285 55 (by decide +kernel)).trans ((f25.1.2.1.1 285 55 (by decide +kernel)).trans ((f20.1.2.1.1 285 55 (by decide +kernel)).trans ((f15.1.2.1.1 285 55 (by decide +kernel)).trans (f10.1.2.1.1 285 55 (by decide +kernel)))))) ((fRow f30.1.2.1 322 (by decide +kernel)).trans ((fRow f25.1.2.1 322 (by decide +kernel)).trans ((fRow f20.1.2.1 322 (by decide +kernel)).trans ((fRow f15.1.2.1 322 (by decide +kernel)).trans (fRow f10.1.2.1 322 (by decide +kernel)))))) (ky hp)
def g_236y_96_3 : vG := ([(0, [14], [], 0), (30, [13], [], 0), (1216, [13, 1, 12], [5, 6], 0), (90, [13], [], 0), (91, [13], [], 1), (0, [12], [], 15), (30, [11], [], 0), (1216, [11, 1, 10], [4, 5], 0), (90, [11], [], 0), (91, [11], [], 1), (0, [10], [], 10), (30, [9], [], 0), (1216, [9, 1, 8], [3, 4], 0), (90, [9], [], 0), (91, [9], [], 1), (0, [8], [], 9), (30, [7], [], 0), (1216, [7, 1, 6], [2, 3], 0), (90, [7], [], 0), (91, [7], [], 1), (0, [6], [], 8), (30, [5], [], 0), (1216, [5, 1, 4], [1, 2], 0), (90, [5], [], 0), (91, [5], [], 1), (0, [4], [], 7), (5000, [0, 1, 2, 3], [0, 1], 96), (0, [0], [], 285), (0, [1], [], 285), (90, [2], [], 0), (91, [2], [], 7), (90, [3], [], -2147483648), (91, [3], [], 2147483647)], (4000, [1, 2, 14], [6], 187))
theorem c_236y_96_3 {q0 : Nat} : vOkm T0 (eN e_236w L_236y (eAB A_236 B_236) mu_236 y_236 By_236 (some q0)) 1 g_236y_96_3 := vOk_inI fun ρ η f0 f1 f2 f3 f4 f5 f6 f7 f8 f9 f10 f11 f12 f13 f14 f15 f16 f17 f18 f19 f20 f21 f22 f23 f24 f25 f26 f27 f28 f29 f30 f31 f32 => q_236y_11 (q0 := q0) (n0 := ρ 3) (n1 := ρ 2) (n2 := ρ 1) (n3 := ρ 0) (n4 := ρ 4) (n5 := ρ 5) (n6 := ρ 6) (n7 := ρ 7) (n8 := ρ 8) (n9 := ρ 9) (n10 := ρ 10) (n11 := ρ 11) (n12 := ρ 12) (n13 := ρ 13) (n14 := ρ 14) (H0 := η 0) (H1 := η 1) (H2 := η 2) (H3 := η 3) (H4 := η 4) (H5 := η 5) (H6 := η 6) f32 f31 f30 f29 f28 f27 f26 f25 f24 f23 f22 f21 f20 f19 f18 f17 f16 f15 f14 f13 f12 f11 f10 f9 f8 f7 f6 f5 f4 f3 f2 f1 f0
theorem q_236y_12 {q0 : Nat} {n0 n1 n2 n3 n4 n5 n6 n7 n8 n9 n10 n11 n12 n13 n14 : Int} {H0 H1 H2 H3 H4 H5 H6 : gH} (f0 : n0 ≤ 2147483647) (f1 : (-2147483648) ≤ n0) (f2 : n1 ≤ 7) (f3 : 0 ≤ n1) (f4 : n2 = 285) (f5 : n3 = 285) (f6 : (hLe T0 H0 H1 ∧ hFr s_236.2.2.2.2 H0 H1 ∧ hWt T0 H1) ∧ (((Ab_236_96 n3 n2 n1 n0 H0 H1 ∧ Bb_236_96 n3 n2 n1 n0 H0 H1) ∧ Byb_236_96 n3 n2 n1 n0 H0 H1) ∧ preb_236 n3 H0) ∧ some q0 = some (mub_236_96 n3 n2 n1 n0 H0 H1)) (f7 : n4 = 7) (f8 : n5 ≤ 1) (f9 : 0 ≤ n5) (f10 : (hLe T0 H1 H2 ∧ hFr s_216.2.2.2.2 H1 H2 ∧ ((0 : Int) = 0 → H2.length = H1.length) ∧ hWt T0 H2) ∧ postb_216 n5 n2 n4 H1 H2) (f11 : n5 = 0) (f12 : n6 = 8) (f13 : n7 ≤ 1) (f14 : 0 ≤ n7) (f15 : (hLe T0 H2 H3 ∧ hFr s_216.2.2.2.2 H2 H3 ∧ ((0 : Int) = 0 → H3.length = H2.length) ∧ hWt T0 H3) ∧ postb_216 n7 n2 n6 H2 H3) (f16 : n7 = 0) (f17 : n8 = 9) (f18 : n9 ≤ 1) (f19 : 0 ≤ n9) (f20 : (hLe T0 H3 H4 ∧ hFr s_216.2.2.2.2 H3 H4 ∧ ((0 : Int) = 0 → H4.length = H3.length) ∧ hWt T0 H4) ∧ postb_216 n9 n2 n8 H3 H4) (f21 : n9 = 0) (f22 : n10 = 10) (f23 : n11 ≤ 1) (f24 : 0 ≤ n11) (f25 : (hLe T0 H4 H5 ∧ hFr s_216.2.2.2.2 H4 H5 ∧ ((0 : Int) = 0 → H5.length = H4.length) ∧ hWt T0 H5) ∧ postb_216 n11 n2 n10 H4 H5) (f26 : n11 = 0) (f27 : n12 = 15) (f28 : n13 ≤ 1) (f29 : 0 ≤ n13) (f30 : (hLe T0 H5 H6 ∧ hFr s_216.2.2.2.2 H5 H6 ∧ ((0 : Int) = 0 → H6.length = H5.length) ∧ hWt T0 H6) ∧ postb_216 n13 n2 n12 H5 H6) (f31 : n13 ≠ 0) (f32 : n14 = 1) : Byb_236_187 n3 n2 n1 n14 H0 H6 := by
  unfold Byb_236_187
  intro z s0
  have ga := f6.2.1.1.1.2
  unfold Bb_236_96 at ga
  obtain ⟨z1, op, ye⟩ := ga z
  have vz : vwR H1 = vwR H0 := vwR_fr f6.1.2.1 (by decide +kernel)
  have gy := f6.2.1.1.2
  unfold Byb_236_96 at gy
  obtain ⟨kp, ky⟩ := gy z s0
  have q11 := f11
  have q16 := f16
  have q21 := f21
  have q26 := f26
  have q31 := f31
  have pr := f6.2.1.2
  unfold preb_236 at pr
  have ab := f6.2.1.1.1.1
  unfold Ab_236_96 at ab
  have hx1 : n1 = hV H0 285 12 := ab.2.2.2.1
  have hft : hV H0 285 13 ≤ hV H1 285 13 := ab.2.2.2.2.2.2.2.2.2.2
  have lo0 := z.2.2.2.1
  have lo1 := z1.2.2.2.1
  have rg0 := f0
  have rg1 := f1
  have rg2 := f2
  have rg3 := f3
  have g12 := f6.1.2.2 285 12 _ _ rW_12
  have f0 : hV H1 285 13 = 0 → n1 = 0 := fun c => by omega
  have p0 := PR_fr f10.1.2.1 (by decide +kernel) z1
  have v0 : vwR H2 = vwR H0 := p0.2.1.trans vz
  have ah0 : absR H2 = (absR H1) := p0.1
  have i0 := f10.2
  unfold postb_216 at i0
  rw [f7] at i0
  have cm0 := f11
  have b0 := (isR_or (k := 7) p0.2.2.1 (by decide) i0).resolve_left (fun w => absurd (w.1.symm.trans cm0) (by decide))
  replace b0 := b0.2
  rw [v0, ah0, kmc_7] at b0
  have p1 := PR_fr f15.1.2.1 (by decide +kernel) p0.2.2.1
  have v1 : vwR H3 = vwR H0 := p1.2.1.trans v0
  have ah1 : absR H3 = (absR H1) := p1.1.trans ah0
  have i1 := f15.2
  unfold postb_216 at i1
  rw [f12] at i1
  have cm1 := f16
  have b1 := (isR_or (k := 8) p1.2.2.1 (by decide) i1).resolve_left (fun w => absurd (w.1.symm.trans cm1) (by decide))
  replace b1 := b1.2
  rw [v1, ah1, kmc_8] at b1
  have p2 := PR_fr f20.1.2.1 (by decide +kernel) p1.2.2.1
  have v2 : vwR H4 = vwR H0 := p2.2.1.trans v1
  have ah2 : absR H4 = (absR H1) := p2.1.trans ah1
  have i2 := f20.2
  unfold postb_216 at i2
  rw [f17] at i2
  have cm2 := f21
  have b2 := (isR_or (k := 9) p2.2.2.1 (by decide) i2).resolve_left (fun w => absurd (w.1.symm.trans cm2) (by decide))
  replace b2 := b2.2
  rw [v2, ah2, kmc_9] at b2
  have p3 := PR_fr f25.1.2.1 (by decide +kernel) p2.2.2.1
  have v3 : vwR H5 = vwR H0 := p3.2.1.trans v2
  have ah3 : absR H5 = (absR H1) := p3.1.trans ah2
  have i3 := f25.2
  unfold postb_216 at i3
  rw [f22] at i3
  have cm3 := f26
  have b3 := (isR_or (k := 10) p3.2.2.1 (by decide) i3).resolve_left (fun w => absurd (w.1.symm.trans cm3) (by decide))
  replace b3 := b3.2
  rw [v3, ah3, kmc_10] at b3
  have p4 := PR_fr f30.1.2.1 (by decide +kernel) p3.2.2.1
  have v4 : vwR H6 = vwR H0 := p4.2.1.trans v3
  have ah4 : absR H6 = (absR H1) := p4.1.trans ah3
  have i4 := f30.2
  unfold postb_216 at i4
  rw [f27] at i4
  have cm4 := f31
  have b4 := (isR_or (k := 15) p4.2.2.1 (by decide) i4).resolve_right (fun w => cm4 w.1)
  replace b4 := b4.2
  rw [v4, ah4, kmc_15] at b4
  have x0 : XRk H1 H6 := (XRk_tr (XRk_fr f10.1.2.1 (by decide +kernel)) (XRk_tr (XRk_fr f15.1.2.1 (by decide +kernel)) (XRk_tr (XRk_fr f20.1.2.1 (by decide +kernel)) (XRk_tr (XRk_fr f25.1.2.1 (by decide +kernel)) (XRk_fr f30.1.2.1 (by decide +kernel))))))
  have h12 : hV H6 285 12 = hV H1 285 12 := (f30.1.2.1.1 285 12 (by decide +kernel)).trans ((f25.1.2.1.1 285 12 (by decide +kernel)).trans ((f20.1.2.1.1 285 12 (by decide +kernel)).trans ((f15.1.2.1.1 285 12 (by decide +kernel)).trans (f10.1.2.1.1 285 12 (by decide +kernel)))))
  refine ⟨KPc_tr kp (KPc_x x0), fun hp => ?_⟩
  rw [ah4] at hp ⊢
  rw [h12]
  exact RSr_eq x0 ((f30.1.2.1.1 285 55 (by decide +kernel)).trans ((f25.1.2.1.1 285 55 (by decide +kernel)).trans ((f20.1.2.1.1 285 55 (by decide +kernel)).trans ((f15.1.2.1.1 285 55 (by decide +kernel)).trans (f10.1.2.1.1 285 55 (by decide +kernel)))))) ((fRow f30.1.2.1 322 (by decide +kernel)).trans ((fRow f25.1.2.1 322 (by decide +kernel)).trans ((fRow f20.1.2.1 322 (by decide +kernel)).trans ((fRow f15.1.2.1 322 (by decide +kernel)).trans (fRow f10.1.2.1 322 (by decide +kernel)))))) (ky hp)
def g_236y_96_4 : vG := ([(0, [14], [], 1), (31, [13], [], 0), (1216, [13, 1, 12], [5, 6], 0), (90, [13], [], 0), (91, [13], [], 1), (0, [12], [], 15), (30, [11], [], 0), (1216, [11, 1, 10], [4, 5], 0), (90, [11], [], 0), (91, [11], [], 1), (0, [10], [], 10), (30, [9], [], 0), (1216, [9, 1, 8], [3, 4], 0), (90, [9], [], 0), (91, [9], [], 1), (0, [8], [], 9), (30, [7], [], 0), (1216, [7, 1, 6], [2, 3], 0), (90, [7], [], 0), (91, [7], [], 1), (0, [6], [], 8), (30, [5], [], 0), (1216, [5, 1, 4], [1, 2], 0), (90, [5], [], 0), (91, [5], [], 1), (0, [4], [], 7), (5000, [0, 1, 2, 3], [0, 1], 96), (0, [0], [], 285), (0, [1], [], 285), (90, [2], [], 0), (91, [2], [], 7), (90, [3], [], -2147483648), (91, [3], [], 2147483647)], (4000, [1, 2, 14], [6], 187))
theorem c_236y_96_4 {q0 : Nat} : vOkm T0 (eN e_236w L_236y (eAB A_236 B_236) mu_236 y_236 By_236 (some q0)) 1 g_236y_96_4 := vOk_inI fun ρ η f0 f1 f2 f3 f4 f5 f6 f7 f8 f9 f10 f11 f12 f13 f14 f15 f16 f17 f18 f19 f20 f21 f22 f23 f24 f25 f26 f27 f28 f29 f30 f31 f32 => q_236y_12 (q0 := q0) (n0 := ρ 3) (n1 := ρ 2) (n2 := ρ 1) (n3 := ρ 0) (n4 := ρ 4) (n5 := ρ 5) (n6 := ρ 6) (n7 := ρ 7) (n8 := ρ 8) (n9 := ρ 9) (n10 := ρ 10) (n11 := ρ 11) (n12 := ρ 12) (n13 := ρ 13) (n14 := ρ 14) (H0 := η 0) (H1 := η 1) (H2 := η 2) (H3 := η 3) (H4 := η 4) (H5 := η 5) (H6 := η 6) f32 f31 f30 f29 f28 f27 f26 f25 f24 f23 f22 f21 f20 f19 f18 f17 f16 f15 f14 f13 f12 f11 f10 f9 f8 f7 f6 f5 f4 f3 f2 f1 f0
theorem q_236y_13 {q0 : Nat} {n0 n1 n2 n3 n4 n5 n6 n7 n8 n9 : Int} {H0 H1 H2 H3 : gH} (f0 : n0 ≤ 2147483647) (f1 : (-2147483648) ≤ n0) (f2 : n1 ≤ 7) (f3 : 0 ≤ n1) (f4 : n2 = 285) (f5 : n3 = 285) (f6 : (hLe T0 H0 H1 ∧ hFr s_236.2.2.2.2 H0 H1 ∧ hWt T0 H1) ∧ (((Ab_236_96 n3 n2 n1 n0 H0 H1 ∧ Bb_236_96 n3 n2 n1 n0 H0 H1) ∧ Byb_236_96 n3 n2 n1 n0 H0 H1) ∧ preb_236 n3 H0) ∧ some q0 = some (mub_236_96 n3 n2 n1 n0 H0 H1)) (f7 : n4 = 7) (f8 : n5 ≤ 1) (f9 : 0 ≤ n5) (f10 : (hLe T0 H1 H2 ∧ hFr s_216.2.2.2.2 H1 H2 ∧ ((0 : Int) = 0 → H2.length = H1.length) ∧ hWt T0 H2) ∧ postb_216 n5 n2 n4 H1 H2) (f11 : n5 ≠ 0) (f12 : n6 ≤ 7) (f13 : 0 ≤ n6) (f14 : hK H2 (n2).toNat = 12) (f15 : n6 = hV H2 (n2).toNat 12) (f16 : n6 ≤ n1) (f17 : n7 = 8) (f18 : n8 ≤ 1) (f19 : 0 ≤ n8) (f20 : (hLe T0 H2 H3 ∧ hFr s_216.2.2.2.2 H2 H3 ∧ ((0 : Int) = 0 → H3.length = H2.length) ∧ hWt T0 H3) ∧ postb_216 n8 n2 n7 H2 H3) (f21 : n8 ≠ 0) (f22 : n9 = 1) : Byb_236_187 n3 n2 n1 n9 H0 H3 := by
  unfold Byb_236_187
  intro z s0
  have ga := f6.2.1.1.1.2
  unfold Bb_236_96 at ga
  obtain ⟨z1, op, ye⟩ := ga z
  have vz : vwR H1 = vwR H0 := vwR_fr f6.1.2.1 (by decide +kernel)
  have gy := f6.2.1.1.2
  unfold Byb_236_96 at gy
  obtain ⟨kp, ky⟩ := gy z s0
  have d15 := rdS (q := 285) f15 f4
  have q11 := f11
  have q16 := f16
  have q21 := f21
  have pr := f6.2.1.2
  unfold preb_236 at pr
  have ab := f6.2.1.1.1.1
  unfold Ab_236_96 at ab
  have hx1 : n1 = hV H0 285 12 := ab.2.2.2.1
  have hft : hV H0 285 13 ≤ hV H1 285 13 := ab.2.2.2.2.2.2.2.2.2.2
  have lo0 := z.2.2.2.1
  have lo1 := z1.2.2.2.1
  have rg0 := f0
  have rg1 := f1
  have rg2 := f2
  have rg3 := f3
  have g12 := f6.1.2.2 285 12 _ _ rW_12
  have f0 : hV H1 285 13 = 0 → n1 = 0 := fun c => by omega
  have rg12 := f12
  have rg13 := f13
  have p0 := PR_fr f10.1.2.1 (by decide +kernel) z1
  have v0 : vwR H2 = vwR H0 := p0.2.1.trans vz
  have ah0 : absR H2 = (absR H1) := p0.1
  have i0 := f10.2
  unfold postb_216 at i0
  rw [f7] at i0
  have cm0 := f11
  have b0 := (isR_or (k := 7) p0.2.2.1 (by decide) i0).resolve_right (fun w => cm0 w.1)
  replace b0 := b0.2
  rw [v0, ah0, kmc_7] at b0
  have p1 := PR_fr f20.1.2.1 (by decide +kernel) p0.2.2.1
  have v1 : vwR H3 = vwR H0 := p1.2.1.trans v0
  have ah1 : absR H3 = (absR H1) := p1.1.trans ah0
  have i1 := f20.2
  unfold postb_216 at i1
  rw [f17] at i1
  have cm1 := f21
  have b1 := (isR_or (k := 8) p1.2.2.1 (by decide) i1).resolve_right (fun w => cm1 w.1)
  replace b1 := b1.2
  rw [v1, ah1, kmc_8] at b1
  have x0 : XRk H1 H3 := (XRk_tr (XRk_fr f10.1.2.1 (by decide +kernel)) (XRk_fr f20.1.2.1 (by decide +kernel)))
  have h12 : hV H3 285 12 = hV H1 285 12 := (f20.1.2.1.1 285 12 (by decide +kernel)).trans (f10.1.2.1.1 285 12 (by decide +kernel))
  refine ⟨KPc_tr kp (KPc_x x0), fun hp => ?_⟩
  rw [ah1] at hp ⊢
  rw [h12]
  exact RSr_eq x0 ((f20.1.2.1.1 285 55 (by decide +kernel)).trans (f10.1.2.1.1 285 55 (by decide +kernel))) ((fRow f20.1.2.1 322 (by decide +kernel)).trans (fRow f10.1.2.1 322 (by decide +kernel))) (ky hp)
def g_236y_96_5 : vG := ([(0, [9], [], 1), (31, [8], [], 0), (1216, [8, 1, 7], [2, 3], 0), (90, [8], [], 0), (91, [8], [], 1), (0, [7], [], 8), (45, [6, 2], [], 0), (20, [6, 1], [2], 12), (23, [1], [2], 12), (90, [6], [], 0), (91, [6], [], 7), (31, [5], [], 0), (1216, [5, 1, 4], [1, 2], 0), (90, [5], [], 0), (91, [5], [], 1), (0, [4], [], 7), (5000, [0, 1, 2, 3], [0, 1], 96), (0, [0], [], 285), (0, [1], [], 285), (90, [2], [], 0), (91, [2], [], 7), (90, [3], [], -2147483648), (91, [3], [], 2147483647)], (4000, [1, 2, 9], [3], 187))
theorem c_236y_96_5 {q0 : Nat} : vOkm T0 (eN e_236w L_236y (eAB A_236 B_236) mu_236 y_236 By_236 (some q0)) 1 g_236y_96_5 := vOk_inI fun ρ η f0 f1 f2 f3 f4 f5 f6 f7 f8 f9 f10 f11 f12 f13 f14 f15 f16 f17 f18 f19 f20 f21 f22 => q_236y_13 (q0 := q0) (n0 := ρ 3) (n1 := ρ 2) (n2 := ρ 1) (n3 := ρ 0) (n4 := ρ 4) (n5 := ρ 5) (n6 := ρ 6) (n7 := ρ 7) (n8 := ρ 8) (n9 := ρ 9) (H0 := η 0) (H1 := η 1) (H2 := η 2) (H3 := η 3) f22 f21 f20 f19 f18 f17 f16 f15 f14 f13 f12 f11 f10 f9 f8 f7 f6 f5 f4 f3 f2 f1 f0
theorem q_236y_14 {q0 : Nat} {n0 n1 n2 n3 n4 n5 n6 n7 n8 n9 n10 n11 : Int} {H0 H1 H2 H3 H4 : gH} (f0 : n0 ≤ 2147483647) (f1 : (-2147483648) ≤ n0) (f2 : n1 ≤ 7) (f3 : 0 ≤ n1) (f4 : n2 = 285) (f5 : n3 = 285) (f6 : (hLe T0 H0 H1 ∧ hFr s_236.2.2.2.2 H0 H1 ∧ hWt T0 H1) ∧ (((Ab_236_96 n3 n2 n1 n0 H0 H1 ∧ Bb_236_96 n3 n2 n1 n0 H0 H1) ∧ Byb_236_96 n3 n2 n1 n0 H0 H1) ∧ preb_236 n3 H0) ∧ some q0 = some (mub_236_96 n3 n2 n1 n0 H0 H1)) (f7 : n4 = 7) (f8 : n5 ≤ 1) (f9 : 0 ≤ n5) (f10 : (hLe T0 H1 H2 ∧ hFr s_216.2.2.2.2 H1 H2 ∧ ((0 : Int) = 0 → H2.length = H1.length) ∧ hWt T0 H2) ∧ postb_216 n5 n2 n4 H1 H2) (f11 : n5 ≠ 0) (f12 : n6 ≤ 7) (f13 : 0 ≤ n6) (f14 : hK H2 (n2).toNat = 12) (f15 : n6 = hV H2 (n2).toNat 12) (f16 : n6 ≤ n1) (f17 : n7 = 8) (f18 : n8 ≤ 1) (f19 : 0 ≤ n8) (f20 : (hLe T0 H2 H3 ∧ hFr s_216.2.2.2.2 H2 H3 ∧ ((0 : Int) = 0 → H3.length = H2.length) ∧ hWt T0 H3) ∧ postb_216 n8 n2 n7 H2 H3) (f21 : n8 = 0) (f22 : n9 = 9) (f23 : n10 ≤ 1) (f24 : 0 ≤ n10) (f25 : (hLe T0 H3 H4 ∧ hFr s_216.2.2.2.2 H3 H4 ∧ ((0 : Int) = 0 → H4.length = H3.length) ∧ hWt T0 H4) ∧ postb_216 n10 n2 n9 H3 H4) (f26 : n10 ≠ 0) (f27 : n11 = 1) : Byb_236_187 n3 n2 n1 n11 H0 H4 := by
  unfold Byb_236_187
  intro z s0
  have ga := f6.2.1.1.1.2
  unfold Bb_236_96 at ga
  obtain ⟨z1, op, ye⟩ := ga z
  have vz : vwR H1 = vwR H0 := vwR_fr f6.1.2.1 (by decide +kernel)
  have gy := f6.2.1.1.2
  unfold Byb_236_96 at gy
  obtain ⟨kp, ky⟩ := gy z s0
  have d15 := rdS (q := 285) f15 f4
  have q11 := f11
  have q16 := f16
  have q21 := f21
  have q26 := f26
  have pr := f6.2.1.2
  unfold preb_236 at pr
  have ab := f6.2.1.1.1.1
  unfold Ab_236_96 at ab
  have hx1 : n1 = hV H0 285 12 := ab.2.2.2.1
  have hft : hV H0 285 13 ≤ hV H1 285 13 := ab.2.2.2.2.2.2.2.2.2.2
  have lo0 := z.2.2.2.1
  have lo1 := z1.2.2.2.1
  have rg0 := f0
  have rg1 := f1
  have rg2 := f2
  have rg3 := f3
  have g12 := f6.1.2.2 285 12 _ _ rW_12
  have f0 : hV H1 285 13 = 0 → n1 = 0 := fun c => by omega
  have rg12 := f12
  have rg13 := f13
  have p0 := PR_fr f10.1.2.1 (by decide +kernel) z1
  have v0 : vwR H2 = vwR H0 := p0.2.1.trans vz
  have ah0 : absR H2 = (absR H1) := p0.1
  have i0 := f10.2
  unfold postb_216 at i0
  rw [f7] at i0
  have cm0 := f11
  have b0 := (isR_or (k := 7) p0.2.2.1 (by decide) i0).resolve_right (fun w => cm0 w.1)
  replace b0 := b0.2
  rw [v0, ah0, kmc_7] at b0
  have p1 := PR_fr f20.1.2.1 (by decide +kernel) p0.2.2.1
  have v1 : vwR H3 = vwR H0 := p1.2.1.trans v0
  have ah1 : absR H3 = (absR H1) := p1.1.trans ah0
  have i1 := f20.2
  unfold postb_216 at i1
  rw [f17] at i1
  have cm1 := f21
  have b1 := (isR_or (k := 8) p1.2.2.1 (by decide) i1).resolve_left (fun w => absurd (w.1.symm.trans cm1) (by decide))
  replace b1 := b1.2
  rw [v1, ah1, kmc_8] at b1
  have p2 := PR_fr f25.1.2.1 (by decide +kernel) p1.2.2.1
  have v2 : vwR H4 = vwR H0 := p2.2.1.trans v1
  have ah2 : absR H4 = (absR H1) := p2.1.trans ah1
  have i2 := f25.2
  unfold postb_216 at i2
  rw [f22] at i2
  have cm2 := f26
  have b2 := (isR_or (k := 9) p2.2.2.1 (by decide) i2).resolve_right (fun w => cm2 w.1)
  replace b2 := b2.2
  rw [v2, ah2, kmc_9] at b2
  have x0 : XRk H1 H4 := (XRk_tr (XRk_fr f10.1.2.1 (by decide +kernel)) (XRk_tr (XRk_fr f20.1.2.1 (by decide +kernel)) (XRk_fr f25.1.2.1 (by decide +kernel))))
  have h12 : hV H4 285 12 = hV H1 285 12 := (f25.1.2.1.1 285 12 (by decide +kernel)).trans ((f20.1.2.1.1 285 12 (by decide +kernel)).trans (f10.1.2.1.1 285 12 (by decide +kernel)))
  refine ⟨KPc_tr kp (KPc_x x0), fun hp => ?_⟩
  rw [ah2] at hp ⊢
  rw [h12]
  exact RSr_eq x0 ((f25.1.2.1.1 285 55 (by decide +kernel)).trans ((f20.1.2.1.1 285 55 (by decide +kernel)).trans (f10.1.2.1.1 285 55 (by decide +kernel)))) ((fRow f25.1.2.1 322 (by decide +kernel)).trans ((fRow f20.1.2.1 322 (by decide +kernel)).trans (fRow f10.1.2.1 322 (by decide +kernel)))) (ky hp)
def g_236y_96_6 : vG := ([(0, [11], [], 1), (31, [10], [], 0), (1216, [10, 1, 9], [3, 4], 0), (90, [10], [], 0), (91, [10], [], 1), (0, [9], [], 9), (30, [8], [], 0), (1216, [8, 1, 7], [2, 3], 0), (90, [8], [], 0), (91, [8], [], 1), (0, [7], [], 8), (45, [6, 2], [], 0), (20, [6, 1], [2], 12), (23, [1], [2], 12), (90, [6], [], 0), (91, [6], [], 7), (31, [5], [], 0), (1216, [5, 1, 4], [1, 2], 0), (90, [5], [], 0), (91, [5], [], 1), (0, [4], [], 7), (5000, [0, 1, 2, 3], [0, 1], 96), (0, [0], [], 285), (0, [1], [], 285), (90, [2], [], 0), (91, [2], [], 7), (90, [3], [], -2147483648), (91, [3], [], 2147483647)], (4000, [1, 2, 11], [4], 187))
theorem c_236y_96_6 {q0 : Nat} : vOkm T0 (eN e_236w L_236y (eAB A_236 B_236) mu_236 y_236 By_236 (some q0)) 1 g_236y_96_6 := vOk_inI fun ρ η f0 f1 f2 f3 f4 f5 f6 f7 f8 f9 f10 f11 f12 f13 f14 f15 f16 f17 f18 f19 f20 f21 f22 f23 f24 f25 f26 f27 => q_236y_14 (q0 := q0) (n0 := ρ 3) (n1 := ρ 2) (n2 := ρ 1) (n3 := ρ 0) (n4 := ρ 4) (n5 := ρ 5) (n6 := ρ 6) (n7 := ρ 7) (n8 := ρ 8) (n9 := ρ 9) (n10 := ρ 10) (n11 := ρ 11) (H0 := η 0) (H1 := η 1) (H2 := η 2) (H3 := η 3) (H4 := η 4) f27 f26 f25 f24 f23 f22 f21 f20 f19 f18 f17 f16 f15 f14 f13 f12 f11 f10 f9 f8 f7 f6 f5 f4 f3 f2 f1 f0
theorem q_236y_15 {q0 : Nat} {n0 n1 n2 n3 n4 n5 n6 n7 n8 n9 n10 n11 n12 n13 : Int} {H0 H1 H2 H3 H4 H5 : gH} (f0 : n0 ≤ 2147483647) (f1 : (-2147483648) ≤ n0) (f2 : n1 ≤ 7) (f3 : 0 ≤ n1) (f4 : n2 = 285) (f5 : n3 = 285) (f6 : (hLe T0 H0 H1 ∧ hFr s_236.2.2.2.2 H0 H1 ∧ hWt T0 H1) ∧ (((Ab_236_96 n3 n2 n1 n0 H0 H1 ∧ Bb_236_96 n3 n2 n1 n0 H0 H1) ∧ Byb_236_96 n3 n2 n1 n0 H0 H1) ∧ preb_236 n3 H0) ∧ some q0 = some (mub_236_96 n3 n2 n1 n0 H0 H1)) (f7 : n4 = 7) (f8 : n5 ≤ 1) (f9 : 0 ≤ n5) (f10 : (hLe T0 H1 H2 ∧ hFr s_216.2.2.2.2 H1 H2 ∧ ((0 : Int) = 0 → H2.length = H1.length) ∧ hWt T0 H2) ∧ postb_216 n5 n2 n4 H1 H2) (f11 : n5 ≠ 0) (f12 : n6 ≤ 7) (f13 : 0 ≤ n6) (f14 : hK H2 (n2).toNat = 12) (f15 : n6 = hV H2 (n2).toNat 12) (f16 : n6 ≤ n1) (f17 : n7 = 8) (f18 : n8 ≤ 1) (f19 : 0 ≤ n8) (f20 : (hLe T0 H2 H3 ∧ hFr s_216.2.2.2.2 H2 H3 ∧ ((0 : Int) = 0 → H3.length = H2.length) ∧ hWt T0 H3) ∧ postb_216 n8 n2 n7 H2 H3) (f21 : n8 = 0) (f22 : n9 = 9) (f23 : n10 ≤ 1) (f24 : 0 ≤ n10) (f25 : (hLe T0 H3 H4 ∧ hFr s_216.2.2.2.2 H3 H4 ∧ ((0 : Int) = 0 → H4.length = H3.length) ∧ hWt T0 H4) ∧ postb_216 n10 n2 n9 H3 H4) (f26 : n10 = 0) (f27 : n11 = 10) (f28 : n12 ≤ 1) (f29 : 0 ≤ n12) (f30 : (hLe T0 H4 H5 ∧ hFr s_216.2.2.2.2 H4 H5 ∧ ((0 : Int) = 0 → H5.length = H4.length) ∧ hWt T0 H5) ∧ postb_216 n12 n2 n11 H4 H5) (f31 : n12 ≠ 0) (f32 : n13 = 1) : Byb_236_187 n3 n2 n1 n13 H0 H5 := by
  unfold Byb_236_187
  intro z s0
  have ga := f6.2.1.1.1.2
  unfold Bb_236_96 at ga
  obtain ⟨z1, op, ye⟩ := ga z
  have vz : vwR H1 = vwR H0 := vwR_fr f6.1.2.1 (by decide +kernel)
  have gy := f6.2.1.1.2
  unfold Byb_236_96 at gy
  obtain ⟨kp, ky⟩ := gy z s0
  have d15 := rdS (q := 285) f15 f4
  have q11 := f11
  have q16 := f16
  have q21 := f21
  have q26 := f26
  have q31 := f31
  have pr := f6.2.1.2
  unfold preb_236 at pr
  have ab := f6.2.1.1.1.1
  unfold Ab_236_96 at ab
  have hx1 : n1 = hV H0 285 12 := ab.2.2.2.1
  have hft : hV H0 285 13 ≤ hV H1 285 13 := ab.2.2.2.2.2.2.2.2.2.2
  have lo0 := z.2.2.2.1
  have lo1 := z1.2.2.2.1
  have rg0 := f0
  have rg1 := f1
  have rg2 := f2
  have rg3 := f3
  have g12 := f6.1.2.2 285 12 _ _ rW_12
  have f0 : hV H1 285 13 = 0 → n1 = 0 := fun c => by omega
  have rg12 := f12
  have rg13 := f13
  have p0 := PR_fr f10.1.2.1 (by decide +kernel) z1
  have v0 : vwR H2 = vwR H0 := p0.2.1.trans vz
  have ah0 : absR H2 = (absR H1) := p0.1
  have i0 := f10.2
  unfold postb_216 at i0
  rw [f7] at i0
  have cm0 := f11
  have b0 := (isR_or (k := 7) p0.2.2.1 (by decide) i0).resolve_right (fun w => cm0 w.1)
  replace b0 := b0.2
  rw [v0, ah0, kmc_7] at b0
  have p1 := PR_fr f20.1.2.1 (by decide +kernel) p0.2.2.1
  have v1 : vwR H3 = vwR H0 := p1.2.1.trans v0
  have ah1 : absR H3 = (absR H1) := p1.1.trans ah0
  have i1 := f20.2
  unfold postb_216 at i1
  rw [f17] at i1
  have cm1 := f21
  have b1 := (isR_or (k := 8) p1.2.2.1 (by decide) i1).resolve_left (fun w => absurd (w.1.symm.trans cm1) (by decide))
  replace b1 := b1.2
  rw [v1, ah1, kmc_8] at b1
  have p2 := PR_fr f25.1.2.1 (by decide +kernel) p1.2.2.1
  have v2 : vwR H4 = vwR H0 := p2.2.1.trans v1
  have ah2 : absR H4 = (absR H1) := p2.1.trans ah1
  have i2 := f25.2
  unfold postb_216 at i2
  rw [f22] at i2
  have cm2 := f26
  have b2 := (isR_or (k := 9) p2.2.2.1 (by decide) i2).resolve_left (fun w => absurd (w.1.symm.trans cm2) (by decide))
  replace b2 := b2.2
  rw [v2, ah2, kmc_9] at b2
  have p3 := PR_fr f30.1.2.1 (by decide +kernel) p2.2.2.1
  have v3 : vwR H5 = vwR H0 := p3.2.1.trans v2
  have ah3 : absR H5 = (absR H1) := p3.1.trans ah2
  have i3 := f30.2
  unfold postb_216 at i3
  rw [f27] at i3
  have cm3 := f31
  have b3 := (isR_or (k := 10) p3.2.2.1 (by decide) i3).resolve_right (fun w => cm3 w.1)
  replace b3 := b3.2
  rw [v3, ah3, kmc_10] at b3
  have x0 : XRk H1 H5 := (XRk_tr (XRk_fr f10.1.2.1 (by decide +kernel)) (XRk_tr (XRk_fr f20.1.2.1 (by decide +kernel)) (XRk_tr (XRk_fr f25.1.2.1 (by decide +kernel)) (XRk_fr f30.1.2.1 (by decide +kernel)))))
  have h12 : hV H5 285 12 = hV H1 285 12 := (f30.1.2.1.1 285 12 (by decide +kernel)).trans ((f25.1.2.1.1 285 12 (by decide +kernel)).trans ((f20.1.2.1.1 285 12 (by decide +kernel)).trans (f10.1.2.1.1 285 12 (by decide +kernel))))
  refine ⟨KPc_tr kp (KPc_x x0), fun hp => ?_⟩
  rw [ah3] at hp ⊢
  rw [h12]
  exact RSr_eq x0 ((f30.1.2.1.1 285 55 (by decide +kernel)).trans ((f25.1.2.1.1 285 55 (by decide +kernel)).trans ((f20.1.2.1.1 285 55 (by decide +kernel)).trans (f10.1.2.1.1 285 55 (by decide +kernel))))) ((fRow f30.1.2.1 322 (by decide +kernel)).trans ((fRow f25.1.2.1 322 (by decide +kernel)).trans ((fRow f20.1.2.1 322 (by decide +kernel)).trans (fRow f10.1.2.1 322 (by decide +kernel))))) (ky hp)
def g_236y_96_7 : vG := ([(0, [13], [], 1), (31, [12], [], 0), (1216, [12, 1, 11], [4, 5], 0), (90, [12], [], 0), (91, [12], [], 1), (0, [11], [], 10), (30, [10], [], 0), (1216, [10, 1, 9], [3, 4], 0), (90, [10], [], 0), (91, [10], [], 1), (0, [9], [], 9), (30, [8], [], 0), (1216, [8, 1, 7], [2, 3], 0), (90, [8], [], 0), (91, [8], [], 1), (0, [7], [], 8), (45, [6, 2], [], 0), (20, [6, 1], [2], 12), (23, [1], [2], 12), (90, [6], [], 0), (91, [6], [], 7), (31, [5], [], 0), (1216, [5, 1, 4], [1, 2], 0), (90, [5], [], 0), (91, [5], [], 1), (0, [4], [], 7), (5000, [0, 1, 2, 3], [0, 1], 96), (0, [0], [], 285), (0, [1], [], 285), (90, [2], [], 0), (91, [2], [], 7), (90, [3], [], -2147483648), (91, [3], [], 2147483647)], (4000, [1, 2, 13], [5], 187))
theorem c_236y_96_7 {q0 : Nat} : vOkm T0 (eN e_236w L_236y (eAB A_236 B_236) mu_236 y_236 By_236 (some q0)) 1 g_236y_96_7 := vOk_inI fun ρ η f0 f1 f2 f3 f4 f5 f6 f7 f8 f9 f10 f11 f12 f13 f14 f15 f16 f17 f18 f19 f20 f21 f22 f23 f24 f25 f26 f27 f28 f29 f30 f31 f32 => q_236y_15 (q0 := q0) (n0 := ρ 3) (n1 := ρ 2) (n2 := ρ 1) (n3 := ρ 0) (n4 := ρ 4) (n5 := ρ 5) (n6 := ρ 6) (n7 := ρ 7) (n8 := ρ 8) (n9 := ρ 9) (n10 := ρ 10) (n11 := ρ 11) (n12 := ρ 12) (n13 := ρ 13) (H0 := η 0) (H1 := η 1) (H2 := η 2) (H3 := η 3) (H4 := η 4) (H5 := η 5) f32 f31 f30 f29 f28 f27 f26 f25 f24 f23 f22 f21 f20 f19 f18 f17 f16 f15 f14 f13 f12 f11 f10 f9 f8 f7 f6 f5 f4 f3 f2 f1 f0
theorem q_236y_16 {q0 : Nat} {n0 n1 n2 n3 n4 n5 n6 n7 n8 n9 n10 n11 n12 n13 n14 n15 : Int} {H0 H1 H2 H3 H4 H5 H6 : gH} (f0 : n0 ≤ 2147483647) (f1 : (-2147483648) ≤ n0) (f2 : n1 ≤ 7) (f3 : 0 ≤ n1) (f4 : n2 = 285) (f5 : n3 = 285) (f6 : (hLe T0 H0 H1 ∧ hFr s_236.2.2.2.2 H0 H1 ∧ hWt T0 H1) ∧ (((Ab_236_96 n3 n2 n1 n0 H0 H1 ∧ Bb_236_96 n3 n2 n1 n0 H0 H1) ∧ Byb_236_96 n3 n2 n1 n0 H0 H1) ∧ preb_236 n3 H0) ∧ some q0 = some (mub_236_96 n3 n2 n1 n0 H0 H1)) (f7 : n4 = 7) (f8 : n5 ≤ 1) (f9 : 0 ≤ n5) (f10 : (hLe T0 H1 H2 ∧ hFr s_216.2.2.2.2 H1 H2 ∧ ((0 : Int) = 0 → H2.length = H1.length) ∧ hWt T0 H2) ∧ postb_216 n5 n2 n4 H1 H2) (f11 : n5 ≠ 0) (f12 : n6 ≤ 7) (f13 : 0 ≤ n6) (f14 : hK H2 (n2).toNat = 12) (f15 : n6 = hV H2 (n2).toNat 12) (f16 : n6 ≤ n1) (f17 : n7 = 8) (f18 : n8 ≤ 1) (f19 : 0 ≤ n8) (f20 : (hLe T0 H2 H3 ∧ hFr s_216.2.2.2.2 H2 H3 ∧ ((0 : Int) = 0 → H3.length = H2.length) ∧ hWt T0 H3) ∧ postb_216 n8 n2 n7 H2 H3) (f21 : n8 = 0) (f22 : n9 = 9) (f23 : n10 ≤ 1) (f24 : 0 ≤ n10) (f25 : (hLe T0 H3 H4 ∧ hFr s_216.2.2.2.2 H3 H4 ∧ ((0 : Int) = 0 → H4.length = H3.length) ∧ hWt T0 H4) ∧ postb_216 n10 n2 n9 H3 H4) (f26 : n10 = 0) (f27 : n11 = 10) (f28 : n12 ≤ 1) (f29 : 0 ≤ n12) (f30 : (hLe T0 H4 H5 ∧ hFr s_216.2.2.2.2 H4 H5 ∧ ((0 : Int) = 0 → H5.length = H4.length) ∧ hWt T0 H5) ∧ postb_216 n12 n2 n11 H4 H5) (f31 : n12 = 0) (f32 : n13 = 15) (f33 : n14 ≤ 1) (f34 : 0 ≤ n14) (f35 : (hLe T0 H5 H6 ∧ hFr s_216.2.2.2.2 H5 H6 ∧ ((0 : Int) = 0 → H6.length = H5.length) ∧ hWt T0 H6) ∧ postb_216 n14 n2 n13 H5 H6) (f36 : n14 = 0) (f37 : n15 = 0) : Byb_236_187 n3 n2 n1 n15 H0 H6 := by
  unfold Byb_236_187
  intro z s0
  have ga := f6.2.1.1.1.2
  unfold Bb_236_96 at ga
  obtain ⟨z1, op, ye⟩ := ga z
  have vz : vwR H1 = vwR H0 := vwR_fr f6.1.2.1 (by decide +kernel)
  have gy := f6.2.1.1.2
  unfold Byb_236_96 at gy
  obtain ⟨kp, ky⟩ := gy z s0
  have d15 := rdS (q := 285) f15 f4
  have q11 := f11
  have q16 := f16
  have q21 := f21
  have q26 := f26
  have q31 := f31
  have q36 := f36
  have pr := f6.2.1.2
  unfold preb_236 at pr
  have ab := f6.2.1.1.1.1
  unfold Ab_236_96 at ab
  have hx1 : n1 = hV H0 285 12 := ab.2.2.2.1
  have hft : hV H0 285 13 ≤ hV H1 285 13 := ab.2.2.2.2.2.2.2.2.2.2
  have lo0 := z.2.2.2.1
  have lo1 := z1.2.2.2.1
  have rg0 := f0
  have rg1 := f1
  have rg2 := f2
  have rg3 := f3
  have g12 := f6.1.2.2 285 12 _ _ rW_12
  have f0 : hV H1 285 13 = 0 → n1 = 0 := fun c => by omega
  have rg12 := f12
  have rg13 := f13
  have p0 := PR_fr f10.1.2.1 (by decide +kernel) z1
  have v0 : vwR H2 = vwR H0 := p0.2.1.trans vz
  have ah0 : absR H2 = (absR H1) := p0.1
  have i0 := f10.2
  unfold postb_216 at i0
  rw [f7] at i0
  have cm0 := f11
  have b0 := (isR_or (k := 7) p0.2.2.1 (by decide) i0).resolve_right (fun w => cm0 w.1)
  replace b0 := b0.2
  rw [v0, ah0, kmc_7] at b0
  have p1 := PR_fr f20.1.2.1 (by decide +kernel) p0.2.2.1
  have v1 : vwR H3 = vwR H0 := p1.2.1.trans v0
  have ah1 : absR H3 = (absR H1) := p1.1.trans ah0
  have i1 := f20.2
  unfold postb_216 at i1
  rw [f17] at i1
  have cm1 := f21
  have b1 := (isR_or (k := 8) p1.2.2.1 (by decide) i1).resolve_left (fun w => absurd (w.1.symm.trans cm1) (by decide))
  replace b1 := b1.2
  rw [v1, ah1, kmc_8] at b1
  have p2 := PR_fr f25.1.2.1 (by decide +kernel) p1.2.2.1
  have v2 : vwR H4 = vwR H0 := p2.2.1.trans v1
  have ah2 : absR H4 = (absR H1) := p2.1.trans ah1
  have i2 := f25.2
  unfold postb_216 at i2
  rw [f22] at i2
  have cm2 := f26
  have b2 := (isR_or (k := 9) p2.2.2.1 (by decide) i2).resolve_left (fun w => absurd (w.1.symm.trans cm2) (by decide))
  replace b2 := b2.2
  rw [v2, ah2, kmc_9] at b2
  have p3 := PR_fr f30.1.2.1 (by decide +kernel) p2.2.2.1
  have v3 : vwR H5 = vwR H0 := p3.2.1.trans v2
  have ah3 : absR H5 = (absR H1) := p3.1.trans ah2
  have i3 := f30.2
  unfold postb_216 at i3
  rw [f27] at i3
  have cm3 := f31
  have b3 := (isR_or (k := 10) p3.2.2.1 (by decide) i3).resolve_left (fun w => absurd (w.1.symm.trans cm3) (by decide))
  replace b3 := b3.2
  rw [v3, ah3, kmc_10] at b3
  have p4 := PR_fr f35.1.2.1 (by decide +kernel) p3.2.2.1
  have v4 : vwR H6 = vwR H0 := p4.2.1.trans v3
  have ah4 : absR H6 = (absR H1) := p4.1.trans ah3
  have i4 := f35.2
  unfold postb_216 at i4
  rw [f32] at i4
  have cm4 := f36
  have b4 := (isR_or (k := 15) p4.2.2.1 (by decide) i4).resolve_left (fun w => absurd (w.1.symm.trans cm4) (by decide))
  replace b4 := b4.2
  rw [v4, ah4, kmc_15] at b4
  have x0 : XRk H1 H6 := (XRk_tr (XRk_fr f10.1.2.1 (by decide +kernel)) (XRk_tr (XRk_fr f20.1.2.1 (by decide +kernel)) (XRk_tr (XRk_fr f25.1.2.1 (by decide +kernel)) (XRk_tr (XRk_fr f30.1.2.1 (by decide +kernel)) (XRk_fr f35.1.2.1 (by decide +kernel))))))
  have h12 : hV H6 285 12 = hV H1 285 12 := (f35.1.2.1.1 285 12 (by decide +kernel)).trans ((f30.1.2.1.1 285 12 (by decide +kernel)).trans ((f25.1.2.1.1 285 12 (by decide +kernel)).trans ((f20.1.2.1.1 285 12 (by decide +kernel)).trans (f10.1.2.1.1 285 12 (by decide +kernel)))))
  refine ⟨KPc_tr kp (KPc_x x0), fun hp => ?_⟩
  rw [ah4] at hp ⊢
  rw [h12]
  exact RSr_eq x0 ((f35.1.2.1.1 285 55 (by decide +kernel)).trans ((f30.1.2.1.1 285 55 (by decide +kernel)).trans ((f25.1.2.1.1 285 55 (by decide +kernel)).trans ((f20.1.2.1.1 285 55 (by decide +kernel)).trans (f10.1.2.1.1 285 55 (by decide +kernel)))))) ((fRow f35.1.2.1 322 (by decide +kernel)).trans ((fRow f30.1.2.1 322 (by decide +kernel)).trans ((fRow f25.1.2.1 322 (by decide +kernel)).trans ((fRow f20.1.2.1 322 (by decide +kernel)).trans (fRow f10.1.2.1 322 (by decide +kernel)))))) (ky hp)
def g_236y_96_8 : vG := ([(0, [15], [], 0), (30, [14], [], 0), (1216, [14, 1, 13], [5, 6], 0), (90, [14], [], 0), (91, [14], [], 1), (0, [13], [], 15), (30, [12], [], 0), (1216, [12, 1, 11], [4, 5], 0), (90, [12], [], 0), (91, [12], [], 1), (0, [11], [], 10), (30, [10], [], 0), (1216, [10, 1, 9], [3, 4], 0), (90, [10], [], 0), (91, [10], [], 1), (0, [9], [], 9), (30, [8], [], 0), (1216, [8, 1, 7], [2, 3], 0), (90, [8], [], 0), (91, [8], [], 1), (0, [7], [], 8), (45, [6, 2], [], 0), (20, [6, 1], [2], 12), (23, [1], [2], 12), (90, [6], [], 0), (91, [6], [], 7), (31, [5], [], 0), (1216, [5, 1, 4], [1, 2], 0), (90, [5], [], 0), (91, [5], [], 1), (0, [4], [], 7), (5000, [0, 1, 2, 3], [0, 1], 96), (0, [0], [], 285), (0, [1], [], 285), (90, [2], [], 0), (91, [2], [], 7), (90, [3], [], -2147483648), (91, [3], [], 2147483647)], (4000, [1, 2, 15], [6], 187))
theorem c_236y_96_8 {q0 : Nat} : vOkm T0 (eN e_236w L_236y (eAB A_236 B_236) mu_236 y_236 By_236 (some q0)) 1 g_236y_96_8 := vOk_inI fun ρ η f0 f1 f2 f3 f4 f5 f6 f7 f8 f9 f10 f11 f12 f13 f14 f15 f16 f17 f18 f19 f20 f21 f22 f23 f24 f25 f26 f27 f28 f29 f30 f31 f32 f33 f34 f35 f36 f37 => q_236y_16 (q0 := q0) (n0 := ρ 3) (n1 := ρ 2) (n2 := ρ 1) (n3 := ρ 0) (n4 := ρ 4) (n5 := ρ 5) (n6 := ρ 6) (n7 := ρ 7) (n8 := ρ 8) (n9 := ρ 9) (n10 := ρ 10) (n11 := ρ 11) (n12 := ρ 12) (n13 := ρ 13) (n14 := ρ 14) (n15 := ρ 15) (H0 := η 0) (H1 := η 1) (H2 := η 2) (H3 := η 3) (H4 := η 4) (H5 := η 5) (H6 := η 6) f37 f36 f35 f34 f33 f32 f31 f30 f29 f28 f27 f26 f25 f24 f23 f22 f21 f20 f19 f18 f17 f16 f15 f14 f13 f12 f11 f10 f9 f8 f7 f6 f5 f4 f3 f2 f1 f0
theorem q_236y_17 {q0 : Nat} {n0 n1 n2 n3 n4 n5 n6 n7 n8 n9 n10 n11 n12 n13 n14 n15 : Int} {H0 H1 H2 H3 H4 H5 H6 : gH} (f0 : n0 ≤ 2147483647) (f1 : (-2147483648) ≤ n0) (f2 : n1 ≤ 7) (f3 : 0 ≤ n1) (f4 : n2 = 285) (f5 : n3 = 285) (f6 : (hLe T0 H0 H1 ∧ hFr s_236.2.2.2.2 H0 H1 ∧ hWt T0 H1) ∧ (((Ab_236_96 n3 n2 n1 n0 H0 H1 ∧ Bb_236_96 n3 n2 n1 n0 H0 H1) ∧ Byb_236_96 n3 n2 n1 n0 H0 H1) ∧ preb_236 n3 H0) ∧ some q0 = some (mub_236_96 n3 n2 n1 n0 H0 H1)) (f7 : n4 = 7) (f8 : n5 ≤ 1) (f9 : 0 ≤ n5) (f10 : (hLe T0 H1 H2 ∧ hFr s_216.2.2.2.2 H1 H2 ∧ ((0 : Int) = 0 → H2.length = H1.length) ∧ hWt T0 H2) ∧ postb_216 n5 n2 n4 H1 H2) (f11 : n5 ≠ 0) (f12 : n6 ≤ 7) (f13 : 0 ≤ n6) (f14 : hK H2 (n2).toNat = 12) (f15 : n6 = hV H2 (n2).toNat 12) (f16 : n6 ≤ n1) (f17 : n7 = 8) (f18 : n8 ≤ 1) (f19 : 0 ≤ n8) (f20 : (hLe T0 H2 H3 ∧ hFr s_216.2.2.2.2 H2 H3 ∧ ((0 : Int) = 0 → H3.length = H2.length) ∧ hWt T0 H3) ∧ postb_216 n8 n2 n7 H2 H3) (f21 : n8 = 0) (f22 : n9 = 9) (f23 : n10 ≤ 1) (f24 : 0 ≤ n10) (f25 : (hLe T0 H3 H4 ∧ hFr s_216.2.2.2.2 H3 H4 ∧ ((0 : Int) = 0 → H4.length = H3.length) ∧ hWt T0 H4) ∧ postb_216 n10 n2 n9 H3 H4) (f26 : n10 = 0) (f27 : n11 = 10) (f28 : n12 ≤ 1) (f29 : 0 ≤ n12) (f30 : (hLe T0 H4 H5 ∧ hFr s_216.2.2.2.2 H4 H5 ∧ ((0 : Int) = 0 → H5.length = H4.length) ∧ hWt T0 H5) ∧ postb_216 n12 n2 n11 H4 H5) (f31 : n12 = 0) (f32 : n13 = 15) (f33 : n14 ≤ 1) (f34 : 0 ≤ n14) (f35 : (hLe T0 H5 H6 ∧ hFr s_216.2.2.2.2 H5 H6 ∧ ((0 : Int) = 0 → H6.length = H5.length) ∧ hWt T0 H6) ∧ postb_216 n14 n2 n13 H5 H6) (f36 : n14 ≠ 0) (f37 : n15 = 1) : Byb_236_187 n3 n2 n1 n15 H0 H6 := by
  unfold Byb_236_187
  intro z s0
  have ga := f6.2.1.1.1.2
  unfold Bb_236_96 at ga
  obtain ⟨z1, op, ye⟩ := ga z
  have vz : vwR H1 = vwR H0 := vwR_fr f6.1.2.1 (by decide +kernel)
  have gy := f6.2.1.1.2
  unfold Byb_236_96 at gy
  obtain ⟨kp, ky⟩ := gy z s0
  have d15 := rdS (q := 285) f15 f4
  have q11 := f11
  have q16 := f16
  have q21 := f21
  have q26 := f26
  have q31 := f31
  have q36 := f36
  have pr := f6.2.1.2
  unfold preb_236 at pr
  have ab := f6.2.1.1.1.1
  unfold Ab_236_96 at ab
  have hx1 : n1 = hV H0 285 12 := ab.2.2.2.1
  have hft : hV H0 285 13 ≤ hV H1 285 13 := ab.2.2.2.2.2.2.2.2.2.2
  have lo0 := z.2.2.2.1
  have lo1 := z1.2.2.2.1
  have rg0 := f0
  have rg1 := f1
  have rg2 := f2
  have rg3 := f3
  have g12 := f6.1.2.2 285 12 _ _ rW_12
  have f0 : hV H1 285 13 = 0 → n1 = 0 := fun c => by omega
  have rg12 := f12
  have rg13 := f13
  have p0 := PR_fr f10.1.2.1 (by decide +kernel) z1
  have v0 : vwR H2 = vwR H0 := p0.2.1.trans vz
  have ah0 : absR H2 = (absR H1) := p0.1
  have i0 := f10.2
  unfold postb_216 at i0
  rw [f7] at i0
  have cm0 := f11
  have b0 := (isR_or (k := 7) p0.2.2.1 (by decide) i0).resolve_right (fun w => cm0 w.1)
  replace b0 := b0.2
  rw [v0, ah0, kmc_7] at b0
  have p1 := PR_fr f20.1.2.1 (by decide +kernel) p0.2.2.1
  have v1 : vwR H3 = vwR H0 := p1.2.1.trans v0
  have ah1 : absR H3 = (absR H1) := p1.1.trans ah0
  have i1 := f20.2
  unfold postb_216 at i1
  rw [f17] at i1
  have cm1 := f21
  have b1 := (isR_or (k := 8) p1.2.2.1 (by decide) i1).resolve_left (fun w => absurd (w.1.symm.trans cm1) (by decide))
  replace b1 := b1.2
  rw [v1, ah1, kmc_8] at b1
  have p2 := PR_fr f25.1.2.1 (by decide +kernel) p1.2.2.1
  have v2 : vwR H4 = vwR H0 := p2.2.1.trans v1
  have ah2 : absR H4 = (absR H1) := p2.1.trans ah1
  have i2 := f25.2
  unfold postb_216 at i2
  rw [f22] at i2
  have cm2 := f26
  have b2 := (isR_or (k := 9) p2.2.2.1 (by decide) i2).resolve_left (fun w => absurd (w.1.symm.trans cm2) (by decide))
  replace b2 := b2.2
  rw [v2, ah2, kmc_9] at b2
  have p3 := PR_fr f30.1.2.1 (by decide +kernel) p2.2.2.1
  have v3 : vwR H5 = vwR H0 := p3.2.1.trans v2
  have ah3 : absR H5 = (absR H1) := p3.1.trans ah2
  have i3 := f30.2
  unfold postb_216 at i3
  rw [f27] at i3
  have cm3 := f31
  have b3 := (isR_or (k := 10) p3.2.2.1 (by decide) i3).resolve_left (fun w => absurd (w.1.symm.trans cm3) (by decide))
  replace b3 := b3.2
  rw [v3, ah3, kmc_10] at b3
  have p4 := PR_fr f35.1.2.1 (by decide +kernel) p3.2.2.1
  have v4 : vwR H6 = vwR H0 := p4.2.1.trans v3
  have ah4 : absR H6 = (absR H1) := p4.1.trans ah3
  have i4 := f35.2
  unfold postb_216 at i4
  rw [f32] at i4
  have cm4 := f36
  have b4 := (isR_or (k := 15) p4.2.2.1 (by decide) i4).resolve_right (fun w => cm4 w.1)
  replace b4 := b4.2
  rw [v4, ah4, kmc_15] at b4
  have x0 : XRk H1 H6 := (XRk_tr (XRk_fr f10.1.2.1 (by decide +kernel)) (XRk_tr (XRk_fr f20.1.2.1 (by decide +kernel)) (XRk_tr (XRk_fr f25.1.2.1 (by decide +kernel)) (XRk_tr (XRk_fr f30.1.2.1 (by decide +kernel)) (XRk_fr f35.1.2.1 (by decide +kernel))))))
  have h12 : hV H6 285 12 = hV H1 285 12 := (f35.1.2.1.1 285 12 (by decide +kernel)).trans ((f30.1.2.1.1 285 12 (by decide +kernel)).trans ((f25.1.2.1.1 285 12 (by decide +kernel)).trans ((f20.1.2.1.1 285 12 (by decide +kernel)).trans (f10.1.2.1.1 285 12 (by decide +kernel)))))
  refine ⟨KPc_tr kp (KPc_x x0), fun hp => ?_⟩
  rw [ah4] at hp ⊢
  rw [h12]
  exact RSr_eq x0 ((f35.1.2.1.1 285 55 (by decide +kernel)).trans ((f30.1.2.1.1 285 55 (by decide +kernel)).trans ((f25.1.2.1.1 285 55 (by decide +kernel)).trans ((f20.1.2.1.1 285 55 (by decide +kernel)).trans (f10.1.2.1.1 285 55 (by decide +kernel)))))) ((fRow f35.1.2.1 322 (by decide +kernel)).trans ((fRow f30.1.2.1 322 (by decide +kernel)).trans ((fRow f25.1.2.1 322 (by decide +kernel)).trans ((fRow f20.1.2.1 322 (by decide +kernel)).trans (fRow f10.1.2.1 322 (by decide +kernel)))))) (ky hp)
def g_236y_96_9 : vG := ([(0, [15], [], 1), (31, [14], [], 0), (1216, [14, 1, 13], [5, 6], 0), (90, [14], [], 0), (91, [14], [], 1), (0, [13], [], 15), (30, [12], [], 0), (1216, [12, 1, 11], [4, 5], 0), (90, [12], [], 0), (91, [12], [], 1), (0, [11], [], 10), (30, [10], [], 0), (1216, [10, 1, 9], [3, 4], 0), (90, [10], [], 0), (91, [10], [], 1), (0, [9], [], 9), (30, [8], [], 0), (1216, [8, 1, 7], [2, 3], 0), (90, [8], [], 0), (91, [8], [], 1), (0, [7], [], 8), (45, [6, 2], [], 0), (20, [6, 1], [2], 12), (23, [1], [2], 12), (90, [6], [], 0), (91, [6], [], 7), (31, [5], [], 0), (1216, [5, 1, 4], [1, 2], 0), (90, [5], [], 0), (91, [5], [], 1), (0, [4], [], 7), (5000, [0, 1, 2, 3], [0, 1], 96), (0, [0], [], 285), (0, [1], [], 285), (90, [2], [], 0), (91, [2], [], 7), (90, [3], [], -2147483648), (91, [3], [], 2147483647)], (4000, [1, 2, 15], [6], 187))
theorem c_236y_96_9 {q0 : Nat} : vOkm T0 (eN e_236w L_236y (eAB A_236 B_236) mu_236 y_236 By_236 (some q0)) 1 g_236y_96_9 := vOk_inI fun ρ η f0 f1 f2 f3 f4 f5 f6 f7 f8 f9 f10 f11 f12 f13 f14 f15 f16 f17 f18 f19 f20 f21 f22 f23 f24 f25 f26 f27 f28 f29 f30 f31 f32 f33 f34 f35 f36 f37 => q_236y_17 (q0 := q0) (n0 := ρ 3) (n1 := ρ 2) (n2 := ρ 1) (n3 := ρ 0) (n4 := ρ 4) (n5 := ρ 5) (n6 := ρ 6) (n7 := ρ 7) (n8 := ρ 8) (n9 := ρ 9) (n10 := ρ 10) (n11 := ρ 11) (n12 := ρ 12) (n13 := ρ 13) (n14 := ρ 14) (n15 := ρ 15) (H0 := η 0) (H1 := η 1) (H2 := η 2) (H3 := η 3) (H4 := η 4) (H5 := η 5) (H6 := η 6) f37 f36 f35 f34 f33 f32 f31 f30 f29 f28 f27 f26 f25 f24 f23 f22 f21 f20 f19 f18 f17 f16 f15 f14 f13 f12 f11 f10 f9 f8 f7 f6 f5 f4 f3 f2 f1 f0
theorem q_236y_18 {q0 : Nat} {n0 n1 n2 n3 n4 n5 n6 n7 n8 n9 n10 n11 n12 n13 n14 n15 : Int} {H0 H1 H2 H3 H4 H5 H6 : gH} (f0 : n0 ≤ 2147483647) (f1 : (-2147483648) ≤ n0) (f2 : n1 ≤ 7) (f3 : 0 ≤ n1) (f4 : n2 = 285) (f5 : n3 = 285) (f6 : (hLe T0 H0 H1 ∧ hFr s_236.2.2.2.2 H0 H1 ∧ hWt T0 H1) ∧ (((Ab_236_96 n3 n2 n1 n0 H0 H1 ∧ Bb_236_96 n3 n2 n1 n0 H0 H1) ∧ Byb_236_96 n3 n2 n1 n0 H0 H1) ∧ preb_236 n3 H0) ∧ some q0 = some (mub_236_96 n3 n2 n1 n0 H0 H1)) (f7 : n4 = 7) (f8 : n5 ≤ 1) (f9 : 0 ≤ n5) (f10 : (hLe T0 H1 H2 ∧ hFr s_216.2.2.2.2 H1 H2 ∧ ((0 : Int) = 0 → H2.length = H1.length) ∧ hWt T0 H2) ∧ postb_216 n5 n2 n4 H1 H2) (f11 : n5 ≠ 0) (f12 : n6 ≤ 7) (f13 : 0 ≤ n6) (f14 : hK H2 (n2).toNat = 12) (f15 : n6 = hV H2 (n2).toNat 12) (f16 : n1 < n6) (f17 : n7 = 0) (f18 : (hLe T0 H2 H3 ∧ hFr s_235.2.2.2.2 H2 H3 ∧ ((0 : Int) = 0 → H3.length = H2.length) ∧ hWt T0 H3) ∧ (postb_235 n2 n7 H2 H3 ∧ nb_235 n2 n7 H2 H3)) (f19 : n8 ≤ 64) (f20 : 0 ≤ n8) (f21 : hK H3 (n2).toNat = 12) (f22 : n8 = hV H3 (n2).toNat 55) (f23 : n9 = 1) (f24 : n10 = w32 (n8 - n9)) (f25 : hK H3 (n2).toNat = 12) (f26 : n11 = 55) (f27 : hUpd H4 H3 n2 n11 n10) (f28 : n12 ≤ 7) (f29 : 0 ≤ n12) (f30 : hK H4 (n2).toNat = 12) (f31 : n12 = hV H4 (n2).toNat 12) (f32 : n13 = 1) (f33 : n14 = w32 (n12 - n13)) (f34 : hK H4 (n2).toNat = 12) (f35 : n15 = 12) (f36 : hUpd H5 H4 n2 n15 n14) (f37 : (hLe T0 H5 H6 ∧ hFr s_219.2.2.2.2 H5 H6 ∧ ((0 : Int) = 0 → H6.length = H5.length) ∧ hWt T0 H6) ∧ (postb_219 n2 H5 H6 ∧ nb_219 n2 H5 H6)) : Byb_236_96 n3 n2 n1 n0 H0 H6 := by
  unfold Byb_236_96
  intro z s0
  have ga := f6.2.1.1.1.2
  unfold Bb_236_96 at ga
  obtain ⟨z1, op, ye⟩ := ga z
  have vz : vwR H1 = vwR H0 := vwR_fr f6.1.2.1 (by decide +kernel)
  have gy := f6.2.1.1.2
  unfold Byb_236_96 at gy
  obtain ⟨kp, ky⟩ := gy z s0
  have d15 := rdS (q := 285) f15 f4
  have d22 := rdS (q := 285) f22 f4
  have d31 := rdS (q := 285) f31 f4
  have q11 := f11
  have q16 := f16
  have pr := f6.2.1.2
  unfold preb_236 at pr
  have ab := f6.2.1.1.1.1
  unfold Ab_236_96 at ab
  have hx1 : n1 = hV H0 285 12 := ab.2.2.2.1
  have hft : hV H0 285 13 ≤ hV H1 285 13 := ab.2.2.2.2.2.2.2.2.2.2
  have lo0 := z.2.2.2.1
  have lo1 := z1.2.2.2.1
  have rg0 := f0
  have rg1 := f1
  have rg2 := f2
  have rg3 := f3
  have g12 := f6.1.2.2 285 12 _ _ rW_12
  have f0 : hV H1 285 13 = 0 → n1 = 0 := fun c => by omega
  have rg12 := f12
  have rg13 := f13
  have rg19 := f19
  have rg20 := f20
  have rg28 := f28
  have rg29 := f29
  have p0 := PR_fr f10.1.2.1 (by decide +kernel) z1
  have v0 : vwR H2 = vwR H0 := p0.2.1.trans vz
  have ah0 : absR H2 = (absR H1) := p0.1
  have i0 := f10.2
  unfold postb_216 at i0
  rw [f7] at i0
  have cm0 := f11
  have b0 := (isR_or (k := 7) p0.2.2.1 (by decide) i0).resolve_right (fun w => cm0 w.1)
  replace b0 := b0.2
  rw [v0, ah0, kmc_7] at b0
  have p1 := PR_fr f18.1.2.1 (by decide +kernel) p0.2.2.1
  have v1 : vwR H3 = vwR H0 := p1.2.1.trans v0
  have ah1 : absR H3 = (absR H1) := p1.1.trans ah0
  have p2 := PR_slot (s := 55) f27 f4 f26 (by decide) p1.2.2.1
  have v2 : vwR H4 = vwR H0 := p2.2.1.trans v1
  have ah2 : absR H4 = (absR H1) := p2.1.trans ah1
  have p3 := PR_slot (s := 12) f36 f4 f35 (by decide) p2.2.2.1
  have v3 : vwR H5 = vwR H0 := p3.2.1.trans v2
  have ah3 : absR H5 = (absR H1) := p3.1.trans ah2
  have c4 := f37.2.2 p3.2.2.1 (by rw [v3, ah3]; rw [b0]; decide)
  rw [v3, ah3, b0] at c4
  have v4 : vwR H6 = vwR H0 := (vwR_fr f37.1.2.1 (by decide +kernel)).trans v3
  have rl := f18.2.2
  unfold nb_235 at rl
  rw [f17, show decide ((0 : Int) = 1) = false from rfl] at rl
  have fz := faultR_no z1 (kdR_pos b0 (by decide))
  have op1 := op fz
  have x00 := f0 fz
  have e12_0 : n6 = hV H1 285 12 := by rw [d15, show hV H2 285 12 = hV H1 285 12 from f10.1.2.1.1 285 12 (by decide +kernel)]
  have e12_1 : n12 = hV H1 285 12 := by rw [d31, show hV H4 285 12 = hV H1 285 12 from (uSlot f27 285 12 (by rw [f26]; decide)).trans ((f18.1.2.1.1 285 12 (by decide +kernel)).trans (f10.1.2.1.1 285 12 (by decide +kernel)))]
  have h12 : hV H6 285 12 = n14 := (f37.1.2.1.1 285 12 (by decide +kernel)).trans (uSame f36 285 12 (by rw [f4]; rfl) (by rw [f35]; rfl))
  have e55 := f24
  rw [f23] at e55
  have s33 : n14 = n12 - 1 := by
    have q := f33
    rw [f32] at q
    rw [q]
    exact w32_id (by omega) (by omega)
  have xb : XRk H1 H2 := (XRk_fr f10.1.2.1 (by decide +kernel))
  have xd : XRk H3 H6 := (XRk_tr (XRk_up f27 (.inl (by rw [f4, f26]; decide))) (XRk_tr (XRk_up f36 (.inl (by rw [f4, f35]; decide))) (XRk_fr f37.1.2.1 (by decide +kernel))))
  refine ⟨KPc_tr kp (KPc_tr (KPc_x xb) (KPc_tr rl.1 (KPc_x xd))), fun hp => ?_⟩
  rw [c4.2] at hp ⊢
  have pn := ptkR_next z hp
  exact RSr_close (n := n8) (ky (pt1R_kind z hp).1) s0 (by omega) (by omega) b0 xb (f10.1.2.1.1 285 55 (by decide +kernel)) (fRow f10.1.2.1 322 (by decide +kernel)) rl d22 e55 xd ((f37.1.2.1.1 285 55 (by decide +kernel)).trans ((uSlot f36 285 55 (by rw [f35]; decide)).trans (uSame f27 285 55 (by rw [f4]; rfl) (by rw [f26]; rfl)))) ((fRow f37.1.2.1 322 (by decide +kernel)).trans ((uRowNe f36 322 (by rw [f4]; decide)).trans (uRowNe f27 322 (by rw [f4]; decide)))) pn (by omega)
def g_236y_96_10 : vG := ([(1219, [1], [5, 6], 0), (80, [1, 15, 14], [5, 4], 0), (0, [15], [], 12), (23, [1], [4], 12), (2, [14, 12, 13], [], 0), (0, [13], [], 1), (20, [12, 1], [4], 12), (23, [1], [4], 12), (90, [12], [], 0), (91, [12], [], 7), (80, [1, 11, 10], [4, 3], 0), (0, [11], [], 55), (23, [1], [3], 12), (2, [10, 8, 9], [], 0), (0, [9], [], 1), (20, [8, 1], [3], 55), (23, [1], [3], 12), (90, [8], [], 0), (91, [8], [], 64), (1235, [1, 7], [2, 3], 0), (0, [7], [], 0), (44, [6, 2], [], 0), (20, [6, 1], [2], 12), (23, [1], [2], 12), (90, [6], [], 0), (91, [6], [], 7), (31, [5], [], 0), (1216, [5, 1, 4], [1, 2], 0), (90, [5], [], 0), (91, [5], [], 1), (0, [4], [], 7), (5000, [0, 1, 2, 3], [0, 1], 96), (0, [0], [], 285), (0, [1], [], 285), (90, [2], [], 0), (91, [2], [], 7), (90, [3], [], -2147483648), (91, [3], [], 2147483647)], (4000, [1, 2, 3], [6], 96))
theorem c_236y_96_10 {q0 : Nat} : vOkm T0 (eN e_236w L_236y (eAB A_236 B_236) mu_236 y_236 By_236 (some q0)) 1 g_236y_96_10 := vOk_inI fun ρ η f0 f1 f2 f3 f4 f5 f6 f7 f8 f9 f10 f11 f12 f13 f14 f15 f16 f17 f18 f19 f20 f21 f22 f23 f24 f25 f26 f27 f28 f29 f30 f31 f32 f33 f34 f35 f36 f37 => q_236y_18 (q0 := q0) (n0 := ρ 3) (n1 := ρ 2) (n2 := ρ 1) (n3 := ρ 0) (n4 := ρ 4) (n5 := ρ 5) (n6 := ρ 6) (n7 := ρ 7) (n8 := ρ 8) (n9 := ρ 9) (n10 := ρ 10) (n11 := ρ 11) (n12 := ρ 12) (n13 := ρ 13) (n14 := ρ 14) (n15 := ρ 15) (H0 := η 0) (H1 := η 1) (H2 := η 2) (H3 := η 3) (H4 := η 4) (H5 := η 5) (H6 := η 6) f37 f36 f35 f34 f33 f32 f31 f30 f29 f28 f27 f26 f25 f24 f23 f22 f21 f20 f19 f18 f17 f16 f15 f14 f13 f12 f11 f10 f9 f8 f7 f6 f5 f4 f3 f2 f1 f0
def p_236y_96 : List vG := [g_236y_96_0,
  g_236y_96_1,
  g_236y_96_2,
  g_236y_96_3,
  g_236y_96_4,
  g_236y_96_5,
  g_236y_96_6,
  g_236y_96_7,
  g_236y_96_8,
  g_236y_96_9,
  g_236y_96_10]
theorem r_236y_96 : vCovBO (eRc e_236w L_236w cs_236 2000 (96, [(0, (3, 12, 285, 0)), (1, (0, 0, 7, 0)), (2, (0, -2147483648, 2147483647, 0))])) p_236y_96 = true := by decide +kernel
theorem q_236y_19 {q0 : Nat} {n0 n1 n2 n3 n4 n5 n6 n7 n8 n9 n10 n11 n12 n13 n14 n15 : Int} {H0 H1 H2 H3 H4 H5 H6 : gH} (f0 : n0 ≤ 1) (f1 : 0 ≤ n0) (f2 : n1 ≤ 7) (f3 : 0 ≤ n1) (f4 : n2 = 285) (f5 : n3 = 285) (f6 : (hLe T0 H0 H1 ∧ hFr s_236.2.2.2.2 H0 H1 ∧ hWt T0 H1) ∧ (((Ab_236_187 n3 n2 n1 n0 H0 H1 ∧ Bb_236_187 n3 n2 n1 n0 H0 H1) ∧ Byb_236_187 n3 n2 n1 n0 H0 H1) ∧ preb_236 n3 H0) ∧ some q0 = some (mub_236_187 n3 n2 n1 n0 H0 H1)) (f7 : n0 ≠ 0) (f8 : n4 = 10) (f9 : n5 ≤ 1) (f10 : 0 ≤ n5) (f11 : (hLe T0 H1 H2 ∧ hFr s_216.2.2.2.2 H1 H2 ∧ ((0 : Int) = 0 → H2.length = H1.length) ∧ hWt T0 H2) ∧ postb_216 n5 n2 n4 H1 H2) (f12 : n5 ≠ 0) (f13 : n6 = 1) (f14 : (hLe T0 H2 H3 ∧ hFr s_235.2.2.2.2 H2 H3 ∧ ((0 : Int) = 0 → H3.length = H2.length) ∧ hWt T0 H3) ∧ (postb_235 n2 n6 H2 H3 ∧ nb_235 n2 n6 H2 H3)) (f15 : n7 = 322) (f16 : hK H3 (n2).toNat = 12) (f17 : n7 = hV H3 (n2).toNat 54) (f18 : n8 ≤ 64) (f19 : 0 ≤ n8) (f20 : hK H3 (n2).toNat = 12) (f21 : n8 = hV H3 (n2).toNat 55) (f22 : n9 = 288) (f23 : hK H3 (n2).toNat = 12) (f24 : n9 = hV H3 (n2).toNat 5) (f25 : n10 ≤ 500) (f26 : 0 ≤ n10) (f27 : hK H3 (n2).toNat = 12) (f28 : n10 = hV H3 (n2).toNat 11) (f29 : n11 ≤ 53) (f30 : 0 ≤ n11) (f31 : n11 = hV H3 (n9).toNat (n10).toNat) (f32 : hK H3 (n7).toNat = 404) (f33 : hUpd H4 H3 n7 n8 n11) (f34 : n12 ≤ 64) (f35 : 0 ≤ n12) (f36 : hK H4 (n2).toNat = 12) (f37 : n12 = hV H4 (n2).toNat 55) (f38 : n13 = 1) (f39 : n14 = w32 (n12 + n13)) (f40 : hK H4 (n2).toNat = 12) (f41 : n15 = 55) (f42 : hUpd H5 H4 n2 n15 n14) (f43 : (hLe T0 H5 H6 ∧ hFr s_219.2.2.2.2 H5 H6 ∧ ((0 : Int) = 0 → H6.length = H5.length) ∧ hWt T0 H6) ∧ (postb_219 n2 H5 H6 ∧ nb_219 n2 H5 H6)) : Byb_236_12 n3 n2 n1 n0 H0 H6 := by
  unfold Byb_236_12
  intro z s0
  have ga := f6.2.1.1.1.2
  unfold Bb_236_187 at ga
  obtain ⟨z1, op, ye, nc, s1, s0_⟩ := ga z
  have vz : vwR H1 = vwR H0 := vwR_fr f6.1.2.1 (by decide +kernel)
  have gy := f6.2.1.1.2
  unfold Byb_236_187 at gy
  obtain ⟨kp, ky⟩ := gy z s0
  have d21 := rdS (q := 285) f21 f4
  have d28 := rdS (q := 285) f28 f4
  have d31 := rdW (q := 288) f31 f22
  have d37 := rdS (q := 285) f37 f4
  have q7 := f7
  have q12 := f12
  have pr := f6.2.1.2
  unfold preb_236 at pr
  have ab := f6.2.1.1.1.1
  unfold Ab_236_187 at ab
  have hx1 : n1 = hV H0 285 12 := ab.2.2.2.1
  have hft : hV H0 285 13 ≤ hV H1 285 13 := ab.2.2.2.2.2.2.2.2.2.2.1
  have lo0 := z.2.2.2.1
  have lo1 := z1.2.2.2.1
  have rg0 := f0
  have rg1 := f1
  have rg2 := f2
  have rg3 := f3
  have g12 := f6.1.2.2 285 12 _ _ rW_12
  have f0 : hV H1 285 13 = 0 → n1 = 0 := fun c => by omega
  have rg18 := f18
  have rg19 := f19
  have rg34 := f34
  have rg35 := f35
  have s1_ := s1 (by omega)
  have kd : (vwR H0).1 (absR H1).1 = (vwR H0).1 (absR H1).1 := rfl
  have p0 := PR_fr f11.1.2.1 (by decide +kernel) z1
  have v0 : vwR H2 = vwR H0 := p0.2.1.trans vz
  have ah0 : absR H2 = (absR H1) := p0.1
  have i0 := f11.2
  unfold postb_216 at i0
  rw [f8] at i0
  have cm0 := f12
  have b0 := (isR_or (k := 10) p0.2.2.1 (by decide) i0).resolve_right (fun w => cm0 w.1)
  replace b0 := b0.2
  rw [v0, ah0, kmc_10] at b0
  have p1 := PR_fr f14.1.2.1 (by decide +kernel) p0.2.2.1
  have v1 : vwR H3 = vwR H0 := p1.2.1.trans v0
  have ah1 : absR H3 = (absR H1) := p1.1.trans ah0
  have p2 := PR_row (q := 322) f33 f15 (by decide) p1.2.2.1
  have v2 : vwR H4 = vwR H0 := p2.2.1.trans v1
  have ah2 : absR H4 = (absR H1) := p2.1.trans ah1
  have p3 := PR_slot (s := 55) f42 f4 f41 (by decide) p2.2.2.1
  have v3 : vwR H5 = vwR H0 := p3.2.1.trans v2
  have ah3 : absR H5 = (absR H1) := p3.1.trans ah2
  have c4 := f43.2.2 p3.2.2.1 (by rw [v3, ah3]; rw [b0]; decide)
  rw [v3, ah3, b0] at c4
  have v4 : vwR H6 = vwR H0 := (vwR_fr f43.1.2.1 (by decide +kernel)).trans v3
  have rl := f14.2.2
  unfold nb_235 at rl
  rw [f13, show decide ((1 : Int) = 1) = true from rfl] at rl
  have fz := faultR_no z1 (kdR_pos kd (by omega))
  have op1 := op fz
  have h12 : hV H6 285 12 = hV H1 285 12 := (f43.1.2.1.1 285 12 (by decide +kernel)).trans ((uSlot f42 285 12 (by rw [f41]; decide)).trans ((uPlace f33 285 12 (by rw [f15]; decide)).trans ((f14.1.2.1.1 285 12 (by decide +kernel)).trans (f11.1.2.1.1 285 12 (by decide +kernel)))))
  have kk : km n11 = (vwR H0).1 (absR H1).1 := by
    have w := kindR_at z1 fz
    rw [vz] at w
    rw [d31, d28, show hV H3 288 = hV H1 288 from (fRow f14.1.2.1 288 (by decide +kernel)).trans (fRow f11.1.2.1 288 (by decide +kernel)), show hV H3 285 11 = hV H1 285 11 from (f14.1.2.1.1 285 11 (by decide +kernel)).trans (f11.1.2.1.1 285 11 (by decide +kernel))]
    exact w.symm
  have h55 : hV H6 285 55 = n14 := (f43.1.2.1.1 285 55 (by decide +kernel)).trans (uSame f42 285 55 (by rw [f4]; rfl) (by rw [f41]; rfl))
  have r322 : hV H6 322 = uF (hV H3 322) n8 n11 := (fRow f43.1.2.1 322 (by decide +kernel)).trans ((uRowNe f42 322 (by rw [f4]; decide)).trans ((uRowQ f33 322 f15).trans (congrArg (fun g => uF g n8 n11) rfl)))
  have e55_21 : n8 = hV H3 285 55 := by rw [d21, show hV H3 285 55 = hV H3 285 55 from rfl]
  have e55_37 : n12 = hV H3 285 55 := by rw [d37, show hV H4 285 55 = hV H3 285 55 from uPlace f33 285 55 (by rw [f15]; decide)]
  have s39 : n14 = n12 + 1 := by
    have q := f39
    rw [f38] at q
    rw [q]
    exact w32_id (by omega) (by omega)
  have xb : XRk H1 H2 := (XRk_fr f11.1.2.1 (by decide +kernel))
  have xd : XRk H3 H6 := (XRk_tr (XRk_up f33 (.inr (by rw [f15]; decide))) (XRk_tr (XRk_up f42 (.inl (by rw [f4, f41]; decide))) (XRk_fr f43.1.2.1 (by decide +kernel))))
  refine ⟨KPc_tr kp (KPc_tr (KPc_x xb) (KPc_tr rl.1 (KPc_x xd))), fun hp => ?_⟩
  rw [c4.2] at hp ⊢
  have pn := ptkR_next z hp
  rw [h12]
  exact RSr_sign (n := n8) (ky (pt1R_kind z hp).1) s0 (by omega) s1_.1 s1_.2 xb (f11.1.2.1.1 285 55 (by decide +kernel)) (fRow f11.1.2.1 322 (by decide +kernel)) rl ((decide_eq_true (by omega)).symm) (by omega) kk xd (by omega) r322 pn
def g_236y_187_0 : vG := ([(1219, [1], [5, 6], 0), (80, [1, 15, 14], [5, 4], 0), (0, [15], [], 55), (23, [1], [4], 12), (1, [14, 12, 13], [], 0), (0, [13], [], 1), (20, [12, 1], [4], 55), (23, [1], [4], 12), (90, [12], [], 0), (91, [12], [], 64), (80, [7, 8, 11], [4, 3], 0), (23, [7], [3], 404), (22, [11, 9, 10], [3], 0), (90, [11], [], 0), (91, [11], [], 53), (20, [10, 1], [3], 11), (23, [1], [3], 12), (90, [10], [], 0), (91, [10], [], 500), (20, [9, 1], [3], 5), (23, [1], [3], 12), (0, [9], [], 288), (20, [8, 1], [3], 55), (23, [1], [3], 12), (90, [8], [], 0), (91, [8], [], 64), (20, [7, 1], [3], 54), (23, [1], [3], 12), (0, [7], [], 322), (1235, [1, 6], [2, 3], 0), (0, [6], [], 1), (31, [5], [], 0), (1216, [5, 1, 4], [1, 2], 0), (90, [5], [], 0), (91, [5], [], 1), (0, [4], [], 10), (31, [3], [], 0), (5000, [0, 1, 2, 3], [0, 1], 187), (0, [0], [], 285), (0, [1], [], 285), (90, [2], [], 0), (91, [2], [], 7), (90, [3], [], 0), (91, [3], [], 1)], (4000, [1, 2, 3], [6], 12))
theorem c_236y_187_0 {q0 : Nat} : vOkm T0 (eN e_236w L_236y (eAB A_236 B_236) mu_236 y_236 By_236 (some q0)) 1 g_236y_187_0 := vOk_inI fun ρ η f0 f1 f2 f3 f4 f5 f6 f7 f8 f9 f10 f11 f12 f13 f14 f15 f16 f17 f18 f19 f20 f21 f22 f23 f24 f25 f26 f27 f28 f29 f30 f31 f32 f33 f34 f35 f36 f37 f38 f39 f40 f41 f42 f43 => q_236y_19 (q0 := q0) (n0 := ρ 3) (n1 := ρ 2) (n2 := ρ 1) (n3 := ρ 0) (n4 := ρ 4) (n5 := ρ 5) (n6 := ρ 6) (n7 := ρ 7) (n8 := ρ 8) (n9 := ρ 9) (n10 := ρ 10) (n11 := ρ 11) (n12 := ρ 12) (n13 := ρ 13) (n14 := ρ 14) (n15 := ρ 15) (H0 := η 0) (H1 := η 1) (H2 := η 2) (H3 := η 3) (H4 := η 4) (H5 := η 5) (H6 := η 6) f43 f42 f41 f40 f39 f38 f37 f36 f35 f34 f33 f32 f31 f30 f29 f28 f27 f26 f25 f24 f23 f22 f21 f20 f19 f18 f17 f16 f15 f14 f13 f12 f11 f10 f9 f8 f7 f6 f5 f4 f3 f2 f1 f0
theorem q_236y_20 {q0 : Nat} {n0 n1 n2 n3 n4 n5 n6 n7 n8 n9 n10 n11 n12 n13 n14 n15 n16 n17 : Int} {H0 H1 H2 H3 H4 H5 H6 H7 : gH} (f0 : n0 ≤ 1) (f1 : 0 ≤ n0) (f2 : n1 ≤ 7) (f3 : 0 ≤ n1) (f4 : n2 = 285) (f5 : n3 = 285) (f6 : (hLe T0 H0 H1 ∧ hFr s_236.2.2.2.2 H0 H1 ∧ hWt T0 H1) ∧ (((Ab_236_187 n3 n2 n1 n0 H0 H1 ∧ Bb_236_187 n3 n2 n1 n0 H0 H1) ∧ Byb_236_187 n3 n2 n1 n0 H0 H1) ∧ preb_236 n3 H0) ∧ some q0 = some (mub_236_187 n3 n2 n1 n0 H0 H1)) (f7 : n0 ≠ 0) (f8 : n4 = 10) (f9 : n5 ≤ 1) (f10 : 0 ≤ n5) (f11 : (hLe T0 H1 H2 ∧ hFr s_216.2.2.2.2 H1 H2 ∧ ((0 : Int) = 0 → H2.length = H1.length) ∧ hWt T0 H2) ∧ postb_216 n5 n2 n4 H1 H2) (f12 : n5 = 0) (f13 : n6 = 15) (f14 : n7 ≤ 1) (f15 : 0 ≤ n7) (f16 : (hLe T0 H2 H3 ∧ hFr s_216.2.2.2.2 H2 H3 ∧ ((0 : Int) = 0 → H3.length = H2.length) ∧ hWt T0 H3) ∧ postb_216 n7 n2 n6 H2 H3) (f17 : n7 = 0) (f18 : n8 = 0) (f19 : (hLe T0 H3 H4 ∧ hFr s_235.2.2.2.2 H3 H4 ∧ ((0 : Int) = 0 → H4.length = H3.length) ∧ hWt T0 H4) ∧ (postb_235 n2 n8 H3 H4 ∧ nb_235 n2 n8 H3 H4)) (f20 : n9 = 322) (f21 : hK H4 (n2).toNat = 12) (f22 : n9 = hV H4 (n2).toNat 54) (f23 : n10 ≤ 64) (f24 : 0 ≤ n10) (f25 : hK H4 (n2).toNat = 12) (f26 : n10 = hV H4 (n2).toNat 55) (f27 : n11 = 288) (f28 : hK H4 (n2).toNat = 12) (f29 : n11 = hV H4 (n2).toNat 5) (f30 : n12 ≤ 500) (f31 : 0 ≤ n12) (f32 : hK H4 (n2).toNat = 12) (f33 : n12 = hV H4 (n2).toNat 11) (f34 : n13 ≤ 53) (f35 : 0 ≤ n13) (f36 : n13 = hV H4 (n11).toNat (n12).toNat) (f37 : hK H4 (n9).toNat = 404) (f38 : hUpd H5 H4 n9 n10 n13) (f39 : n14 ≤ 64) (f40 : 0 ≤ n14) (f41 : hK H5 (n2).toNat = 12) (f42 : n14 = hV H5 (n2).toNat 55) (f43 : n15 = 1) (f44 : n16 = w32 (n14 + n15)) (f45 : hK H5 (n2).toNat = 12) (f46 : n17 = 55) (f47 : hUpd H6 H5 n2 n17 n16) (f48 : (hLe T0 H6 H7 ∧ hFr s_219.2.2.2.2 H6 H7 ∧ ((0 : Int) = 0 → H7.length = H6.length) ∧ hWt T0 H7) ∧ (postb_219 n2 H6 H7 ∧ nb_219 n2 H6 H7)) : Byb_236_12 n3 n2 n1 n0 H0 H7 := by
  unfold Byb_236_12
  intro z s0
  have ga := f6.2.1.1.1.2
  unfold Bb_236_187 at ga
  obtain ⟨z1, op, ye, nc, s1, s0_⟩ := ga z
  have vz : vwR H1 = vwR H0 := vwR_fr f6.1.2.1 (by decide +kernel)
  have gy := f6.2.1.1.2
  unfold Byb_236_187 at gy
  obtain ⟨kp, ky⟩ := gy z s0
  have d26 := rdS (q := 285) f26 f4
  have d33 := rdS (q := 285) f33 f4
  have d36 := rdW (q := 288) f36 f27
  have d42 := rdS (q := 285) f42 f4
  have q7 := f7
  have q12 := f12
  have q17 := f17
  have pr := f6.2.1.2
  unfold preb_236 at pr
  have ab := f6.2.1.1.1.1
  unfold Ab_236_187 at ab
  have hx1 : n1 = hV H0 285 12 := ab.2.2.2.1
  have hft : hV H0 285 13 ≤ hV H1 285 13 := ab.2.2.2.2.2.2.2.2.2.2.1
  have lo0 := z.2.2.2.1
  have lo1 := z1.2.2.2.1
  have rg0 := f0
  have rg1 := f1
  have rg2 := f2
  have rg3 := f3
  have g12 := f6.1.2.2 285 12 _ _ rW_12
  have f0 : hV H1 285 13 = 0 → n1 = 0 := fun c => by omega
  have rg23 := f23
  have rg24 := f24
  have rg39 := f39
  have rg40 := f40
  have s1_ := s1 (by omega)
  have kd : (vwR H0).1 (absR H1).1 = (vwR H0).1 (absR H1).1 := rfl
  have p0 := PR_fr f11.1.2.1 (by decide +kernel) z1
  have v0 : vwR H2 = vwR H0 := p0.2.1.trans vz
  have ah0 : absR H2 = (absR H1) := p0.1
  have i0 := f11.2
  unfold postb_216 at i0
  rw [f8] at i0
  have cm0 := f12
  have b0 := (isR_or (k := 10) p0.2.2.1 (by decide) i0).resolve_left (fun w => absurd (w.1.symm.trans cm0) (by decide))
  replace b0 := b0.2
  rw [v0, ah0, kmc_10] at b0
  have p1 := PR_fr f16.1.2.1 (by decide +kernel) p0.2.2.1
  have v1 : vwR H3 = vwR H0 := p1.2.1.trans v0
  have ah1 : absR H3 = (absR H1) := p1.1.trans ah0
  have i1 := f16.2
  unfold postb_216 at i1
  rw [f13] at i1
  have cm1 := f17
  have b1 := (isR_or (k := 15) p1.2.2.1 (by decide) i1).resolve_left (fun w => absurd (w.1.symm.trans cm1) (by decide))
  replace b1 := b1.2
  rw [v1, ah1, kmc_15] at b1
  have p2 := PR_fr f19.1.2.1 (by decide +kernel) p1.2.2.1
  have v2 : vwR H4 = vwR H0 := p2.2.1.trans v1
  have ah2 : absR H4 = (absR H1) := p2.1.trans ah1
  have p3 := PR_row (q := 322) f38 f20 (by decide) p2.2.2.1
  have v3 : vwR H5 = vwR H0 := p3.2.1.trans v2
  have ah3 : absR H5 = (absR H1) := p3.1.trans ah2
  have p4 := PR_slot (s := 55) f47 f4 f46 (by decide) p3.2.2.1
  have v4 : vwR H6 = vwR H0 := p4.2.1.trans v3
  have ah4 : absR H6 = (absR H1) := p4.1.trans ah3
  have c5 := f48.2.2 p4.2.2.1 (by rw [v4, ah4]; rw [kd]; omega)
  rw [v4, ah4, kd] at c5
  have v5 : vwR H7 = vwR H0 := (vwR_fr f48.1.2.1 (by decide +kernel)).trans v4
  have rl := f19.2.2
  unfold nb_235 at rl
  rw [f18, show decide ((0 : Int) = 1) = false from rfl] at rl
  have fz := faultR_no z1 (kdR_pos kd (by omega))
  have op1 := op fz
  have h12 : hV H7 285 12 = hV H1 285 12 := (f48.1.2.1.1 285 12 (by decide +kernel)).trans ((uSlot f47 285 12 (by rw [f46]; decide)).trans ((uPlace f38 285 12 (by rw [f20]; decide)).trans ((f19.1.2.1.1 285 12 (by decide +kernel)).trans ((f16.1.2.1.1 285 12 (by decide +kernel)).trans (f11.1.2.1.1 285 12 (by decide +kernel))))))
  have kk : km n13 = (vwR H0).1 (absR H1).1 := by
    have w := kindR_at z1 fz
    rw [vz] at w
    rw [d36, d33, show hV H4 288 = hV H1 288 from (fRow f19.1.2.1 288 (by decide +kernel)).trans ((fRow f16.1.2.1 288 (by decide +kernel)).trans (fRow f11.1.2.1 288 (by decide +kernel))), show hV H4 285 11 = hV H1 285 11 from (f19.1.2.1.1 285 11 (by decide +kernel)).trans ((f16.1.2.1.1 285 11 (by decide +kernel)).trans (f11.1.2.1.1 285 11 (by decide +kernel)))]
    exact w.symm
  have h55 : hV H7 285 55 = n16 := (f48.1.2.1.1 285 55 (by decide +kernel)).trans (uSame f47 285 55 (by rw [f4]; rfl) (by rw [f46]; rfl))
  have r322 : hV H7 322 = uF (hV H4 322) n10 n13 := (fRow f48.1.2.1 322 (by decide +kernel)).trans ((uRowNe f47 322 (by rw [f4]; decide)).trans ((uRowQ f38 322 f20).trans (congrArg (fun g => uF g n10 n13) rfl)))
  have e55_26 : n10 = hV H4 285 55 := by rw [d26, show hV H4 285 55 = hV H4 285 55 from rfl]
  have e55_42 : n14 = hV H4 285 55 := by rw [d42, show hV H5 285 55 = hV H4 285 55 from uPlace f38 285 55 (by rw [f20]; decide)]
  have s44 : n16 = n14 + 1 := by
    have q := f44
    rw [f43] at q
    rw [q]
    exact w32_id (by omega) (by omega)
  have xb : XRk H1 H3 := (XRk_tr (XRk_fr f11.1.2.1 (by decide +kernel)) (XRk_fr f16.1.2.1 (by decide +kernel)))
  have xd : XRk H4 H7 := (XRk_tr (XRk_up f38 (.inr (by rw [f20]; decide))) (XRk_tr (XRk_up f47 (.inl (by rw [f4, f46]; decide))) (XRk_fr f48.1.2.1 (by decide +kernel))))
  refine ⟨KPc_tr kp (KPc_tr (KPc_x xb) (KPc_tr rl.1 (KPc_x xd))), fun hp => ?_⟩
  rw [c5.2] at hp ⊢
  have pn := ptkR_next z hp
  rw [h12]
  exact RSr_sign (n := n10) (ky (pt1R_kind z hp).1) s0 (by omega) s1_.1 s1_.2 xb ((f16.1.2.1.1 285 55 (by decide +kernel)).trans (f11.1.2.1.1 285 55 (by decide +kernel))) ((fRow f16.1.2.1 322 (by decide +kernel)).trans (fRow f11.1.2.1 322 (by decide +kernel))) rl ((decide_eq_false (by omega)).symm) (by omega) kk xd (by omega) r322 pn
def g_236y_187_1 : vG := ([(1219, [1], [6, 7], 0), (80, [1, 17, 16], [6, 5], 0), (0, [17], [], 55), (23, [1], [5], 12), (1, [16, 14, 15], [], 0), (0, [15], [], 1), (20, [14, 1], [5], 55), (23, [1], [5], 12), (90, [14], [], 0), (91, [14], [], 64), (80, [9, 10, 13], [5, 4], 0), (23, [9], [4], 404), (22, [13, 11, 12], [4], 0), (90, [13], [], 0), (91, [13], [], 53), (20, [12, 1], [4], 11), (23, [1], [4], 12), (90, [12], [], 0), (91, [12], [], 500), (20, [11, 1], [4], 5), (23, [1], [4], 12), (0, [11], [], 288), (20, [10, 1], [4], 55), (23, [1], [4], 12), (90, [10], [], 0), (91, [10], [], 64), (20, [9, 1], [4], 54), (23, [1], [4], 12), (0, [9], [], 322), (1235, [1, 8], [3, 4], 0), (0, [8], [], 0), (30, [7], [], 0), (1216, [7, 1, 6], [2, 3], 0), (90, [7], [], 0), (91, [7], [], 1), (0, [6], [], 15), (30, [5], [], 0), (1216, [5, 1, 4], [1, 2], 0), (90, [5], [], 0), (91, [5], [], 1), (0, [4], [], 10), (31, [3], [], 0), (5000, [0, 1, 2, 3], [0, 1], 187), (0, [0], [], 285), (0, [1], [], 285), (90, [2], [], 0), (91, [2], [], 7), (90, [3], [], 0), (91, [3], [], 1)], (4000, [1, 2, 3], [7], 12))
theorem c_236y_187_1 {q0 : Nat} : vOkm T0 (eN e_236w L_236y (eAB A_236 B_236) mu_236 y_236 By_236 (some q0)) 1 g_236y_187_1 := vOk_inI fun ρ η f0 f1 f2 f3 f4 f5 f6 f7 f8 f9 f10 f11 f12 f13 f14 f15 f16 f17 f18 f19 f20 f21 f22 f23 f24 f25 f26 f27 f28 f29 f30 f31 f32 f33 f34 f35 f36 f37 f38 f39 f40 f41 f42 f43 f44 f45 f46 f47 f48 => q_236y_20 (q0 := q0) (n0 := ρ 3) (n1 := ρ 2) (n2 := ρ 1) (n3 := ρ 0) (n4 := ρ 4) (n5 := ρ 5) (n6 := ρ 6) (n7 := ρ 7) (n8 := ρ 8) (n9 := ρ 9) (n10 := ρ 10) (n11 := ρ 11) (n12 := ρ 12) (n13 := ρ 13) (n14 := ρ 14) (n15 := ρ 15) (n16 := ρ 16) (n17 := ρ 17) (H0 := η 0) (H1 := η 1) (H2 := η 2) (H3 := η 3) (H4 := η 4) (H5 := η 5) (H6 := η 6) (H7 := η 7) f48 f47 f46 f45 f44 f43 f42 f41 f40 f39 f38 f37 f36 f35 f34 f33 f32 f31 f30 f29 f28 f27 f26 f25 f24 f23 f22 f21 f20 f19 f18 f17 f16 f15 f14 f13 f12 f11 f10 f9 f8 f7 f6 f5 f4 f3 f2 f1 f0
theorem q_236y_21 {q0 : Nat} {n0 n1 n2 n3 n4 n5 n6 n7 n8 n9 n10 n11 n12 n13 n14 n15 n16 n17 : Int} {H0 H1 H2 H3 H4 H5 H6 H7 : gH} (f0 : n0 ≤ 1) (f1 : 0 ≤ n0) (f2 : n1 ≤ 7) (f3 : 0 ≤ n1) (f4 : n2 = 285) (f5 : n3 = 285) (f6 : (hLe T0 H0 H1 ∧ hFr s_236.2.2.2.2 H0 H1 ∧ hWt T0 H1) ∧ (((Ab_236_187 n3 n2 n1 n0 H0 H1 ∧ Bb_236_187 n3 n2 n1 n0 H0 H1) ∧ Byb_236_187 n3 n2 n1 n0 H0 H1) ∧ preb_236 n3 H0) ∧ some q0 = some (mub_236_187 n3 n2 n1 n0 H0 H1)) (f7 : n0 ≠ 0) (f8 : n4 = 10) (f9 : n5 ≤ 1) (f10 : 0 ≤ n5) (f11 : (hLe T0 H1 H2 ∧ hFr s_216.2.2.2.2 H1 H2 ∧ ((0 : Int) = 0 → H2.length = H1.length) ∧ hWt T0 H2) ∧ postb_216 n5 n2 n4 H1 H2) (f12 : n5 = 0) (f13 : n6 = 15) (f14 : n7 ≤ 1) (f15 : 0 ≤ n7) (f16 : (hLe T0 H2 H3 ∧ hFr s_216.2.2.2.2 H2 H3 ∧ ((0 : Int) = 0 → H3.length = H2.length) ∧ hWt T0 H3) ∧ postb_216 n7 n2 n6 H2 H3) (f17 : n7 ≠ 0) (f18 : n8 = 1) (f19 : (hLe T0 H3 H4 ∧ hFr s_235.2.2.2.2 H3 H4 ∧ ((0 : Int) = 0 → H4.length = H3.length) ∧ hWt T0 H4) ∧ (postb_235 n2 n8 H3 H4 ∧ nb_235 n2 n8 H3 H4)) (f20 : n9 = 322) (f21 : hK H4 (n2).toNat = 12) (f22 : n9 = hV H4 (n2).toNat 54) (f23 : n10 ≤ 64) (f24 : 0 ≤ n10) (f25 : hK H4 (n2).toNat = 12) (f26 : n10 = hV H4 (n2).toNat 55) (f27 : n11 = 288) (f28 : hK H4 (n2).toNat = 12) (f29 : n11 = hV H4 (n2).toNat 5) (f30 : n12 ≤ 500) (f31 : 0 ≤ n12) (f32 : hK H4 (n2).toNat = 12) (f33 : n12 = hV H4 (n2).toNat 11) (f34 : n13 ≤ 53) (f35 : 0 ≤ n13) (f36 : n13 = hV H4 (n11).toNat (n12).toNat) (f37 : hK H4 (n9).toNat = 404) (f38 : hUpd H5 H4 n9 n10 n13) (f39 : n14 ≤ 64) (f40 : 0 ≤ n14) (f41 : hK H5 (n2).toNat = 12) (f42 : n14 = hV H5 (n2).toNat 55) (f43 : n15 = 1) (f44 : n16 = w32 (n14 + n15)) (f45 : hK H5 (n2).toNat = 12) (f46 : n17 = 55) (f47 : hUpd H6 H5 n2 n17 n16) (f48 : (hLe T0 H6 H7 ∧ hFr s_219.2.2.2.2 H6 H7 ∧ ((0 : Int) = 0 → H7.length = H6.length) ∧ hWt T0 H7) ∧ (postb_219 n2 H6 H7 ∧ nb_219 n2 H6 H7)) : Byb_236_12 n3 n2 n1 n0 H0 H7 := by
  unfold Byb_236_12
  intro z s0
  have ga := f6.2.1.1.1.2
  unfold Bb_236_187 at ga
  obtain ⟨z1, op, ye, nc, s1, s0_⟩ := ga z
  have vz : vwR H1 = vwR H0 := vwR_fr f6.1.2.1 (by decide +kernel)
  have gy := f6.2.1.1.2
  unfold Byb_236_187 at gy
  obtain ⟨kp, ky⟩ := gy z s0
  have d26 := rdS (q := 285) f26 f4
  have d33 := rdS (q := 285) f33 f4
  have d36 := rdW (q := 288) f36 f27
  have d42 := rdS (q := 285) f42 f4
  have q7 := f7
  have q12 := f12
  have q17 := f17
  have pr := f6.2.1.2
  unfold preb_236 at pr
  have ab := f6.2.1.1.1.1
  unfold Ab_236_187 at ab
  have hx1 : n1 = hV H0 285 12 := ab.2.2.2.1
  have hft : hV H0 285 13 ≤ hV H1 285 13 := ab.2.2.2.2.2.2.2.2.2.2.1
  have lo0 := z.2.2.2.1
  have lo1 := z1.2.2.2.1
  have rg0 := f0
  have rg1 := f1
  have rg2 := f2
  have rg3 := f3
  have g12 := f6.1.2.2 285 12 _ _ rW_12
  have f0 : hV H1 285 13 = 0 → n1 = 0 := fun c => by omega
  have rg23 := f23
  have rg24 := f24
  have rg39 := f39
  have rg40 := f40
  have s1_ := s1 (by omega)
  have kd : (vwR H0).1 (absR H1).1 = (vwR H0).1 (absR H1).1 := rfl
  have p0 := PR_fr f11.1.2.1 (by decide +kernel) z1
  have v0 : vwR H2 = vwR H0 := p0.2.1.trans vz
  have ah0 : absR H2 = (absR H1) := p0.1
  have i0 := f11.2
  unfold postb_216 at i0
  rw [f8] at i0
  have cm0 := f12
  have b0 := (isR_or (k := 10) p0.2.2.1 (by decide) i0).resolve_left (fun w => absurd (w.1.symm.trans cm0) (by decide))
  replace b0 := b0.2
  rw [v0, ah0, kmc_10] at b0
  have p1 := PR_fr f16.1.2.1 (by decide +kernel) p0.2.2.1
  have v1 : vwR H3 = vwR H0 := p1.2.1.trans v0
  have ah1 : absR H3 = (absR H1) := p1.1.trans ah0
  have i1 := f16.2
  unfold postb_216 at i1
  rw [f13] at i1
  have cm1 := f17
  have b1 := (isR_or (k := 15) p1.2.2.1 (by decide) i1).resolve_right (fun w => cm1 w.1)
  replace b1 := b1.2
  rw [v1, ah1, kmc_15] at b1
  have p2 := PR_fr f19.1.2.1 (by decide +kernel) p1.2.2.1
  have v2 : vwR H4 = vwR H0 := p2.2.1.trans v1
  have ah2 : absR H4 = (absR H1) := p2.1.trans ah1
  have p3 := PR_row (q := 322) f38 f20 (by decide) p2.2.2.1
  have v3 : vwR H5 = vwR H0 := p3.2.1.trans v2
  have ah3 : absR H5 = (absR H1) := p3.1.trans ah2
  have p4 := PR_slot (s := 55) f47 f4 f46 (by decide) p3.2.2.1
  have v4 : vwR H6 = vwR H0 := p4.2.1.trans v3
  have ah4 : absR H6 = (absR H1) := p4.1.trans ah3
  have c5 := f48.2.2 p4.2.2.1 (by rw [v4, ah4]; rw [b1]; decide)
  rw [v4, ah4, b1] at c5
  have v5 : vwR H7 = vwR H0 := (vwR_fr f48.1.2.1 (by decide +kernel)).trans v4
  have rl := f19.2.2
  unfold nb_235 at rl
  rw [f18, show decide ((1 : Int) = 1) = true from rfl] at rl
  have fz := faultR_no z1 (kdR_pos kd (by omega))
  have op1 := op fz
  have h12 : hV H7 285 12 = hV H1 285 12 := (f48.1.2.1.1 285 12 (by decide +kernel)).trans ((uSlot f47 285 12 (by rw [f46]; decide)).trans ((uPlace f38 285 12 (by rw [f20]; decide)).trans ((f19.1.2.1.1 285 12 (by decide +kernel)).trans ((f16.1.2.1.1 285 12 (by decide +kernel)).trans (f11.1.2.1.1 285 12 (by decide +kernel))))))
  have kk : km n13 = (vwR H0).1 (absR H1).1 := by
    have w := kindR_at z1 fz
    rw [vz] at w
    rw [d36, d33, show hV H4 288 = hV H1 288 from (fRow f19.1.2.1 288 (by decide +kernel)).trans ((fRow f16.1.2.1 288 (by decide +kernel)).trans (fRow f11.1.2.1 288 (by decide +kernel))), show hV H4 285 11 = hV H1 285 11 from (f19.1.2.1.1 285 11 (by decide +kernel)).trans ((f16.1.2.1.1 285 11 (by decide +kernel)).trans (f11.1.2.1.1 285 11 (by decide +kernel)))]
    exact w.symm
  have h55 : hV H7 285 55 = n16 := (f48.1.2.1.1 285 55 (by decide +kernel)).trans (uSame f47 285 55 (by rw [f4]; rfl) (by rw [f46]; rfl))
  have r322 : hV H7 322 = uF (hV H4 322) n10 n13 := (fRow f48.1.2.1 322 (by decide +kernel)).trans ((uRowNe f47 322 (by rw [f4]; decide)).trans ((uRowQ f38 322 f20).trans (congrArg (fun g => uF g n10 n13) rfl)))
  have e55_26 : n10 = hV H4 285 55 := by rw [d26, show hV H4 285 55 = hV H4 285 55 from rfl]
  have e55_42 : n14 = hV H4 285 55 := by rw [d42, show hV H5 285 55 = hV H4 285 55 from uPlace f38 285 55 (by rw [f20]; decide)]
  have s44 : n16 = n14 + 1 := by
    have q := f44
    rw [f43] at q
    rw [q]
    exact w32_id (by omega) (by omega)
  have xb : XRk H1 H3 := (XRk_tr (XRk_fr f11.1.2.1 (by decide +kernel)) (XRk_fr f16.1.2.1 (by decide +kernel)))
  have xd : XRk H4 H7 := (XRk_tr (XRk_up f38 (.inr (by rw [f20]; decide))) (XRk_tr (XRk_up f47 (.inl (by rw [f4, f46]; decide))) (XRk_fr f48.1.2.1 (by decide +kernel))))
  refine ⟨KPc_tr kp (KPc_tr (KPc_x xb) (KPc_tr rl.1 (KPc_x xd))), fun hp => ?_⟩
  rw [c5.2] at hp ⊢
  have pn := ptkR_next z hp
  rw [h12]
  exact RSr_sign (n := n10) (ky (pt1R_kind z hp).1) s0 (by omega) s1_.1 s1_.2 xb ((f16.1.2.1.1 285 55 (by decide +kernel)).trans (f11.1.2.1.1 285 55 (by decide +kernel))) ((fRow f16.1.2.1 322 (by decide +kernel)).trans (fRow f11.1.2.1 322 (by decide +kernel))) rl ((decide_eq_true (by omega)).symm) (by omega) kk xd (by omega) r322 pn
def g_236y_187_2 : vG := ([(1219, [1], [6, 7], 0), (80, [1, 17, 16], [6, 5], 0), (0, [17], [], 55), (23, [1], [5], 12), (1, [16, 14, 15], [], 0), (0, [15], [], 1), (20, [14, 1], [5], 55), (23, [1], [5], 12), (90, [14], [], 0), (91, [14], [], 64), (80, [9, 10, 13], [5, 4], 0), (23, [9], [4], 404), (22, [13, 11, 12], [4], 0), (90, [13], [], 0), (91, [13], [], 53), (20, [12, 1], [4], 11), (23, [1], [4], 12), (90, [12], [], 0), (91, [12], [], 500), (20, [11, 1], [4], 5), (23, [1], [4], 12), (0, [11], [], 288), (20, [10, 1], [4], 55), (23, [1], [4], 12), (90, [10], [], 0), (91, [10], [], 64), (20, [9, 1], [4], 54), (23, [1], [4], 12), (0, [9], [], 322), (1235, [1, 8], [3, 4], 0), (0, [8], [], 1), (31, [7], [], 0), (1216, [7, 1, 6], [2, 3], 0), (90, [7], [], 0), (91, [7], [], 1), (0, [6], [], 15), (30, [5], [], 0), (1216, [5, 1, 4], [1, 2], 0), (90, [5], [], 0), (91, [5], [], 1), (0, [4], [], 10), (31, [3], [], 0), (5000, [0, 1, 2, 3], [0, 1], 187), (0, [0], [], 285), (0, [1], [], 285), (90, [2], [], 0), (91, [2], [], 7), (90, [3], [], 0), (91, [3], [], 1)], (4000, [1, 2, 3], [7], 12))
theorem c_236y_187_2 {q0 : Nat} : vOkm T0 (eN e_236w L_236y (eAB A_236 B_236) mu_236 y_236 By_236 (some q0)) 1 g_236y_187_2 := vOk_inI fun ρ η f0 f1 f2 f3 f4 f5 f6 f7 f8 f9 f10 f11 f12 f13 f14 f15 f16 f17 f18 f19 f20 f21 f22 f23 f24 f25 f26 f27 f28 f29 f30 f31 f32 f33 f34 f35 f36 f37 f38 f39 f40 f41 f42 f43 f44 f45 f46 f47 f48 => q_236y_21 (q0 := q0) (n0 := ρ 3) (n1 := ρ 2) (n2 := ρ 1) (n3 := ρ 0) (n4 := ρ 4) (n5 := ρ 5) (n6 := ρ 6) (n7 := ρ 7) (n8 := ρ 8) (n9 := ρ 9) (n10 := ρ 10) (n11 := ρ 11) (n12 := ρ 12) (n13 := ρ 13) (n14 := ρ 14) (n15 := ρ 15) (n16 := ρ 16) (n17 := ρ 17) (H0 := η 0) (H1 := η 1) (H2 := η 2) (H3 := η 3) (H4 := η 4) (H5 := η 5) (H6 := η 6) (H7 := η 7) f48 f47 f46 f45 f44 f43 f42 f41 f40 f39 f38 f37 f36 f35 f34 f33 f32 f31 f30 f29 f28 f27 f26 f25 f24 f23 f22 f21 f20 f19 f18 f17 f16 f15 f14 f13 f12 f11 f10 f9 f8 f7 f6 f5 f4 f3 f2 f1 f0
theorem q_236y_22 {q0 : Nat} {n0 n1 n2 n3 n4 n5 : Int} {H0 H1 H2 : gH} (f0 : n0 ≤ 1) (f1 : 0 ≤ n0) (f2 : n1 ≤ 7) (f3 : 0 ≤ n1) (f4 : n2 = 285) (f5 : n3 = 285) (f6 : (hLe T0 H0 H1 ∧ hFr s_236.2.2.2.2 H0 H1 ∧ hWt T0 H1) ∧ (((Ab_236_187 n3 n2 n1 n0 H0 H1 ∧ Bb_236_187 n3 n2 n1 n0 H0 H1) ∧ Byb_236_187 n3 n2 n1 n0 H0 H1) ∧ preb_236 n3 H0) ∧ some q0 = some (mub_236_187 n3 n2 n1 n0 H0 H1)) (f7 : n0 = 0) (f8 : n4 ≤ 7) (f9 : 0 ≤ n4) (f10 : hK H1 (n2).toNat = 12) (f11 : n4 = hV H1 (n2).toNat 12) (f12 : n4 ≤ n1) (f13 : n5 = 0) (f14 : (hLe T0 H1 H2 ∧ hFr s_235.2.2.2.2 H1 H2 ∧ ((0 : Int) = 0 → H2.length = H1.length) ∧ hWt T0 H2) ∧ (postb_235 n2 n5 H1 H2 ∧ nb_235 n2 n5 H1 H2)) : yb_236 n3 H0 H2 := by
  unfold yb_236
  intro z s0
  have ga := f6.2.1.1.1.2
  unfold Bb_236_187 at ga
  obtain ⟨z1, op, ye, nc, s1, s0_⟩ := ga z
  have vz : vwR H1 = vwR H0 := vwR_fr f6.1.2.1 (by decide +kernel)
  have gy := f6.2.1.1.2
  unfold Byb_236_187 at gy
  obtain ⟨kp, ky⟩ := gy z s0
  have d11 := rdS (q := 285) f11 f4
  have q7 := f7
  have q12 := f12
  have pr := f6.2.1.2
  unfold preb_236 at pr
  have ab := f6.2.1.1.1.1
  unfold Ab_236_187 at ab
  have hx1 : n1 = hV H0 285 12 := ab.2.2.2.1
  have hft : hV H0 285 13 ≤ hV H1 285 13 := ab.2.2.2.2.2.2.2.2.2.2.1
  have lo0 := z.2.2.2.1
  have lo1 := z1.2.2.2.1
  have rg0 := f0
  have rg1 := f1
  have rg2 := f2
  have rg3 := f3
  have g12 := f6.1.2.2 285 12 _ _ rW_12
  have f0 : hV H1 285 13 = 0 → n1 = 0 := fun c => by omega
  have rg8 := f8
  have rg9 := f9
  have p0 := PR_fr f14.1.2.1 (by decide +kernel) z1
  have v0 : vwR H2 = vwR H0 := p0.2.1.trans vz
  have ah0 : absR H2 = (absR H1) := p0.1
  have rl := f14.2.2
  unfold nb_235 at rl
  rw [f13, show decide ((0 : Int) = 1) = false from rfl] at rl
  have xb : XRk H1 H1 := XRk_rfl
  refine ⟨KPc_tr kp (KPc_tr (KPc_x xb) rl.1), fun hp => ?_⟩
  rw [ah0] at hp ⊢
  have fz := faultR_no z1 hp
  have x00 := f0 fz
  have op1 := op fz
  have r := ky hp
  rw [show hV H1 285 12 = 0 by omega] at r
  exact RSr_end r s0 xb (rfl) (rfl) rl
def g_236y_187_3 : vG := ([(1235, [1, 5], [1, 2], 0), (0, [5], [], 0), (45, [4, 2], [], 0), (20, [4, 1], [1], 12), (23, [1], [1], 12), (90, [4], [], 0), (91, [4], [], 7), (30, [3], [], 0), (5000, [0, 1, 2, 3], [0, 1], 187), (0, [0], [], 285), (0, [1], [], 285), (90, [2], [], 0), (91, [2], [], 7), (90, [3], [], 0), (91, [3], [], 1)], (3000, [], [2], 209))
theorem c_236y_187_3 {q0 : Nat} : vOkm T0 (eN e_236w L_236y (eAB A_236 B_236) mu_236 y_236 By_236 (some q0)) 1 g_236y_187_3 := vOk_inI fun ρ η f0 f1 f2 f3 f4 f5 f6 f7 f8 f9 f10 f11 f12 f13 f14 => q_236y_22 (q0 := q0) (n0 := ρ 3) (n1 := ρ 2) (n2 := ρ 1) (n3 := ρ 0) (n4 := ρ 4) (n5 := ρ 5) (H0 := η 0) (H1 := η 1) (H2 := η 2) f14 f13 f12 f11 f10 f9 f8 f7 f6 f5 f4 f3 f2 f1 f0
theorem q_236y_23 {q0 : Nat} {n0 n1 n2 n3 n4 n5 n6 : Int} {H0 H1 H2 H3 : gH} (f0 : n0 ≤ 1) (f1 : 0 ≤ n0) (f2 : n1 ≤ 7) (f3 : 0 ≤ n1) (f4 : n2 = 285) (f5 : n3 = 285) (f6 : (hLe T0 H0 H1 ∧ hFr s_236.2.2.2.2 H0 H1 ∧ hWt T0 H1) ∧ (((Ab_236_187 n3 n2 n1 n0 H0 H1 ∧ Bb_236_187 n3 n2 n1 n0 H0 H1) ∧ Byb_236_187 n3 n2 n1 n0 H0 H1) ∧ preb_236 n3 H0) ∧ some q0 = some (mub_236_187 n3 n2 n1 n0 H0 H1)) (f7 : n0 = 0) (f8 : n4 ≤ 7) (f9 : 0 ≤ n4) (f10 : hK H1 (n2).toNat = 12) (f11 : n4 = hV H1 (n2).toNat 12) (f12 : n1 < n4) (f13 : n5 = 1) (f14 : (hLe T0 H1 H2 ∧ hFr s_217.2.2.2.2 H1 H2 ∧ ((0 : Int) = 0 → H2.length = H1.length) ∧ hWt T0 H2) ∧ (postb_217 n2 n5 H1 H2 ∧ nb_217 n2 n5 H1 H2)) (f15 : n6 = 0) (f16 : (hLe T0 H2 H3 ∧ hFr s_235.2.2.2.2 H2 H3 ∧ ((0 : Int) = 0 → H3.length = H2.length) ∧ hWt T0 H3) ∧ (postb_235 n2 n6 H2 H3 ∧ nb_235 n2 n6 H2 H3)) : yb_236 n3 H0 H3 := by
  unfold yb_236
  intro z s0
  have ga := f6.2.1.1.1.2
  unfold Bb_236_187 at ga
  obtain ⟨z1, op, ye, nc, s1, s0_⟩ := ga z
  have vz : vwR H1 = vwR H0 := vwR_fr f6.1.2.1 (by decide +kernel)
  have gy := f6.2.1.1.2
  unfold Byb_236_187 at gy
  obtain ⟨kp, ky⟩ := gy z s0
  have d11 := rdS (q := 285) f11 f4
  have q7 := f7
  have q12 := f12
  have pr := f6.2.1.2
  unfold preb_236 at pr
  have ab := f6.2.1.1.1.1
  unfold Ab_236_187 at ab
  have hx1 : n1 = hV H0 285 12 := ab.2.2.2.1
  have hft : hV H0 285 13 ≤ hV H1 285 13 := ab.2.2.2.2.2.2.2.2.2.2.1
  have lo0 := z.2.2.2.1
  have lo1 := z1.2.2.2.1
  have rg0 := f0
  have rg1 := f1
  have rg2 := f2
  have rg3 := f3
  have g12 := f6.1.2.2 285 12 _ _ rW_12
  have f0 : hV H1 285 13 = 0 → n1 = 0 := fun c => by omega
  have rg8 := f8
  have rg9 := f9
  have c0 := f14.2.2 z1
  try rw [f13] at c0
  rw [vz] at c0
  have v0 : vwR H2 = vwR H0 := (vwR_fr f14.1.2.1 (by decide +kernel)).trans vz
  have p1 := PR_fr f16.1.2.1 (by decide +kernel) c0.1
  have v1 : vwR H3 = vwR H0 := p1.2.1.trans v0
  have ah1 : absR H3 = (pfail (vwR H0) 1 (absR H1)) := p1.1.trans c0.2
  have rl := f16.2.2
  unfold nb_235 at rl
  rw [f15, show decide ((0 : Int) = 1) = false from rfl] at rl
  have xb : XRk H1 H2 := (XRk_fr f14.1.2.1 (by decide +kernel))
  refine ⟨KPc_tr kp (KPc_tr (KPc_x xb) rl.1), fun hp => ?_⟩
  rw [ah1] at hp
  exfalso
  have := pfailR_lt z (f := 1) (p := absR H1) (by decide)
  omega
def g_236y_187_4 : vG := ([(1235, [1, 6], [2, 3], 0), (0, [6], [], 0), (1217, [1, 5], [1, 2], 0), (0, [5], [], 1), (44, [4, 2], [], 0), (20, [4, 1], [1], 12), (23, [1], [1], 12), (90, [4], [], 0), (91, [4], [], 7), (30, [3], [], 0), (5000, [0, 1, 2, 3], [0, 1], 187), (0, [0], [], 285), (0, [1], [], 285), (90, [2], [], 0), (91, [2], [], 7), (90, [3], [], 0), (91, [3], [], 1)], (3000, [], [3], 209))
theorem c_236y_187_4 {q0 : Nat} : vOkm T0 (eN e_236w L_236y (eAB A_236 B_236) mu_236 y_236 By_236 (some q0)) 1 g_236y_187_4 := vOk_inI fun ρ η f0 f1 f2 f3 f4 f5 f6 f7 f8 f9 f10 f11 f12 f13 f14 f15 f16 => q_236y_23 (q0 := q0) (n0 := ρ 3) (n1 := ρ 2) (n2 := ρ 1) (n3 := ρ 0) (n4 := ρ 4) (n5 := ρ 5) (n6 := ρ 6) (H0 := η 0) (H1 := η 1) (H2 := η 2) (H3 := η 3) f16 f15 f14 f13 f12 f11 f10 f9 f8 f7 f6 f5 f4 f3 f2 f1 f0
def p_236y_187 : List vG := [g_236y_187_0,
  g_236y_187_1,
  g_236y_187_2,
  g_236y_187_3,
  g_236y_187_4]
theorem r_236y_187 : vCovBO (eRc e_236w L_236w cs_236 2000 (187, [(0, (3, 12, 285, 0)), (1, (0, 0, 7, 0)), (2, (0, 0, 1, 0))])) p_236y_187 = true := by decide +kernel
theorem o_236y : eOK e_236y L_236y cs_236 2000 (eAB (eAB A_236 B_236) By_236) mu_236 := eOK_ref (p1 := p_236y_s) o_236w (sub0 (sub0 (sub0 (sub1 (sub1 trivial))))) r_236y_s (allC c_236y_s_0 allN) (allC ⟨p_236y_12, r_236y_12, fun q0 => (allC c_236y_12_0 (allC c_236y_12_1 (allC c_236y_12_2 allN)))⟩ (allC ⟨p_236y_23, r_236y_23, fun q0 => (allC c_236y_23_0 (allC c_236y_23_1 (allC c_236y_23_2 (allC c_236y_23_3 allN))))⟩ (allC ⟨p_236y_96, r_236y_96, fun q0 => (allC c_236y_96_0 (allC c_236y_96_1 (allC c_236y_96_2 (allC c_236y_96_3 (allC c_236y_96_4 (allC c_236y_96_5 (allC c_236y_96_6 (allC c_236y_96_7 (allC c_236y_96_8 (allC c_236y_96_9 (allC c_236y_96_10 allN)))))))))))⟩ (allC ⟨p_236y_187, r_236y_187, fun q0 => (allC c_236y_187_0 (allC c_236y_187_1 (allC c_236y_187_2 (allC c_236y_187_3 (allC c_236y_187_4 allN)))))⟩ allN))))
theorem m_236y (d : Nat) : eC e_236y (d + 4) := eC_OK (d := d + 3) o_236y rfl ⟨m_216 (d + 2), ⟨m_217w (d + 2), ⟨m_219w (d + 1), ⟨m_235w (d + 1), ⟨m_237y d, trivial⟩⟩⟩⟩⟩ rfl (.inl rfl) (by decide +kernel)
