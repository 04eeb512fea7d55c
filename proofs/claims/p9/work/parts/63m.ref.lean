/- MixStageModel.expression ()V, more fully -/
def nb_236 (a0 : Int) (h0 h : gH) : Prop := RI h0 → RI h ∧ absR h = pExp (vwR h0) (absR h0)
def n_236 : List Int → gH → gH → Prop := fun xs h0 h => match xs with
  | [a0] => nb_236 a0 h0 h
  | _ => True
noncomputable def e_236w : vE := eV e_236 n_236
noncomputable def L_236w : List vE := [e_216, e_217w, e_219w, e_235, e_237w]
def Bb_236_12 (a0 x0 x1 x2 : Int) (h0 h : gH) : Prop := RI h0 → RI h ∧ (hV h 285 13 = 0 → 0 ≤ hV h 285 12 ∧ hV h 285 12 ≤ 6) ∧ pE (vwR h0) (502 - (absR h).1).toNat 1 (hV h 285 12) (absR h) = pExp (vwR h0) (absR h0)
def Bb_236_23 (a0 x0 x1 x2 : Int) (h0 h : gH) : Prop := RI h0 → RI h ∧ (hV h 285 13 = 0 → 0 ≤ hV h 285 12 ∧ hV h 285 12 ≤ 6) ∧ pE (vwR h0) (502 - (absR h).1).toNat 1 (hV h 285 12) (absR h) = pExp (vwR h0) (absR h0)
def Bb_236_96 (a0 x0 x1 x2 : Int) (h0 h : gH) : Prop := RI h0 → RI h ∧ (hV h 285 13 = 0 → 0 ≤ hV h 285 12 ∧ hV h 285 12 ≤ 6) ∧ pE (vwR h0) (502 - (absR h).1).toNat 0 (hV h 285 12) (absR h) = pExp (vwR h0) (absR h0)
def Bb_236_187 (a0 x0 x1 x2 : Int) (h0 h : gH) : Prop := RI h0 → RI h ∧ (hV h 285 13 = 0 → 0 ≤ hV h 285 12 ∧ hV h 285 12 ≤ 6) ∧ pE (vwR h0) (502 - (absR h).1).toNat 0 (hV h 285 12) (absR h) = pExp (vwR h0) (absR h0) ∧ ¬ ((vwR h0).1 (absR h).1 = 11 ∧ 0 < hV h 285 12) ∧ (x2 = 1 → 6 ≤ (vwR h0).1 (absR h).1 ∧ (vwR h0).1 (absR h).1 ≤ 9) ∧ (x2 = 0 → ¬ (6 ≤ (vwR h0).1 (absR h).1 ∧ (vwR h0).1 (absR h).1 ≤ 9))
def B_236 : Int → List Int → gH → gH → Prop := fun c xs h0 h => match c.toNat with
  | 12 => (match xs with
    | [a0, x0, x1, x2] => Bb_236_12 a0 x0 x1 x2 h0 h
    | _ => False)
  | 23 => (match xs with
    | [a0, x0, x1, x2] => Bb_236_23 a0 x0 x1 x2 h0 h
    | _ => False)
  | 96 => (match xs with
    | [a0, x0, x1, x2] => Bb_236_96 a0 x0 x1 x2 h0 h
    | _ => False)
  | 187 => (match xs with
    | [a0, x0, x1, x2] => Bb_236_187 a0 x0 x1 x2 h0 h
    | _ => False)
  | _ => True
theorem q_236w_0 {n0 n1 n2 n3 n4 : Int} {H0 H1 : gH} (f0 : n0 = 285) (f1 : hWt T0 H0 ∧ preb_236 n0 H0) (f2 : n2 = 55) (f3 : hUpd H1 H0 n0 n2 n1) (f4 : n3 = hV H1 (n0).toNat 12) : Bb_236_12 n0 n0 n3 n4 H0 H1 := by
  unfold Bb_236_12
  intro z
  have d9 := rdS (q := 285) f4 f0
  have pr := f1.2
  unfold preb_236 at pr
  have g12 := f1.1 285 12 _ _ rW_12
  have p0 := PR_slot (s := 55) f3 f0 f2 (by decide) z
  have v0 : vwR H1 = vwR H0 := p0.2.1
  have ah0 : absR H1 = (absR H0) := p0.1
  have h12 : hV H1 285 12 = hV H0 285 12 := uSlot f3 285 12 (by rw [f2]; decide)
  have h13 : hV H1 285 13 = hV H0 285 13 := uSlot f3 285 13 (by rw [f2]; decide)
  rw [h12, h13, ah0]
  refine ⟨p0.2.2.1, fun c => by omega, ?_⟩
  by_cases c : hV H0 285 13 = 0
  · rw [show hV H0 285 12 = 0 by omega]
    rfl
  · have hn := absR_neg z c
    unfold pExp
    rw [pE_neg (vwR_ok H0) hn (absR_ok z), pE_neg (vwR_ok H0) hn (absR_ok z)]
def g_236w_s_0 : vG := ([(20, [3, 0], [1], 12), (80, [0, 2, 1], [1, 0], 0), (0, [2], [], 55), (6000, [0], [0], 0), (0, [0], [], 285)], (4000, [0, 3, 4], [1], 12))
theorem c_236w_s_0 : vOkm T0 (eN e_236 L_236w A_236 mu_236 n_236 B_236 none) 1 g_236w_s_0 := vOk_inI fun ρ η f0 f1 f2 f3 f4 => q_236w_0 (n0 := ρ 0) (n1 := ρ 1) (n2 := ρ 2) (n3 := ρ 3) (n4 := ρ 4) (H0 := η 0) (H1 := η 1) f4 f3 f2 f1 f0
def p_236w_s : List vG := [g_236w_s_0]
theorem r_236w_s : vCovBO (eR0 e_236 L_236 cs_236 2000) p_236w_s = true := by decide +kernel
theorem q_236w_1 {q0 : Nat} {n0 n1 n2 n3 : Int} {H0 H1 : gH} (f0 : n0 ≤ 1) (f1 : 0 ≤ n0) (f2 : n1 ≤ 7) (f3 : 0 ≤ n1) (f4 : (hLe T0 H0 H1 ∧ hFr s_236.2.2.2.2 H0 H1 ∧ hWt T0 H1) ∧ ((Ab_236_12 n3 n2 n1 n0 H0 H1 ∧ Bb_236_12 n3 n2 n1 n0 H0 H1) ∧ preb_236 n3 H0) ∧ some q0 = some (mub_236_12 n3 n2 n1 n0 H0 H1)) (f5 : n0 = 0) : nb_236 n3 H0 H1 := by
  unfold nb_236
  intro z
  have ga := f4.2.1.1.2
  unfold Bb_236_12 at ga
  obtain ⟨z1, op, ye⟩ := ga z
  have vz : vwR H1 = vwR H0 := vwR_fr f4.1.2.1 (by decide +kernel)
  have q7 := f5
  have pr := f4.2.1.2
  unfold preb_236 at pr
  have ab := f4.2.1.1.1
  unfold Ab_236_12 at ab
  have hx1 : n1 = hV H0 285 12 := ab.2.2.2.1
  have hft : hV H0 285 13 ≤ hV H1 285 13 := ab.2.2.2.2.2.2.2.2.2.1
  have lo0 := z.2.2.2.1
  have rg0 := f0
  have rg1 := f1
  have rg2 := f2
  have rg3 := f3
  have g12 := f4.1.2.2 285 12 _ _ rW_12
  have f0 : hV H1 285 13 = 0 → n1 = 0 := fun c => by omega
  exfalso
  have := ab.2.2.2.2.2.2.2.2.2.2
  omega
def g_236w_12_0 : vG := ([(30, [3], [], 0), (5000, [0, 1, 2, 3], [0, 1], 12), (90, [2], [], 0), (91, [2], [], 7), (90, [3], [], 0), (91, [3], [], 1)], (3000, [], [1], 272))
theorem c_236w_12_0 {q0 : Nat} : vOkm T0 (eN e_236 L_236w A_236 mu_236 n_236 B_236 (some q0)) 1 g_236w_12_0 := vOk_inI fun ρ η f0 f1 f2 f3 f4 f5 => q_236w_1 (q0 := q0) (n0 := ρ 3) (n1 := ρ 2) (n2 := ρ 1) (n3 := ρ 0) (H0 := η 0) (H1 := η 1) f5 f4 f3 f2 f1 f0
theorem q_236w_2 {q0 : Nat} {n0 n1 n2 n3 n4 : Int} {H0 H1 : gH} (f0 : n0 ≤ 1) (f1 : 0 ≤ n0) (f2 : n1 ≤ 7) (f3 : 0 ≤ n1) (f4 : n2 = 285) (f5 : (hLe T0 H0 H1 ∧ hFr s_236.2.2.2.2 H0 H1 ∧ hWt T0 H1) ∧ ((Ab_236_12 n3 n2 n1 n0 H0 H1 ∧ Bb_236_12 n3 n2 n1 n0 H0 H1) ∧ preb_236 n3 H0) ∧ some q0 = some (mub_236_12 n3 n2 n1 n0 H0 H1)) (f6 : n0 ≠ 0) (f7 : n4 = hV H1 (n2).toNat 13) (f8 : n4 ≠ 0) : nb_236 n3 H0 H1 := by
  unfold nb_236
  intro z
  have ga := f5.2.1.1.2
  unfold Bb_236_12 at ga
  obtain ⟨z1, op, ye⟩ := ga z
  have vz : vwR H1 = vwR H0 := vwR_fr f5.1.2.1 (by decide +kernel)
  have d11 := rdS (q := 285) f7 f4
  have q7 := f6
  have q12 := f8
  have pr := f5.2.1.2
  unfold preb_236 at pr
  have ab := f5.2.1.1.1
  unfold Ab_236_12 at ab
  have hx1 : n1 = hV H0 285 12 := ab.2.2.2.1
  have hft : hV H0 285 13 ≤ hV H1 285 13 := ab.2.2.2.2.2.2.2.2.2.1
  have lo0 := z.2.2.2.1
  have rg0 := f0
  have rg1 := f1
  have rg2 := f2
  have rg3 := f3
  have g12 := f5.1.2.2 285 12 _ _ rW_12
  have f0 : hV H1 285 13 = 0 → n1 = 0 := fun c => by omega
  have hn := absR_neg z1 (by omega)
  rw [pE_neg (vwR_ok H0) hn (absR_ok z1)] at ye
  exact ⟨z1, ye⟩
def g_236w_12_1 : vG := ([(31, [4], [], 0), (20, [4, 1], [1], 13), (31, [3], [], 0), (5000, [0, 1, 2, 3], [0, 1], 12), (0, [1], [], 285), (90, [2], [], 0), (91, [2], [], 7), (90, [3], [], 0), (91, [3], [], 1)], (3000, [], [1], 272))
theorem c_236w_12_1 {q0 : Nat} : vOkm T0 (eN e_236 L_236w A_236 mu_236 n_236 B_236 (some q0)) 1 g_236w_12_1 := vOk_inI fun ρ η f0 f1 f2 f3 f4 f5 f6 f7 f8 => q_236w_2 (q0 := q0) (n0 := ρ 3) (n1 := ρ 2) (n2 := ρ 1) (n3 := ρ 0) (n4 := ρ 4) (H0 := η 0) (H1 := η 1) f8 f7 f6 f5 f4 f3 f2 f1 f0
theorem q_236w_3 {q0 : Nat} {n0 n1 n2 n3 n4 : Int} {H0 H1 : gH} (f0 : n0 ≤ 1) (f1 : 0 ≤ n0) (f2 : n1 ≤ 7) (f3 : 0 ≤ n1) (f4 : n2 = 285) (f5 : (hLe T0 H0 H1 ∧ hFr s_236.2.2.2.2 H0 H1 ∧ hWt T0 H1) ∧ ((Ab_236_12 n3 n2 n1 n0 H0 H1 ∧ Bb_236_12 n3 n2 n1 n0 H0 H1) ∧ preb_236 n3 H0) ∧ some q0 = some (mub_236_12 n3 n2 n1 n0 H0 H1)) (f6 : n0 ≠ 0) (f7 : n4 = hV H1 (n2).toNat 13) (f8 : n4 = 0) : Bb_236_23 n3 n2 n1 n0 H0 H1 := by
  unfold Bb_236_23
  intro z
  have ga := f5.2.1.1.2
  unfold Bb_236_12 at ga
  obtain ⟨z1, op, ye⟩ := ga z
  have vz : vwR H1 = vwR H0 := vwR_fr f5.1.2.1 (by decide +kernel)
  have d11 := rdS (q := 285) f7 f4
  have q7 := f6
  have q12 := f8
  have pr := f5.2.1.2
  unfold preb_236 at pr
  have ab := f5.2.1.1.1
  unfold Ab_236_12 at ab
  have hx1 : n1 = hV H0 285 12 := ab.2.2.2.1
  have hft : hV H0 285 13 ≤ hV H1 285 13 := ab.2.2.2.2.2.2.2.2.2.1
  have lo0 := z.2.2.2.1
  have rg0 := f0
  have rg1 := f1
  have rg2 := f2
  have rg3 := f3
  have g12 := f5.1.2.2 285 12 _ _ rW_12
  have f0 : hV H1 285 13 = 0 → n1 = 0 := fun c => by omega
  exact ⟨z1, op, ye⟩
def g_236w_12_2 : vG := ([(30, [4], [], 0), (20, [4, 1], [1], 13), (31, [3], [], 0), (5000, [0, 1, 2, 3], [0, 1], 12), (0, [1], [], 285), (90, [2], [], 0), (91, [2], [], 7), (90, [3], [], 0), (91, [3], [], 1)], (4000, [1, 2, 3], [1], 23))
theorem c_236w_12_2 {q0 : Nat} : vOkm T0 (eN e_236 L_236w A_236 mu_236 n_236 B_236 (some q0)) 1 g_236w_12_2 := vOk_inI fun ρ η f0 f1 f2 f3 f4 f5 f6 f7 f8 => q_236w_3 (q0 := q0) (n0 := ρ 3) (n1 := ρ 2) (n2 := ρ 1) (n3 := ρ 0) (n4 := ρ 4) (H0 := η 0) (H1 := η 1) f8 f7 f6 f5 f4 f3 f2 f1 f0
def p_236w_12 : List vG := [g_236w_12_0,
  g_236w_12_1,
  g_236w_12_2]
theorem r_236w_12 : vCovBO (eRc e_236 L_236 cs_236 2000 (12, [(0, (3, 12, 285, 0)), (1, (0, 0, 7, 0)), (2, (0, 0, 1, 0))])) p_236w_12 = true := by decide +kernel
theorem q_236w_4 {q0 : Nat} {n0 n1 n2 n3 n4 n5 n6 : Int} {H0 H1 H2 H3 : gH} (f0 : n0 ≤ 2147483647) (f1 : (-2147483648) ≤ n0) (f2 : n1 ≤ 7) (f3 : 0 ≤ n1) (f4 : n2 = 285) (f5 : (hLe T0 H0 H1 ∧ hFr s_236.2.2.2.2 H0 H1 ∧ hWt T0 H1) ∧ ((Ab_236_23 n3 n2 n1 n0 H0 H1 ∧ Bb_236_23 n3 n2 n1 n0 H0 H1) ∧ preb_236 n3 H0) ∧ some q0 = some (mub_236_23 n3 n2 n1 n0 H0 H1)) (f6 : n4 = 6) (f7 : (hLe T0 H1 H2 ∧ hFr s_216.2.2.2.2 H1 H2 ∧ ((0 : Int) = 0 → H2.length = H1.length) ∧ hWt T0 H2) ∧ postb_216 n5 n2 n4 H1 H2) (f8 : n5 = 0) (f9 : (hLe T0 H2 H3 ∧ hFr s_237.2.2.2.2 H2 H3 ∧ ((0 : Int) = 0 → H3.length = H2.length) ∧ hWt T0 H3) ∧ (postb_237 n2 H2 H3 ∧ nb_237 n2 H2 H3)) (f10 : n6 ≤ 2) (f11 : n6 = hV H3 (n2).toNat 13) (f12 : n6 ≤ 0) : Bb_236_96 n3 n2 n1 n0 H0 H3 := by
  unfold Bb_236_96
  intro z
  have ga := f5.2.1.1.2
  unfold Bb_236_23 at ga
  obtain ⟨z1, op, ye⟩ := ga z
  have vz : vwR H1 = vwR H0 := vwR_fr f5.1.2.1 (by decide +kernel)
  have d16 := rdS (q := 285) f11 f4
  have q11 := f8
  have q17 := f12
  have pr := f5.2.1.2
  unfold preb_236 at pr
  have ab := f5.2.1.1.1
  unfold Ab_236_23 at ab
  have hx1 : n1 = hV H0 285 12 := ab.2.2.2.1
  have hft : hV H0 285 13 ≤ hV H1 285 13 := ab.2.2.2.2.2.2.2.2.2
  have lo0 := z.2.2.2.1
  have rg0 := f0
  have rg1 := f1
  have rg2 := f2
  have rg3 := f3
  have g12 := f5.1.2.2 285 12 _ _ rW_12
  have f0 : hV H1 285 13 = 0 → n1 = 0 := fun c => by omega
  have p0 := PR_fr f7.1.2.1 (by decide +kernel) z1
  have v0 : vwR H2 = vwR H0 := p0.2.1.trans vz
  have ah0 : absR H2 = (absR H1) := p0.1
  have i0 := f7.2
  unfold postb_216 at i0
  rw [f6] at i0
  have cm0 := f8
  have b0 := (isR_or (k := 6) p0.2.2.1 (by decide) i0).resolve_left (fun w => absurd (w.1.symm.trans cm0) (by decide))
  replace b0 := b0.2
  rw [v0, ah0, kmc_6] at b0
  have c1 := f9.2.2 p0.2.2.1
  rw [v0, ah0] at c1
  have v1 : vwR H3 = vwR H0 := (vwR_fr f9.1.2.1 (by decide +kernel)).trans v0
  have lo1 := z1.2.2.2.1
  have h12 : hV H3 285 12 = hV H1 285 12 := (f9.1.2.1.1 285 12 (by decide +kernel)).trans (f7.1.2.1.1 285 12 (by decide +kernel))
  have f10 : hV H3 285 13 = 0 := by have := c1.1.2.2.2.1; omega
  have hp := (absR_pos c1.1 f10).2
  have f1 : hV H1 285 13 = 0 := Classical.byContradiction fun c => by
    have h1 := absR_neg z1 c
    rw [c1.2] at hp
    unfold pUn at hp
    rw [vwR_ok H0 _ h1, if_neg (by decide), pfail_neg h1 (absR_ok z1)] at hp
    omega
  have r5 := absR_500 z1 f1
  refine ⟨c1.1, fun _ => by rw [h12]; exact op f1, ?_⟩
  rw [h12, c1.2, ← pE_unit z (absR_ok z1) r5.1 r5.2 b0]
  exact ye
def g_236w_23_0 : vG := ([(35, [6], [], 0), (20, [6, 1], [3], 13), (91, [6], [], 2), (1237, [1], [2, 3], 0), (30, [5], [], 0), (1216, [5, 1, 4], [1, 2], 0), (0, [4], [], 6), (5000, [0, 1, 2, 3], [0, 1], 23), (0, [1], [], 285), (90, [2], [], 0), (91, [2], [], 7), (90, [3], [], -2147483648), (91, [3], [], 2147483647)], (4000, [1, 2, 3], [3], 96))
theorem c_236w_23_0 {q0 : Nat} : vOkm T0 (eN e_236 L_236w A_236 mu_236 n_236 B_236 (some q0)) 1 g_236w_23_0 := vOk_inI fun ρ η f0 f1 f2 f3 f4 f5 f6 f7 f8 f9 f10 f11 f12 => q_236w_4 (q0 := q0) (n0 := ρ 3) (n1 := ρ 2) (n2 := ρ 1) (n3 := ρ 0) (n4 := ρ 4) (n5 := ρ 5) (n6 := ρ 6) (H0 := η 0) (H1 := η 1) (H2 := η 2) (H3 := η 3) f12 f11 f10 f9 f8 f7 f6 f5 f4 f3 f2 f1 f0
theorem q_236w_5 {q0 : Nat} {n0 n1 n2 n3 n4 n5 n6 : Int} {H0 H1 H2 H3 : gH} (f0 : n0 ≤ 2147483647) (f1 : (-2147483648) ≤ n0) (f2 : n1 ≤ 7) (f3 : 0 ≤ n1) (f4 : n2 = 285) (f5 : (hLe T0 H0 H1 ∧ hFr s_236.2.2.2.2 H0 H1 ∧ hWt T0 H1) ∧ ((Ab_236_23 n3 n2 n1 n0 H0 H1 ∧ Bb_236_23 n3 n2 n1 n0 H0 H1) ∧ preb_236 n3 H0) ∧ some q0 = some (mub_236_23 n3 n2 n1 n0 H0 H1)) (f6 : n4 = 6) (f7 : (hLe T0 H1 H2 ∧ hFr s_216.2.2.2.2 H1 H2 ∧ ((0 : Int) = 0 → H2.length = H1.length) ∧ hWt T0 H2) ∧ postb_216 n5 n2 n4 H1 H2) (f8 : n5 = 0) (f9 : (hLe T0 H2 H3 ∧ hFr s_237.2.2.2.2 H2 H3 ∧ ((0 : Int) = 0 → H3.length = H2.length) ∧ hWt T0 H3) ∧ (postb_237 n2 H2 H3 ∧ nb_237 n2 H2 H3)) (f10 : n6 = hV H3 (n2).toNat 13) (f11 : 0 < n6) : nb_236 n3 H0 H3 := by
  unfold nb_236
  intro z
  have ga := f5.2.1.1.2
  unfold Bb_236_23 at ga
  obtain ⟨z1, op, ye⟩ := ga z
  have vz : vwR H1 = vwR H0 := vwR_fr f5.1.2.1 (by decide +kernel)
  have d16 := rdS (q := 285) f10 f4
  have q11 := f8
  have q17 := f11
  have pr := f5.2.1.2
  unfold preb_236 at pr
  have ab := f5.2.1.1.1
  unfold Ab_236_23 at ab
  have hx1 : n1 = hV H0 285 12 := ab.2.2.2.1
  have hft : hV H0 285 13 ≤ hV H1 285 13 := ab.2.2.2.2.2.2.2.2.2
  have lo0 := z.2.2.2.1
  have rg0 := f0
  have rg1 := f1
  have rg2 := f2
  have rg3 := f3
  have g12 := f5.1.2.2 285 12 _ _ rW_12
  have f0 : hV H1 285 13 = 0 → n1 = 0 := fun c => by omega
  have p0 := PR_fr f7.1.2.1 (by decide +kernel) z1
  have v0 : vwR H2 = vwR H0 := p0.2.1.trans vz
  have ah0 : absR H2 = (absR H1) := p0.1
  have i0 := f7.2
  unfold postb_216 at i0
  rw [f6] at i0
  have cm0 := f8
  have b0 := (isR_or (k := 6) p0.2.2.1 (by decide) i0).resolve_left (fun w => absurd (w.1.symm.trans cm0) (by decide))
  replace b0 := b0.2
  rw [v0, ah0, kmc_6] at b0
  have c1 := f9.2.2 p0.2.2.1
  rw [v0, ah0] at c1
  have v1 : vwR H3 = vwR H0 := (vwR_fr f9.1.2.1 (by decide +kernel)).trans v0
  have lo1 := z1.2.2.2.1
  have hn := absR_neg c1.1 (by omega)
  rw [c1.2] at hn
  refine ⟨c1.1, ?_⟩
  rw [c1.2]
  by_cases f1 : hV H1 285 13 = 0
  · have r5 := absR_500 z1 f1
    rw [pE_unit z (absR_ok z1) r5.1 r5.2 b0, pE_neg (vwR_ok H0) hn (pUn_ok (absR_ok z1))] at ye
    exact ye
  · have h1 := absR_neg z1 f1
    rw [pE_neg (vwR_ok H0) h1 (absR_ok z1)] at ye
    rw [← ye]
    unfold pUn
    rw [vwR_ok H0 _ h1, if_neg (by decide), pfail_neg h1 (absR_ok z1)]
def g_236w_23_1 : vG := ([(34, [6], [], 0), (20, [6, 1], [3], 13), (1237, [1], [2, 3], 0), (30, [5], [], 0), (1216, [5, 1, 4], [1, 2], 0), (0, [4], [], 6), (5000, [0, 1, 2, 3], [0, 1], 23), (0, [1], [], 285), (90, [2], [], 0), (91, [2], [], 7), (90, [3], [], -2147483648), (91, [3], [], 2147483647)], (3000, [], [3], 95))
theorem c_236w_23_1 {q0 : Nat} : vOkm T0 (eN e_236 L_236w A_236 mu_236 n_236 B_236 (some q0)) 1 g_236w_23_1 := vOk_inI fun ρ η f0 f1 f2 f3 f4 f5 f6 f7 f8 f9 f10 f11 => q_236w_5 (q0 := q0) (n0 := ρ 3) (n1 := ρ 2) (n2 := ρ 1) (n3 := ρ 0) (n4 := ρ 4) (n5 := ρ 5) (n6 := ρ 6) (H0 := η 0) (H1 := η 1) (H2 := η 2) (H3 := η 3) f11 f10 f9 f8 f7 f6 f5 f4 f3 f2 f1 f0
theorem q_236w_6 {q0 : Nat} {n0 n1 n2 n3 n4 n5 n6 n7 n8 n9 n10 n11 n12 n13 n14 n15 n17 n18 : Int} {H0 H1 H2 H3 H4 H5 H6 : gH} (f0 : n0 ≤ 2147483647) (f1 : (-2147483648) ≤ n0) (f2 : n1 ≤ 7) (f3 : 0 ≤ n1) (f4 : n2 = 285) (f5 : (hLe T0 H0 H1 ∧ hFr s_236.2.2.2.2 H0 H1 ∧ hWt T0 H1) ∧ ((Ab_236_23 n3 n2 n1 n0 H0 H1 ∧ Bb_236_23 n3 n2 n1 n0 H0 H1) ∧ preb_236 n3 H0) ∧ some q0 = some (mub_236_23 n3 n2 n1 n0 H0 H1)) (f6 : n4 = 6) (f7 : (hLe T0 H1 H2 ∧ hFr s_216.2.2.2.2 H1 H2 ∧ ((0 : Int) = 0 → H2.length = H1.length) ∧ hWt T0 H2) ∧ postb_216 n5 n2 n4 H1 H2) (f8 : n5 ≠ 0) (f9 : n6 ≤ 7) (f10 : 0 ≤ n6) (f11 : n6 = hV H2 (n2).toNat 12) (f12 : n7 = 6) (f13 : n6 ≠ n7) (f14 : n8 ≤ 7) (f15 : 0 ≤ n8) (f16 : n8 = hV H2 (n2).toNat 12) (f17 : n9 = 1) (f18 : n10 = w32 (n8 + n9)) (f19 : n11 = 12) (f20 : hUpd H3 H2 n2 n11 n10) (f21 : (hLe T0 H3 H4 ∧ hFr s_219.2.2.2.2 H3 H4 ∧ ((0 : Int) = 0 → H4.length = H3.length) ∧ hWt T0 H4) ∧ (postb_219 n2 H3 H4 ∧ nb_219 n2 H3 H4)) (f22 : n12 = 322) (f23 : n13 ≤ 64) (f24 : 0 ≤ n13) (f25 : n13 = hV H4 (n2).toNat 55) (f26 : hUpd H5 H4 n12 n13 n14) (f27 : n15 ≤ 64) (f28 : 0 ≤ n15) (f29 : n15 = hV H5 (n2).toNat 55) (f30 : n18 = 55) (f31 : hUpd H6 H5 n2 n18 n17) : Bb_236_23 n3 n2 n1 n0 H0 H6 := by
  unfold Bb_236_23
  intro z
  have ga := f5.2.1.1.2
  unfold Bb_236_23 at ga
  obtain ⟨z1, op, ye⟩ := ga z
  have vz : vwR H1 = vwR H0 := vwR_fr f5.1.2.1 (by decide +kernel)
  have d15 := rdS (q := 285) f11 f4
  have d21 := rdS (q := 285) f16 f4
  have d34 := rdS (q := 285) f25 f4
  have d41 := rdS (q := 285) f29 f4
  have q11 := f8
  have q17 := f13
  have qc16 := f12
  have pr := f5.2.1.2
  unfold preb_236 at pr
  have ab := f5.2.1.1.1
  unfold Ab_236_23 at ab
  have hx1 : n1 = hV H0 285 12 := ab.2.2.2.1
  have hft : hV H0 285 13 ≤ hV H1 285 13 := ab.2.2.2.2.2.2.2.2.2
  have lo0 := z.2.2.2.1
  have rg0 := f0
  have rg1 := f1
  have rg2 := f2
  have rg3 := f3
  have g12 := f5.1.2.2 285 12 _ _ rW_12
  have f0 : hV H1 285 13 = 0 → n1 = 0 := fun c => by omega
  have rg12 := f9
  have rg13 := f10
  have rg18 := f14
  have rg19 := f15
  have rg31 := f23
  have rg32 := f24
  have rg38 := f27
  have rg39 := f28
  have p0 := PR_fr f7.1.2.1 (by decide +kernel) z1
  have v0 : vwR H2 = vwR H0 := p0.2.1.trans vz
  have ah0 : absR H2 = (absR H1) := p0.1
  have i0 := f7.2
  unfold postb_216 at i0
  rw [f6] at i0
  have cm0 := f8
  have b0 := (isR_or (k := 6) p0.2.2.1 (by decide) i0).resolve_right (fun w => cm0 w.1)
  replace b0 := b0.2
  rw [v0, ah0, kmc_6] at b0
  have p1 := PR_slot (s := 12) f20 f4 f19 (by decide) p0.2.2.1
  have v1 : vwR H3 = vwR H0 := p1.2.1.trans v0
  have ah1 : absR H3 = (absR H1) := p1.1.trans ah0
  have c2 := f21.2.2 p1.2.2.1 (by rw [v1, ah1]; rw [b0]; decide)
  rw [v1, ah1, b0] at c2
  have v2 : vwR H4 = vwR H0 := (vwR_fr f21.1.2.1 (by decide +kernel)).trans v1
  have p3 := PR_row (q := 322) f26 f22 (by decide) c2.1
  have v3 : vwR H5 = vwR H0 := p3.2.1.trans v2
  have ah3 : absR H5 = (ptk (vwR H0) 10 (absR H1)) := p3.1.trans c2.2
  have p4 := PR_slot (s := 55) f31 f4 f30 (by decide) p3.2.2.1
  have v4 : vwR H6 = vwR H0 := p4.2.1.trans v3
  have ah4 : absR H6 = (ptk (vwR H0) 10 (absR H1)) := p4.1.trans ah3
  have fz := faultR_no z1 (kdR_pos b0 (by decide))
  have r5 := absR_500 z1 fz
  have op1 := op fz
  have e12_0 : n6 = hV H1 285 12 := by rw [d15, show hV H2 285 12 = hV H1 285 12 from f7.1.2.1.1 285 12 (by decide +kernel)]
  have e12_1 : n8 = hV H1 285 12 := by rw [d21, show hV H2 285 12 = hV H1 285 12 from f7.1.2.1.1 285 12 (by decide +kernel)]
  have s23 : n10 = n8 + 1 := by
    have q := f18
    rw [f17] at q
    rw [q]
    exact w32_id (by omega) (by omega)
  have h12 : hV H6 285 12 = n10 := (uSlot f31 285 12 (by rw [f30]; decide)).trans ((uPlace f26 285 12 (by rw [f22]; decide)).trans ((f21.1.2.1.1 285 12 (by decide +kernel)).trans (uSame f20 285 12 (by rw [f4]; rfl) (by rw [f19]; rfl))))
  rw [pE_go1 r5.1 r5.2 b0, if_pos rfl, if_neg (by omega), pE_st z (absR_ok z1) r5.1] at ye
  refine ⟨p4.2.2.1, fun _ => by omega, ?_⟩
  rw [ah4, show hV H6 285 12 = hV H1 285 12 + 1 by omega]
  exact ye
def g_236w_23_2 : vG := ([(80, [1, 18, 17], [6, 5], 0), (0, [18], [], 55), (20, [15, 1], [5], 55), (90, [15], [], 0), (91, [15], [], 64), (80, [12, 13, 14], [5, 4], 0), (20, [13, 1], [4], 55), (90, [13], [], 0), (91, [13], [], 64), (0, [12], [], 322), (1219, [1], [3, 4], 0), (80, [1, 11, 10], [3, 2], 0), (0, [11], [], 12), (1, [10, 8, 9], [], 0), (0, [9], [], 1), (20, [8, 1], [2], 12), (90, [8], [], 0), (91, [8], [], 7), (41, [6, 7], [], 0), (0, [7], [], 6), (20, [6, 1], [2], 12), (90, [6], [], 0), (91, [6], [], 7), (31, [5], [], 0), (1216, [5, 1, 4], [1, 2], 0), (0, [4], [], 6), (5000, [0, 1, 2, 3], [0, 1], 23), (0, [1], [], 285), (90, [2], [], 0), (91, [2], [], 7), (90, [3], [], -2147483648), (91, [3], [], 2147483647)], (4000, [1, 2, 3], [6], 23))
theorem c_236w_23_2 {q0 : Nat} : vOkm T0 (eN e_236 L_236w A_236 mu_236 n_236 B_236 (some q0)) 1 g_236w_23_2 := vOk_inI fun ρ η f0 f1 f2 f3 f4 f5 f6 f7 f8 f9 f10 f11 f12 f13 f14 f15 f16 f17 f18 f19 f20 f21 f22 f23 f24 f25 f26 f27 f28 f29 f30 f31 => q_236w_6 (q0 := q0) (n0 := ρ 3) (n1 := ρ 2) (n2 := ρ 1) (n3 := ρ 0) (n4 := ρ 4) (n5 := ρ 5) (n6 := ρ 6) (n7 := ρ 7) (n8 := ρ 8) (n9 := ρ 9) (n10 := ρ 10) (n11 := ρ 11) (n12 := ρ 12) (n13 := ρ 13) (n14 := ρ 14) (n15 := ρ 15) (n17 := ρ 17) (n18 := ρ 18) (H0 := η 0) (H1 := η 1) (H2 := η 2) (H3 := η 3) (H4 := η 4) (H5 := η 5) (H6 := η 6) f31 f30 f29 f28 f27 f26 f25 f24 f23 f22 f21 f20 f19 f18 f17 f16 f15 f14 f13 f12 f11 f10 f9 f8 f7 f6 f5 f4 f3 f2 f1 f0
theorem q_236w_7 {q0 : Nat} {n0 n1 n2 n3 n4 n5 n6 n7 n8 n9 n11 n12 n13 n14 n15 n16 n18 n19 : Int} {H0 H1 H2 H3 H4 H5 H6 H7 : gH} (f0 : n0 ≤ 2147483647) (f1 : (-2147483648) ≤ n0) (f2 : n1 ≤ 7) (f3 : 0 ≤ n1) (f4 : n2 = 285) (f5 : (hLe T0 H0 H1 ∧ hFr s_236.2.2.2.2 H0 H1 ∧ hWt T0 H1) ∧ ((Ab_236_23 n3 n2 n1 n0 H0 H1 ∧ Bb_236_23 n3 n2 n1 n0 H0 H1) ∧ preb_236 n3 H0) ∧ some q0 = some (mub_236_23 n3 n2 n1 n0 H0 H1)) (f6 : n4 = 6) (f7 : (hLe T0 H1 H2 ∧ hFr s_216.2.2.2.2 H1 H2 ∧ ((0 : Int) = 0 → H2.length = H1.length) ∧ hWt T0 H2) ∧ postb_216 n5 n2 n4 H1 H2) (f8 : n5 ≠ 0) (f9 : n6 ≤ 7) (f10 : 0 ≤ n6) (f11 : n6 = hV H2 (n2).toNat 12) (f12 : n7 = 6) (f13 : n6 = n7) (f14 : n8 = 2) (f15 : (hLe T0 H2 H3 ∧ hFr s_217.2.2.2.2 H2 H3 ∧ ((0 : Int) = 0 → H3.length = H2.length) ∧ hWt T0 H3) ∧ (postb_217 n2 n8 H2 H3 ∧ nb_217 n2 n8 H2 H3)) (f16 : n9 ≤ 7) (f17 : 0 ≤ n9) (f18 : n9 = hV H3 (n2).toNat 12) (f19 : n12 = 12) (f20 : hUpd H4 H3 n2 n12 n11) (f21 : (hLe T0 H4 H5 ∧ hFr s_219.2.2.2.2 H4 H5 ∧ ((0 : Int) = 0 → H5.length = H4.length) ∧ hWt T0 H5) ∧ (postb_219 n2 H4 H5 ∧ nb_219 n2 H4 H5)) (f22 : n13 = 322) (f23 : n14 ≤ 64) (f24 : 0 ≤ n14) (f25 : n14 = hV H5 (n2).toNat 55) (f26 : hUpd H6 H5 n13 n14 n15) (f27 : n16 ≤ 64) (f28 : 0 ≤ n16) (f29 : n16 = hV H6 (n2).toNat 55) (f30 : n19 = 55) (f31 : hUpd H7 H6 n2 n19 n18) : Bb_236_23 n3 n2 n1 n0 H0 H7 := by
  unfold Bb_236_23
  intro z
  have ga := f5.2.1.1.2
  unfold Bb_236_23 at ga
  obtain ⟨z1, op, ye⟩ := ga z
  have vz : vwR H1 = vwR H0 := vwR_fr f5.1.2.1 (by decide +kernel)
  have d15 := rdS (q := 285) f11 f4
  have d23 := rdS (q := 285) f18 f4
  have d36 := rdS (q := 285) f25 f4
  have d43 := rdS (q := 285) f29 f4
  have q11 := f8
  have q17 := f13
  have qc16 := f12
  have pr := f5.2.1.2
  unfold preb_236 at pr
  have ab := f5.2.1.1.1
  unfold Ab_236_23 at ab
  have hx1 : n1 = hV H0 285 12 := ab.2.2.2.1
  have hft : hV H0 285 13 ≤ hV H1 285 13 := ab.2.2.2.2.2.2.2.2.2
  have lo0 := z.2.2.2.1
  have rg0 := f0
  have rg1 := f1
  have rg2 := f2
  have rg3 := f3
  have g12 := f5.1.2.2 285 12 _ _ rW_12
  have f0 : hV H1 285 13 = 0 → n1 = 0 := fun c => by omega
  have rg12 := f9
  have rg13 := f10
  have rg20 := f16
  have rg21 := f17
  have rg33 := f23
  have rg34 := f24
  have rg40 := f27
  have rg41 := f28
  have p0 := PR_fr f7.1.2.1 (by decide +kernel) z1
  have v0 : vwR H2 = vwR H0 := p0.2.1.trans vz
  have ah0 : absR H2 = (absR H1) := p0.1
  have i0 := f7.2
  unfold postb_216 at i0
  rw [f6] at i0
  have cm0 := f8
  have b0 := (isR_or (k := 6) p0.2.2.1 (by decide) i0).resolve_right (fun w => cm0 w.1)
  replace b0 := b0.2
  rw [v0, ah0, kmc_6] at b0
  have c1 := f15.2.2 p0.2.2.1
  try rw [f14] at c1
  rw [v0, ah0] at c1
  have v1 : vwR H3 = vwR H0 := (vwR_fr f15.1.2.1 (by decide +kernel)).trans v0
  have p2 := PR_slot (s := 12) f20 f4 f19 (by decide) c1.1
  have v2 : vwR H4 = vwR H0 := p2.2.1.trans v1
  have ah2 : absR H4 = (pfail (vwR H0) 2 (absR H1)) := p2.1.trans c1.2
  have hn := pfailR_lt z (f := 2) (p := absR H1) (by decide)
  have cn := f21.2.2 p2.2.2.1 (by rw [v2, ah2, vwR_ok H0 _ hn]; decide)
  rw [v2, ah2, vwR_ok H0 _ hn, ptk_neg hn pfail_ok] at cn
  have vn : vwR H5 = vwR H0 := (vwR_fr f21.1.2.1 (by decide +kernel)).trans v2
  have e12_0 : n6 = hV H1 285 12 := by rw [d15, show hV H2 285 12 = hV H1 285 12 from f7.1.2.1.1 285 12 (by decide +kernel)]
  have p50 := PR_row (q := 322) f26 f22 (by decide) cn.1
  have v50 : vwR H6 = vwR H0 := p50.2.1.trans vn
  have ah50 : absR H6 = (pfail (vwR H0) 2 (absR H1)) := p50.1.trans cn.2
  have p51 := PR_slot (s := 55) f31 f4 f30 (by decide) p50.2.2.1
  have v51 : vwR H7 = vwR H0 := p51.2.1.trans v50
  have ah51 : absR H7 = (pfail (vwR H0) 2 (absR H1)) := p51.1.trans ah50
  have fz := faultR_no z1 (kdR_pos b0 (by decide))
  have r5 := absR_500 z1 fz
  rw [pE_go1 r5.1 r5.2 b0, if_pos rfl, if_pos (by omega)] at ye
  refine ⟨p51.2.2.1, fun c => absurd c (faultR_of p51.2.2.1 (by rw [ah51]; exact hn)), ?_⟩
  rw [ah51, pE_neg (vwR_ok H0) hn pfail_ok]
  exact ye
def g_236w_23_3 : vG := ([(80, [1, 19, 18], [7, 6], 0), (0, [19], [], 55), (20, [16, 1], [6], 55), (90, [16], [], 0), (91, [16], [], 64), (80, [13, 14, 15], [6, 5], 0), (20, [14, 1], [5], 55), (90, [14], [], 0), (91, [14], [], 64), (0, [13], [], 322), (1219, [1], [4, 5], 0), (80, [1, 12, 11], [4, 3], 0), (0, [12], [], 12), (20, [9, 1], [3], 12), (90, [9], [], 0), (91, [9], [], 7), (1217, [1, 8], [2, 3], 0), (0, [8], [], 2), (40, [6, 7], [], 0), (0, [7], [], 6), (20, [6, 1], [2], 12), (90, [6], [], 0), (91, [6], [], 7), (31, [5], [], 0), (1216, [5, 1, 4], [1, 2], 0), (0, [4], [], 6), (5000, [0, 1, 2, 3], [0, 1], 23), (0, [1], [], 285), (90, [2], [], 0), (91, [2], [], 7), (90, [3], [], -2147483648), (91, [3], [], 2147483647)], (4000, [1, 2, 3], [7], 23))
theorem c_236w_23_3 {q0 : Nat} : vOkm T0 (eN e_236 L_236w A_236 mu_236 n_236 B_236 (some q0)) 1 g_236w_23_3 := vOk_inI fun ρ η f0 f1 f2 f3 f4 f5 f6 f7 f8 f9 f10 f11 f12 f13 f14 f15 f16 f17 f18 f19 f20 f21 f22 f23 f24 f25 f26 f27 f28 f29 f30 f31 => q_236w_7 (q0 := q0) (n0 := ρ 3) (n1 := ρ 2) (n2 := ρ 1) (n3 := ρ 0) (n4 := ρ 4) (n5 := ρ 5) (n6 := ρ 6) (n7 := ρ 7) (n8 := ρ 8) (n9 := ρ 9) (n11 := ρ 11) (n12 := ρ 12) (n13 := ρ 13) (n14 := ρ 14) (n15 := ρ 15) (n16 := ρ 16) (n18 := ρ 18) (n19 := ρ 19) (H0 := η 0) (H1 := η 1) (H2 := η 2) (H3 := η 3) (H4 := η 4) (H5 := η 5) (H6 := η 6) (H7 := η 7) f31 f30 f29 f28 f27 f26 f25 f24 f23 f22 f21 f20 f19 f18 f17 f16 f15 f14 f13 f12 f11 f10 f9 f8 f7 f6 f5 f4 f3 f2 f1 f0
def p_236w_23 : List vG := [g_236w_23_0,
  g_236w_23_1,
  g_236w_23_2,
  g_236w_23_3]
theorem r_236w_23 : vCovBO (eRc e_236 L_236 cs_236 2000 (23, [(0, (3, 12, 285, 0)), (1, (0, 0, 7, 0)), (2, (0, -2147483648, 2147483647, 0))])) p_236w_23 = true := by decide +kernel
theorem q_236w_8 {q0 : Nat} {n0 n1 n2 n3 n4 n5 n6 n7 n8 : Int} {H0 H1 H2 H3 : gH} (f0 : n0 ≤ 2147483647) (f1 : (-2147483648) ≤ n0) (f2 : n1 ≤ 7) (f3 : 0 ≤ n1) (f4 : (hLe T0 H0 H1 ∧ hFr s_236.2.2.2.2 H0 H1 ∧ hWt T0 H1) ∧ ((Ab_236_96 n3 n2 n1 n0 H0 H1 ∧ Bb_236_96 n3 n2 n1 n0 H0 H1) ∧ preb_236 n3 H0) ∧ some q0 = some (mub_236_96 n3 n2 n1 n0 H0 H1)) (f5 : n4 = 7) (f6 : (hLe T0 H1 H2 ∧ hFr s_216.2.2.2.2 H1 H2 ∧ ((0 : Int) = 0 → H2.length = H1.length) ∧ hWt T0 H2) ∧ postb_216 n5 n2 n4 H1 H2) (f7 : n5 = 0) (f8 : n6 = 8) (f9 : (hLe T0 H2 H3 ∧ hFr s_216.2.2.2.2 H2 H3 ∧ ((0 : Int) = 0 → H3.length = H2.length) ∧ hWt T0 H3) ∧ postb_216 n7 n2 n6 H2 H3) (f10 : n7 ≠ 0) (f11 : n8 = 1) : Bb_236_187 n3 n2 n1 n8 H0 H3 := by
  unfold Bb_236_187
  intro z
  have ga := f4.2.1.1.2
  unfold Bb_236_96 at ga
  obtain ⟨z1, op, ye⟩ := ga z
  have vz : vwR H1 = vwR H0 := vwR_fr f4.1.2.1 (by decide +kernel)
  have q11 := f7
  have q16 := f10
  have pr := f4.2.1.2
  unfold preb_236 at pr
  have ab := f4.2.1.1.1
  unfold Ab_236_96 at ab
  have hx1 : n1 = hV H0 285 12 := ab.2.2.2.1
  have hft : hV H0 285 13 ≤ hV H1 285 13 := ab.2.2.2.2.2.2.2.2.2.2
  have lo0 := z.2.2.2.1
  have rg0 := f0
  have rg1 := f1
  have rg2 := f2
  have rg3 := f3
  have g12 := f4.1.2.2 285 12 _ _ rW_12
  have f0 : hV H1 285 13 = 0 → n1 = 0 := fun c => by omega
  have p0 := PR_fr f6.1.2.1 (by decide +kernel) z1
  have v0 : vwR H2 = vwR H0 := p0.2.1.trans vz
  have ah0 : absR H2 = (absR H1) := p0.1
  have i0 := f6.2
  unfold postb_216 at i0
  rw [f5] at i0
  have cm0 := f7
  have b0 := (isR_or (k := 7) p0.2.2.1 (by decide) i0).resolve_left (fun w => absurd (w.1.symm.trans cm0) (by decide))
  replace b0 := b0.2
  rw [v0, ah0, kmc_7] at b0
  have p1 := PR_fr f9.1.2.1 (by decide +kernel) p0.2.2.1
  have v1 : vwR H3 = vwR H0 := p1.2.1.trans v0
  have ah1 : absR H3 = (absR H1) := p1.1.trans ah0
  have i1 := f9.2
  unfold postb_216 at i1
  rw [f8] at i1
  have cm1 := f10
  have b1 := (isR_or (k := 8) p1.2.2.1 (by decide) i1).resolve_right (fun w => cm1 w.1)
  replace b1 := b1.2
  rw [v1, ah1, kmc_8] at b1
  have lo1 := z1.2.2.2.1
  have h12 : hV H3 285 12 = hV H1 285 12 := (f9.1.2.1.1 285 12 (by decide +kernel)).trans (f6.1.2.1.1 285 12 (by decide +kernel))
  have h13 : hV H3 285 13 = hV H1 285 13 := (f9.1.2.1.1 285 13 (by decide +kernel)).trans (f6.1.2.1.1 285 13 (by decide +kernel))
  have cx := f11
  rw [h12, h13, ah1]
  refine ⟨p1.2.2.1, op, ye, fun c => absurd c.1 b0, fun _ => by rw [b1]; decide, fun c => absurd (cx.symm.trans c) (by decide)⟩
def g_236w_96_0 : vG := ([(0, [8], [], 1), (31, [7], [], 0), (1216, [7, 1, 6], [2, 3], 0), (0, [6], [], 8), (30, [5], [], 0), (1216, [5, 1, 4], [1, 2], 0), (0, [4], [], 7), (5000, [0, 1, 2, 3], [0, 1], 96), (90, [2], [], 0), (91, [2], [], 7), (90, [3], [], -2147483648), (91, [3], [], 2147483647)], (4000, [1, 2, 8], [3], 187))
theorem c_236w_96_0 {q0 : Nat} : vOkm T0 (eN e_236 L_236w A_236 mu_236 n_236 B_236 (some q0)) 1 g_236w_96_0 := vOk_inI fun ρ η f0 f1 f2 f3 f4 f5 f6 f7 f8 f9 f10 f11 => q_236w_8 (q0 := q0) (n0 := ρ 3) (n1 := ρ 2) (n2 := ρ 1) (n3 := ρ 0) (n4 := ρ 4) (n5 := ρ 5) (n6 := ρ 6) (n7 := ρ 7) (n8 := ρ 8) (H0 := η 0) (H1 := η 1) (H2 := η 2) (H3 := η 3) f11 f10 f9 f8 f7 f6 f5 f4 f3 f2 f1 f0
theorem q_236w_9 {q0 : Nat} {n0 n1 n2 n3 n4 n5 n6 n7 n8 n9 n10 : Int} {H0 H1 H2 H3 H4 : gH} (f0 : n0 ≤ 2147483647) (f1 : (-2147483648) ≤ n0) (f2 : n1 ≤ 7) (f3 : 0 ≤ n1) (f4 : (hLe T0 H0 H1 ∧ hFr s_236.2.2.2.2 H0 H1 ∧ hWt T0 H1) ∧ ((Ab_236_96 n3 n2 n1 n0 H0 H1 ∧ Bb_236_96 n3 n2 n1 n0 H0 H1) ∧ preb_236 n3 H0) ∧ some q0 = some (mub_236_96 n3 n2 n1 n0 H0 H1)) (f5 : n4 = 7) (f6 : (hLe T0 H1 H2 ∧ hFr s_216.2.2.2.2 H1 H2 ∧ ((0 : Int) = 0 → H2.length = H1.length) ∧ hWt T0 H2) ∧ postb_216 n5 n2 n4 H1 H2) (f7 : n5 = 0) (f8 : n6 = 8) (f9 : (hLe T0 H2 H3 ∧ hFr s_216.2.2.2.2 H2 H3 ∧ ((0 : Int) = 0 → H3.length = H2.length) ∧ hWt T0 H3) ∧ postb_216 n7 n2 n6 H2 H3) (f10 : n7 = 0) (f11 : n8 = 9) (f12 : (hLe T0 H3 H4 ∧ hFr s_216.2.2.2.2 H3 H4 ∧ ((0 : Int) = 0 → H4.length = H3.length) ∧ hWt T0 H4) ∧ postb_216 n9 n2 n8 H3 H4) (f13 : n9 ≠ 0) (f14 : n10 = 1) : Bb_236_187 n3 n2 n1 n10 H0 H4 := by
  unfold Bb_236_187
  intro z
  have ga := f4.2.1.1.2
  unfold Bb_236_96 at ga
  obtain ⟨z1, op, ye⟩ := ga z
  have vz : vwR H1 = vwR H0 := vwR_fr f4.1.2.1 (by decide +kernel)
  have q11 := f7
  have q16 := f10
  have q21 := f13
  have pr := f4.2.1.2
  unfold preb_236 at pr
  have ab := f4.2.1.1.1
  unfold Ab_236_96 at ab
  have hx1 : n1 = hV H0 285 12 := ab.2.2.2.1
  have hft : hV H0 285 13 ≤ hV H1 285 13 := ab.2.2.2.2.2.2.2.2.2.2
  have lo0 := z.2.2.2.1
  have rg0 := f0
  have rg1 := f1
  have rg2 := f2
  have rg3 := f3
  have g12 := f4.1.2.2 285 12 _ _ rW_12
  have f0 : hV H1 285 13 = 0 → n1 = 0 := fun c => by omega
  have p0 := PR_fr f6.1.2.1 (by decide +kernel) z1
  have v0 : vwR H2 = vwR H0 := p0.2.1.trans vz
  have ah0 : absR H2 = (absR H1) := p0.1
  have i0 := f6.2
  unfold postb_216 at i0
  rw [f5] at i0
  have cm0 := f7
  have b0 := (isR_or (k := 7) p0.2.2.1 (by decide) i0).resolve_left (fun w => absurd (w.1.symm.trans cm0) (by decide))
  replace b0 := b0.2
  rw [v0, ah0, kmc_7] at b0
  have p1 := PR_fr f9.1.2.1 (by decide +kernel) p0.2.2.1
  have v1 : vwR H3 = vwR H0 := p1.2.1.trans v0
  have ah1 : absR H3 = (absR H1) := p1.1.trans ah0
  have i1 := f9.2
  unfold postb_216 at i1
  rw [f8] at i1
  have cm1 := f10
  have b1 := (isR_or (k := 8) p1.2.2.1 (by decide) i1).resolve_left (fun w => absurd (w.1.symm.trans cm1) (by decide))
  replace b1 := b1.2
  rw [v1, ah1, kmc_8] at b1
  have p2 := PR_fr f12.1.2.1 (by decide +kernel) p1.2.2.1
  have v2 : vwR H4 = vwR H0 := p2.2.1.trans v1
  have ah2 : absR H4 = (absR H1) := p2.1.trans ah1
  have i2 := f12.2
  unfold postb_216 at i2
  rw [f11] at i2
  have cm2 := f13
  have b2 := (isR_or (k := 9) p2.2.2.1 (by decide) i2).resolve_right (fun w => cm2 w.1)
  replace b2 := b2.2
  rw [v2, ah2, kmc_9] at b2
  have lo1 := z1.2.2.2.1
  have h12 : hV H4 285 12 = hV H1 285 12 := (f12.1.2.1.1 285 12 (by decide +kernel)).trans ((f9.1.2.1.1 285 12 (by decide +kernel)).trans (f6.1.2.1.1 285 12 (by decide +kernel)))
  have h13 : hV H4 285 13 = hV H1 285 13 := (f12.1.2.1.1 285 13 (by decide +kernel)).trans ((f9.1.2.1.1 285 13 (by decide +kernel)).trans (f6.1.2.1.1 285 13 (by decide +kernel)))
  have cx := f14
  rw [h12, h13, ah2]
  refine ⟨p2.2.2.1, op, ye, fun c => absurd c.1 b0, fun _ => by rw [b2]; decide, fun c => absurd (cx.symm.trans c) (by decide)⟩
def g_236w_96_1 : vG := ([(0, [10], [], 1), (31, [9], [], 0), (1216, [9, 1, 8], [3, 4], 0), (0, [8], [], 9), (30, [7], [], 0), (1216, [7, 1, 6], [2, 3], 0), (0, [6], [], 8), (30, [5], [], 0), (1216, [5, 1, 4], [1, 2], 0), (0, [4], [], 7), (5000, [0, 1, 2, 3], [0, 1], 96), (90, [2], [], 0), (91, [2], [], 7), (90, [3], [], -2147483648), (91, [3], [], 2147483647)], (4000, [1, 2, 10], [4], 187))
theorem c_236w_96_1 {q0 : Nat} : vOkm T0 (eN e_236 L_236w A_236 mu_236 n_236 B_236 (some q0)) 1 g_236w_96_1 := vOk_inI fun ρ η f0 f1 f2 f3 f4 f5 f6 f7 f8 f9 f10 f11 f12 f13 f14 => q_236w_9 (q0 := q0) (n0 := ρ 3) (n1 := ρ 2) (n2 := ρ 1) (n3 := ρ 0) (n4 := ρ 4) (n5 := ρ 5) (n6 := ρ 6) (n7 := ρ 7) (n8 := ρ 8) (n9 := ρ 9) (n10 := ρ 10) (H0 := η 0) (H1 := η 1) (H2 := η 2) (H3 := η 3) (H4 := η 4) f14 f13 f12 f11 f10 f9 f8 f7 f6 f5 f4 f3 f2 f1 f0
theorem q_236w_10 {q0 : Nat} {n0 n1 n2 n3 n4 n5 n6 n7 n8 n9 n10 n11 n12 : Int} {H0 H1 H2 H3 H4 H5 : gH} (f0 : n0 ≤ 2147483647) (f1 : (-2147483648) ≤ n0) (f2 : n1 ≤ 7) (f3 : 0 ≤ n1) (f4 : (hLe T0 H0 H1 ∧ hFr s_236.2.2.2.2 H0 H1 ∧ hWt T0 H1) ∧ ((Ab_236_96 n3 n2 n1 n0 H0 H1 ∧ Bb_236_96 n3 n2 n1 n0 H0 H1) ∧ preb_236 n3 H0) ∧ some q0 = some (mub_236_96 n3 n2 n1 n0 H0 H1)) (f5 : n4 = 7) (f6 : (hLe T0 H1 H2 ∧ hFr s_216.2.2.2.2 H1 H2 ∧ ((0 : Int) = 0 → H2.length = H1.length) ∧ hWt T0 H2) ∧ postb_216 n5 n2 n4 H1 H2) (f7 : n5 = 0) (f8 : n6 = 8) (f9 : (hLe T0 H2 H3 ∧ hFr s_216.2.2.2.2 H2 H3 ∧ ((0 : Int) = 0 → H3.length = H2.length) ∧ hWt T0 H3) ∧ postb_216 n7 n2 n6 H2 H3) (f10 : n7 = 0) (f11 : n8 = 9) (f12 : (hLe T0 H3 H4 ∧ hFr s_216.2.2.2.2 H3 H4 ∧ ((0 : Int) = 0 → H4.length = H3.length) ∧ hWt T0 H4) ∧ postb_216 n9 n2 n8 H3 H4) (f13 : n9 = 0) (f14 : n10 = 10) (f15 : (hLe T0 H4 H5 ∧ hFr s_216.2.2.2.2 H4 H5 ∧ ((0 : Int) = 0 → H5.length = H4.length) ∧ hWt T0 H5) ∧ postb_216 n11 n2 n10 H4 H5) (f16 : n11 ≠ 0) (f17 : n12 = 1) : Bb_236_187 n3 n2 n1 n12 H0 H5 := by
  unfold Bb_236_187
  intro z
  have ga := f4.2.1.1.2
  unfold Bb_236_96 at ga
  obtain ⟨z1, op, ye⟩ := ga z
  have vz : vwR H1 = vwR H0 := vwR_fr f4.1.2.1 (by decide +kernel)
  have q11 := f7
  have q16 := f10
  have q21 := f13
  have q26 := f16
  have pr := f4.2.1.2
  unfold preb_236 at pr
  have ab := f4.2.1.1.1
  unfold Ab_236_96 at ab
  have hx1 : n1 = hV H0 285 12 := ab.2.2.2.1
  have hft : hV H0 285 13 ≤ hV H1 285 13 := ab.2.2.2.2.2.2.2.2.2.2
  have lo0 := z.2.2.2.1
  have rg0 := f0
  have rg1 := f1
  have rg2 := f2
  have rg3 := f3
  have g12 := f4.1.2.2 285 12 _ _ rW_12
  have f0 : hV H1 285 13 = 0 → n1 = 0 := fun c => by omega
  have p0 := PR_fr f6.1.2.1 (by decide +kernel) z1
  have v0 : vwR H2 = vwR H0 := p0.2.1.trans vz
  have ah0 : absR H2 = (absR H1) := p0.1
  have i0 := f6.2
  unfold postb_216 at i0
  rw [f5] at i0
  have cm0 := f7
  have b0 := (isR_or (k := 7) p0.2.2.1 (by decide) i0).resolve_left (fun w => absurd (w.1.symm.trans cm0) (by decide))
  replace b0 := b0.2
  rw [v0, ah0, kmc_7] at b0
  have p1 := PR_fr f9.1.2.1 (by decide +kernel) p0.2.2.1
  have v1 : vwR H3 = vwR H0 := p1.2.1.trans v0
  have ah1 : absR H3 = (absR H1) := p1.1.trans ah0
  have i1 := f9.2
  unfold postb_216 at i1
  rw [f8] at i1
  have cm1 := f10
  have b1 := (isR_or (k := 8) p1.2.2.1 (by decide) i1).resolve_left (fun w => absurd (w.1.symm.trans cm1) (by decide))
  replace b1 := b1.2
  rw [v1, ah1, kmc_8] at b1
  have p2 := PR_fr f12.1.2.1 (by decide +kernel) p1.2.2.1
  have v2 : vwR H4 = vwR H0 := p2.2.1.trans v1
  have ah2 : absR H4 = (absR H1) := p2.1.trans ah1
  have i2 := f12.2
  unfold postb_216 at i2
  rw [f11] at i2
  have cm2 := f13
  have b2 := (isR_or (k := 9) p2.2.2.1 (by decide) i2).resolve_left (fun w => absurd (w.1.symm.trans cm2) (by decide))
  replace b2 := b2.2
  rw [v2, ah2, kmc_9] at b2
  have p3 := PR_fr f15.1.2.1 (by decide +kernel) p2.2.2.1
  have v3 : vwR H5 = vwR H0 := p3.2.1.trans v2
  have ah3 : absR H5 = (absR H1) := p3.1.trans ah2
  have i3 := f15.2
  unfold postb_216 at i3
  rw [f14] at i3
  have cm3 := f16
  have b3 := (isR_or (k := 10) p3.2.2.1 (by decide) i3).resolve_right (fun w => cm3 w.1)
  replace b3 := b3.2
  rw [v3, ah3, kmc_10] at b3
  have lo1 := z1.2.2.2.1
  have h12 : hV H5 285 12 = hV H1 285 12 := (f15.1.2.1.1 285 12 (by decide +kernel)).trans ((f12.1.2.1.1 285 12 (by decide +kernel)).trans ((f9.1.2.1.1 285 12 (by decide +kernel)).trans (f6.1.2.1.1 285 12 (by decide +kernel))))
  have h13 : hV H5 285 13 = hV H1 285 13 := (f15.1.2.1.1 285 13 (by decide +kernel)).trans ((f12.1.2.1.1 285 13 (by decide +kernel)).trans ((f9.1.2.1.1 285 13 (by decide +kernel)).trans (f6.1.2.1.1 285 13 (by decide +kernel))))
  have cx := f17
  rw [h12, h13, ah3]
  refine ⟨p3.2.2.1, op, ye, fun c => absurd c.1 b0, fun _ => by rw [b3]; decide, fun c => absurd (cx.symm.trans c) (by decide)⟩
def g_236w_96_2 : vG := ([(0, [12], [], 1), (31, [11], [], 0), (1216, [11, 1, 10], [4, 5], 0), (0, [10], [], 10), (30, [9], [], 0), (1216, [9, 1, 8], [3, 4], 0), (0, [8], [], 9), (30, [7], [], 0), (1216, [7, 1, 6], [2, 3], 0), (0, [6], [], 8), (30, [5], [], 0), (1216, [5, 1, 4], [1, 2], 0), (0, [4], [], 7), (5000, [0, 1, 2, 3], [0, 1], 96), (90, [2], [], 0), (91, [2], [], 7), (90, [3], [], -2147483648), (91, [3], [], 2147483647)], (4000, [1, 2, 12], [5], 187))
theorem c_236w_96_2 {q0 : Nat} : vOkm T0 (eN e_236 L_236w A_236 mu_236 n_236 B_236 (some q0)) 1 g_236w_96_2 := vOk_inI fun ρ η f0 f1 f2 f3 f4 f5 f6 f7 f8 f9 f10 f11 f12 f13 f14 f15 f16 f17 => q_236w_10 (q0 := q0) (n0 := ρ 3) (n1 := ρ 2) (n2 := ρ 1) (n3 := ρ 0) (n4 := ρ 4) (n5 := ρ 5) (n6 := ρ 6) (n7 := ρ 7) (n8 := ρ 8) (n9 := ρ 9) (n10 := ρ 10) (n11 := ρ 11) (n12 := ρ 12) (H0 := η 0) (H1 := η 1) (H2 := η 2) (H3 := η 3) (H4 := η 4) (H5 := η 5) f17 f16 f15 f14 f13 f12 f11 f10 f9 f8 f7 f6 f5 f4 f3 f2 f1 f0
theorem q_236w_11 {q0 : Nat} {n0 n1 n2 n3 n4 n5 n6 n7 n8 n9 n10 n11 n12 n13 n14 : Int} {H0 H1 H2 H3 H4 H5 H6 : gH} (f0 : n0 ≤ 2147483647) (f1 : (-2147483648) ≤ n0) (f2 : n1 ≤ 7) (f3 : 0 ≤ n1) (f4 : (hLe T0 H0 H1 ∧ hFr s_236.2.2.2.2 H0 H1 ∧ hWt T0 H1) ∧ ((Ab_236_96 n3 n2 n1 n0 H0 H1 ∧ Bb_236_96 n3 n2 n1 n0 H0 H1) ∧ preb_236 n3 H0) ∧ some q0 = some (mub_236_96 n3 n2 n1 n0 H0 H1)) (f5 : n4 = 7) (f6 : (hLe T0 H1 H2 ∧ hFr s_216.2.2.2.2 H1 H2 ∧ ((0 : Int) = 0 → H2.length = H1.length) ∧ hWt T0 H2) ∧ postb_216 n5 n2 n4 H1 H2) (f7 : n5 = 0) (f8 : n6 = 8) (f9 : (hLe T0 H2 H3 ∧ hFr s_216.2.2.2.2 H2 H3 ∧ ((0 : Int) = 0 → H3.length = H2.length) ∧ hWt T0 H3) ∧ postb_216 n7 n2 n6 H2 H3) (f10 : n7 = 0) (f11 : n8 = 9) (f12 : (hLe T0 H3 H4 ∧ hFr s_216.2.2.2.2 H3 H4 ∧ ((0 : Int) = 0 → H4.length = H3.length) ∧ hWt T0 H4) ∧ postb_216 n9 n2 n8 H3 H4) (f13 : n9 = 0) (f14 : n10 = 10) (f15 : (hLe T0 H4 H5 ∧ hFr s_216.2.2.2.2 H4 H5 ∧ ((0 : Int) = 0 → H5.length = H4.length) ∧ hWt T0 H5) ∧ postb_216 n11 n2 n10 H4 H5) (f16 : n11 = 0) (f17 : n12 = 15) (f18 : (hLe T0 H5 H6 ∧ hFr s_216.2.2.2.2 H5 H6 ∧ ((0 : Int) = 0 → H6.length = H5.length) ∧ hWt T0 H6) ∧ postb_216 n13 n2 n12 H5 H6) (f19 : n13 = 0) (f20 : n14 = 0) : Bb_236_187 n3 n2 n1 n14 H0 H6 := by
  unfold Bb_236_187
  intro z
  have ga := f4.2.1.1.2
  unfold Bb_236_96 at ga
  obtain ⟨z1, op, ye⟩ := ga z
  have vz : vwR H1 = vwR H0 := vwR_fr f4.1.2.1 (by decide +kernel)
  have q11 := f7
  have q16 := f10
  have q21 := f13
  have q26 := f16
  have q31 := f19
  have pr := f4.2.1.2
  unfold preb_236 at pr
  have ab := f4.2.1.1.1
  unfold Ab_236_96 at ab
  have hx1 : n1 = hV H0 285 12 := ab.2.2.2.1
  have hft : hV H0 285 13 ≤ hV H1 285 13 := ab.2.2.2.2.2.2.2.2.2.2
  have lo0 := z.2.2.2.1
  have rg0 := f0
  have rg1 := f1
  have rg2 := f2
  have rg3 := f3
  have g12 := f4.1.2.2 285 12 _ _ rW_12
  have f0 : hV H1 285 13 = 0 → n1 = 0 := fun c => by omega
  have p0 := PR_fr f6.1.2.1 (by decide +kernel) z1
  have v0 : vwR H2 = vwR H0 := p0.2.1.trans vz
  have ah0 : absR H2 = (absR H1) := p0.1
  have i0 := f6.2
  unfold postb_216 at i0
  rw [f5] at i0
  have cm0 := f7
  have b0 := (isR_or (k := 7) p0.2.2.1 (by decide) i0).resolve_left (fun w => absurd (w.1.symm.trans cm0) (by decide))
  replace b0 := b0.2
  rw [v0, ah0, kmc_7] at b0
  have p1 := PR_fr f9.1.2.1 (by decide +kernel) p0.2.2.1
  have v1 : vwR H3 = vwR H0 := p1.2.1.trans v0
  have ah1 : absR H3 = (absR H1) := p1.1.trans ah0
  have i1 := f9.2
  unfold postb_216 at i1
  rw [f8] at i1
  have cm1 := f10
  have b1 := (isR_or (k := 8) p1.2.2.1 (by decide) i1).resolve_left (fun w => absurd (w.1.symm.trans cm1) (by decide))
  replace b1 := b1.2
  rw [v1, ah1, kmc_8] at b1
  have p2 := PR_fr f12.1.2.1 (by decide +kernel) p1.2.2.1
  have v2 : vwR H4 = vwR H0 := p2.2.1.trans v1
  have ah2 : absR H4 = (absR H1) := p2.1.trans ah1
  have i2 := f12.2
  unfold postb_216 at i2
  rw [f11] at i2
  have cm2 := f13
  have b2 := (isR_or (k := 9) p2.2.2.1 (by decide) i2).resolve_left (fun w => absurd (w.1.symm.trans cm2) (by decide))
  replace b2 := b2.2
  rw [v2, ah2, kmc_9] at b2
  have p3 := PR_fr f15.1.2.1 (by decide +kernel) p2.2.2.1
  have v3 : vwR H5 = vwR H0 := p3.2.1.trans v2
  have ah3 : absR H5 = (absR H1) := p3.1.trans ah2
  have i3 := f15.2
  unfold postb_216 at i3
  rw [f14] at i3
  have cm3 := f16
  have b3 := (isR_or (k := 10) p3.2.2.1 (by decide) i3).resolve_left (fun w => absurd (w.1.symm.trans cm3) (by decide))
  replace b3 := b3.2
  rw [v3, ah3, kmc_10] at b3
  have p4 := PR_fr f18.1.2.1 (by decide +kernel) p3.2.2.1
  have v4 : vwR H6 = vwR H0 := p4.2.1.trans v3
  have ah4 : absR H6 = (absR H1) := p4.1.trans ah3
  have i4 := f18.2
  unfold postb_216 at i4
  rw [f17] at i4
  have cm4 := f19
  have b4 := (isR_or (k := 15) p4.2.2.1 (by decide) i4).resolve_left (fun w => absurd (w.1.symm.trans cm4) (by decide))
  replace b4 := b4.2
  rw [v4, ah4, kmc_15] at b4
  have lo1 := z1.2.2.2.1
  have h12 : hV H6 285 12 = hV H1 285 12 := (f18.1.2.1.1 285 12 (by decide +kernel)).trans ((f15.1.2.1.1 285 12 (by decide +kernel)).trans ((f12.1.2.1.1 285 12 (by decide +kernel)).trans ((f9.1.2.1.1 285 12 (by decide +kernel)).trans (f6.1.2.1.1 285 12 (by decide +kernel)))))
  have h13 : hV H6 285 13 = hV H1 285 13 := (f18.1.2.1.1 285 13 (by decide +kernel)).trans ((f15.1.2.1.1 285 13 (by decide +kernel)).trans ((f12.1.2.1.1 285 13 (by decide +kernel)).trans ((f9.1.2.1.1 285 13 (by decide +kernel)).trans (f6.1.2.1.1 285 13 (by decide +kernel)))))
  have cx := f20
  rw [h12, h13, ah4]
  refine ⟨p4.2.2.1, op, ye, fun c => absurd c.1 b0, fun c => absurd (cx.symm.trans c) (by decide), fun _ => by omega⟩
def g_236w_96_3 : vG := ([(0, [14], [], 0), (30, [13], [], 0), (1216, [13, 1, 12], [5, 6], 0), (0, [12], [], 15), (30, [11], [], 0), (1216, [11, 1, 10], [4, 5], 0), (0, [10], [], 10), (30, [9], [], 0), (1216, [9, 1, 8], [3, 4], 0), (0, [8], [], 9), (30, [7], [], 0), (1216, [7, 1, 6], [2, 3], 0), (0, [6], [], 8), (30, [5], [], 0), (1216, [5, 1, 4], [1, 2], 0), (0, [4], [], 7), (5000, [0, 1, 2, 3], [0, 1], 96), (90, [2], [], 0), (91, [2], [], 7), (90, [3], [], -2147483648), (91, [3], [], 2147483647)], (4000, [1, 2, 14], [6], 187))
theorem c_236w_96_3 {q0 : Nat} : vOkm T0 (eN e_236 L_236w A_236 mu_236 n_236 B_236 (some q0)) 1 g_236w_96_3 := vOk_inI fun ρ η f0 f1 f2 f3 f4 f5 f6 f7 f8 f9 f10 f11 f12 f13 f14 f15 f16 f17 f18 f19 f20 => q_236w_11 (q0 := q0) (n0 := ρ 3) (n1 := ρ 2) (n2 := ρ 1) (n3 := ρ 0) (n4 := ρ 4) (n5 := ρ 5) (n6 := ρ 6) (n7 := ρ 7) (n8 := ρ 8) (n9 := ρ 9) (n10 := ρ 10) (n11 := ρ 11) (n12 := ρ 12) (n13 := ρ 13) (n14 := ρ 14) (H0 := η 0) (H1 := η 1) (H2 := η 2) (H3 := η 3) (H4 := η 4) (H5 := η 5) (H6 := η 6) f20 f19 f18 f17 f16 f15 f14 f13 f12 f11 f10 f9 f8 f7 f6 f5 f4 f3 f2 f1 f0
theorem q_236w_12 {q0 : Nat} {n0 n1 n2 n3 n4 n5 n6 n7 n8 n9 n10 n11 n12 n13 n14 : Int} {H0 H1 H2 H3 H4 H5 H6 : gH} (f0 : n0 ≤ 2147483647) (f1 : (-2147483648) ≤ n0) (f2 : n1 ≤ 7) (f3 : 0 ≤ n1) (f4 : (hLe T0 H0 H1 ∧ hFr s_236.2.2.2.2 H0 H1 ∧ hWt T0 H1) ∧ ((Ab_236_96 n3 n2 n1 n0 H0 H1 ∧ Bb_236_96 n3 n2 n1 n0 H0 H1) ∧ preb_236 n3 H0) ∧ some q0 = some (mub_236_96 n3 n2 n1 n0 H0 H1)) (f5 : n4 = 7) (f6 : (hLe T0 H1 H2 ∧ hFr s_216.2.2.2.2 H1 H2 ∧ ((0 : Int) = 0 → H2.length = H1.length) ∧ hWt T0 H2) ∧ postb_216 n5 n2 n4 H1 H2) (f7 : n5 = 0) (f8 : n6 = 8) (f9 : (hLe T0 H2 H3 ∧ hFr s_216.2.2.2.2 H2 H3 ∧ ((0 : Int) = 0 → H3.length = H2.length) ∧ hWt T0 H3) ∧ postb_216 n7 n2 n6 H2 H3) (f10 : n7 = 0) (f11 : n8 = 9) (f12 : (hLe T0 H3 H4 ∧ hFr s_216.2.2.2.2 H3 H4 ∧ ((0 : Int) = 0 → H4.length = H3.length) ∧ hWt T0 H4) ∧ postb_216 n9 n2 n8 H3 H4) (f13 : n9 = 0) (f14 : n10 = 10) (f15 : (hLe T0 H4 H5 ∧ hFr s_216.2.2.2.2 H4 H5 ∧ ((0 : Int) = 0 → H5.length = H4.length) ∧ hWt T0 H5) ∧ postb_216 n11 n2 n10 H4 H5) (f16 : n11 = 0) (f17 : n12 = 15) (f18 : (hLe T0 H5 H6 ∧ hFr s_216.2.2.2.2 H5 H6 ∧ ((0 : Int) = 0 → H6.length = H5.length) ∧ hWt T0 H6) ∧ postb_216 n13 n2 n12 H5 H6) (f19 : n13 ≠ 0) (f20 : n14 = 1) : Bb_236_187 n3 n2 n1 n14 H0 H6 := by
  unfold Bb_236_187
  intro z
  have ga := f4.2.1.1.2
  unfold Bb_236_96 at ga
  obtain ⟨z1, op, ye⟩ := ga z
  have vz : vwR H1 = vwR H0 := vwR_fr f4.1.2.1 (by decide +kernel)
  have q11 := f7
  have q16 := f10
  have q21 := f13
  have q26 := f16
  have q31 := f19
  have pr := f4.2.1.2
  unfold preb_236 at pr
  have ab := f4.2.1.1.1
  unfold Ab_236_96 at ab
  have hx1 : n1 = hV H0 285 12 := ab.2.2.2.1
  have hft : hV H0 285 13 ≤ hV H1 285 13 := ab.2.2.2.2.2.2.2.2.2.2
  have lo0 := z.2.2.2.1
  have rg0 := f0
  have rg1 := f1
  have rg2 := f2
  have rg3 := f3
  have g12 := f4.1.2.2 285 12 _ _ rW_12
  have f0 : hV H1 285 13 = 0 → n1 = 0 := fun c => by omega
  have p0 := PR_fr f6.1.2.1 (by decide +kernel) z1
  have v0 : vwR H2 = vwR H0 := p0.2.1.trans vz
  have ah0 : absR H2 = (absR H1) := p0.1
  have i0 := f6.2
  unfold postb_216 at i0
  rw [f5] at i0
  have cm0 := f7
  have b0 := (isR_or (k := 7) p0.2.2.1 (by decide) i0).resolve_left (fun w => absurd (w.1.symm.trans cm0) (by decide))
  replace b0 := b0.2
  rw [v0, ah0, kmc_7] at b0
  have p1 := PR_fr f9.1.2.1 (by decide +kernel) p0.2.2.1
  have v1 : vwR H3 = vwR H0 := p1.2.1.trans v0
  have ah1 : absR H3 = (absR H1) := p1.1.trans ah0
  have i1 := f9.2
  unfold postb_216 at i1
  rw [f8] at i1
  have cm1 := f10
  have b1 := (isR_or (k := 8) p1.2.2.1 (by decide) i1).resolve_left (fun w => absurd (w.1.symm.trans cm1) (by decide))
  replace b1 := b1.2
  rw [v1, ah1, kmc_8] at b1
  have p2 := PR_fr f12.1.2.1 (by decide +kernel) p1.2.2.1
  have v2 : vwR H4 = vwR H0 := p2.2.1.trans v1
  have ah2 : absR H4 = (absR H1) := p2.1.trans ah1
  have i2 := f12.2
  unfold postb_216 at i2
  rw [f11] at i2
  have cm2 := f13
  have b2 := (isR_or (k := 9) p2.2.2.1 (by decide) i2).resolve_left (fun w => absurd (w.1.symm.trans cm2) (by decide))
  replace b2 := b2.2
  rw [v2, ah2, kmc_9] at b2
  have p3 := PR_fr f15.1.2.1 (by decide +kernel) p2.2.2.1
  have v3 : vwR H5 = vwR H0 := p3.2.1.trans v2
  have ah3 : absR H5 = (absR H1) := p3.1.trans ah2
  have i3 := f15.2
  unfold postb_216 at i3
  rw [f14] at i3
  have cm3 := f16
  have b3 := (isR_or (k := 10) p3.2.2.1 (by decide) i3).resolve_left (fun w => absurd (w.1.symm.trans cm3) (by decide))
  replace b3 := b3.2
  rw [v3, ah3, kmc_10] at b3
  have p4 := PR_fr f18.1.2.1 (by decide +kernel) p3.2.2.1
  have v4 : vwR H6 = vwR H0 := p4.2.1.trans v3
  have ah4 : absR H6 = (absR H1) := p4.1.trans ah3
  have i4 := f18.2
  unfold postb_216 at i4
  rw [f17] at i4
  have cm4 := f19
  have b4 := (isR_or (k := 15) p4.2.2.1 (by decide) i4).resolve_right (fun w => cm4 w.1)
  replace b4 := b4.2
  rw [v4, ah4, kmc_15] at b4
  have lo1 := z1.2.2.2.1
  have h12 : hV H6 285 12 = hV H1 285 12 := (f18.1.2.1.1 285 12 (by decide +kernel)).trans ((f15.1.2.1.1 285 12 (by decide +kernel)).trans ((f12.1.2.1.1 285 12 (by decide +kernel)).trans ((f9.1.2.1.1 285 12 (by decide +kernel)).trans (f6.1.2.1.1 285 12 (by decide +kernel)))))
  have h13 : hV H6 285 13 = hV H1 285 13 := (f18.1.2.1.1 285 13 (by decide +kernel)).trans ((f15.1.2.1.1 285 13 (by decide +kernel)).trans ((f12.1.2.1.1 285 13 (by decide +kernel)).trans ((f9.1.2.1.1 285 13 (by decide +kernel)).trans (f6.1.2.1.1 285 13 (by decide +kernel)))))
  have cx := f20
  rw [h12, h13, ah4]
  refine ⟨p4.2.2.1, op, ye, fun c => absurd c.1 b0, fun _ => by rw [b4]; decide, fun c => absurd (cx.symm.trans c) (by decide)⟩
def g_236w_96_4 : vG := ([(0, [14], [], 1), (31, [13], [], 0), (1216, [13, 1, 12], [5, 6], 0), (0, [12], [], 15), (30, [11], [], 0), (1216, [11, 1, 10], [4, 5], 0), (0, [10], [], 10), (30, [9], [], 0), (1216, [9, 1, 8], [3, 4], 0), (0, [8], [], 9), (30, [7], [], 0), (1216, [7, 1, 6], [2, 3], 0), (0, [6], [], 8), (30, [5], [], 0), (1216, [5, 1, 4], [1, 2], 0), (0, [4], [], 7), (5000, [0, 1, 2, 3], [0, 1], 96), (90, [2], [], 0), (91, [2], [], 7), (90, [3], [], -2147483648), (91, [3], [], 2147483647)], (4000, [1, 2, 14], [6], 187))
theorem c_236w_96_4 {q0 : Nat} : vOkm T0 (eN e_236 L_236w A_236 mu_236 n_236 B_236 (some q0)) 1 g_236w_96_4 := vOk_inI fun ρ η f0 f1 f2 f3 f4 f5 f6 f7 f8 f9 f10 f11 f12 f13 f14 f15 f16 f17 f18 f19 f20 => q_236w_12 (q0 := q0) (n0 := ρ 3) (n1 := ρ 2) (n2 := ρ 1) (n3 := ρ 0) (n4 := ρ 4) (n5 := ρ 5) (n6 := ρ 6) (n7 := ρ 7) (n8 := ρ 8) (n9 := ρ 9) (n10 := ρ 10) (n11 := ρ 11) (n12 := ρ 12) (n13 := ρ 13) (n14 := ρ 14) (H0 := η 0) (H1 := η 1) (H2 := η 2) (H3 := η 3) (H4 := η 4) (H5 := η 5) (H6 := η 6) f20 f19 f18 f17 f16 f15 f14 f13 f12 f11 f10 f9 f8 f7 f6 f5 f4 f3 f2 f1 f0
theorem q_236w_13 {q0 : Nat} {n0 n1 n2 n3 n4 n5 n6 n7 n8 n9 : Int} {H0 H1 H2 H3 : gH} (f0 : n0 ≤ 2147483647) (f1 : (-2147483648) ≤ n0) (f2 : n1 ≤ 7) (f3 : 0 ≤ n1) (f4 : n2 = 285) (f5 : (hLe T0 H0 H1 ∧ hFr s_236.2.2.2.2 H0 H1 ∧ hWt T0 H1) ∧ ((Ab_236_96 n3 n2 n1 n0 H0 H1 ∧ Bb_236_96 n3 n2 n1 n0 H0 H1) ∧ preb_236 n3 H0) ∧ some q0 = some (mub_236_96 n3 n2 n1 n0 H0 H1)) (f6 : n4 = 7) (f7 : (hLe T0 H1 H2 ∧ hFr s_216.2.2.2.2 H1 H2 ∧ ((0 : Int) = 0 → H2.length = H1.length) ∧ hWt T0 H2) ∧ postb_216 n5 n2 n4 H1 H2) (f8 : n5 ≠ 0) (f9 : n6 ≤ 7) (f10 : 0 ≤ n6) (f11 : n6 = hV H2 (n2).toNat 12) (f12 : n6 ≤ n1) (f13 : n7 = 8) (f14 : (hLe T0 H2 H3 ∧ hFr s_216.2.2.2.2 H2 H3 ∧ ((0 : Int) = 0 → H3.length = H2.length) ∧ hWt T0 H3) ∧ postb_216 n8 n2 n7 H2 H3) (f15 : n8 ≠ 0) : Bb_236_187 n3 n2 n1 n9 H0 H3 := by
  unfold Bb_236_187
  intro z
  have ga := f5.2.1.1.2
  unfold Bb_236_96 at ga
  obtain ⟨z1, op, ye⟩ := ga z
  have vz : vwR H1 = vwR H0 := vwR_fr f5.1.2.1 (by decide +kernel)
  have d15 := rdS (q := 285) f11 f4
  have q11 := f8
  have q16 := f12
  have q21 := f15
  have pr := f5.2.1.2
  unfold preb_236 at pr
  have ab := f5.2.1.1.1
  unfold Ab_236_96 at ab
  have hx1 : n1 = hV H0 285 12 := ab.2.2.2.1
  have hft : hV H0 285 13 ≤ hV H1 285 13 := ab.2.2.2.2.2.2.2.2.2.2
  have lo0 := z.2.2.2.1
  have rg0 := f0
  have rg1 := f1
  have rg2 := f2
  have rg3 := f3
  have g12 := f5.1.2.2 285 12 _ _ rW_12
  have f0 : hV H1 285 13 = 0 → n1 = 0 := fun c => by omega
  have rg12 := f9
  have rg13 := f10
  have p0 := PR_fr f7.1.2.1 (by decide +kernel) z1
  have v0 : vwR H2 = vwR H0 := p0.2.1.trans vz
  have ah0 : absR H2 = (absR H1) := p0.1
  have i0 := f7.2
  unfold postb_216 at i0
  rw [f6] at i0
  have cm0 := f8
  have b0 := (isR_or (k := 7) p0.2.2.1 (by decide) i0).resolve_right (fun w => cm0 w.1)
  replace b0 := b0.2
  rw [v0, ah0, kmc_7] at b0
  have p1 := PR_fr f14.1.2.1 (by decide +kernel) p0.2.2.1
  have v1 : vwR H3 = vwR H0 := p1.2.1.trans v0
  have ah1 : absR H3 = (absR H1) := p1.1.trans ah0
  have i1 := f14.2
  unfold postb_216 at i1
  rw [f13] at i1
  have cm1 := f15
  have b1 := (isR_or (k := 8) p1.2.2.1 (by decide) i1).resolve_right (fun w => cm1 w.1)
  replace b1 := b1.2
  rw [v1, ah1, kmc_8] at b1
  exact absurd (b0.symm.trans b1) (by decide)
def g_236w_96_5 : vG := ([(31, [8], [], 0), (1216, [8, 1, 7], [2, 3], 0), (0, [7], [], 8), (45, [6, 2], [], 0), (20, [6, 1], [2], 12), (90, [6], [], 0), (91, [6], [], 7), (31, [5], [], 0), (1216, [5, 1, 4], [1, 2], 0), (0, [4], [], 7), (5000, [0, 1, 2, 3], [0, 1], 96), (0, [1], [], 285), (90, [2], [], 0), (91, [2], [], 7), (90, [3], [], -2147483648), (91, [3], [], 2147483647)], (4000, [1, 2, 9], [3], 187))
theorem c_236w_96_5 {q0 : Nat} : vOkm T0 (eN e_236 L_236w A_236 mu_236 n_236 B_236 (some q0)) 1 g_236w_96_5 := vOk_inI fun ρ η f0 f1 f2 f3 f4 f5 f6 f7 f8 f9 f10 f11 f12 f13 f14 f15 => q_236w_13 (q0 := q0) (n0 := ρ 3) (n1 := ρ 2) (n2 := ρ 1) (n3 := ρ 0) (n4 := ρ 4) (n5 := ρ 5) (n6 := ρ 6) (n7 := ρ 7) (n8 := ρ 8) (n9 := ρ 9) (H0 := η 0) (H1 := η 1) (H2 := η 2) (H3 := η 3) f15 f14 f13 f12 f11 f10 f9 f8 f7 f6 f5 f4 f3 f2 f1 f0
theorem q_236w_14 {q0 : Nat} {n0 n1 n2 n3 n4 n5 n6 n7 n8 n9 n10 n11 : Int} {H0 H1 H2 H3 H4 : gH} (f0 : n0 ≤ 2147483647) (f1 : (-2147483648) ≤ n0) (f2 : n1 ≤ 7) (f3 : 0 ≤ n1) (f4 : n2 = 285) (f5 : (hLe T0 H0 H1 ∧ hFr s_236.2.2.2.2 H0 H1 ∧ hWt T0 H1) ∧ ((Ab_236_96 n3 n2 n1 n0 H0 H1 ∧ Bb_236_96 n3 n2 n1 n0 H0 H1) ∧ preb_236 n3 H0) ∧ some q0 = some (mub_236_96 n3 n2 n1 n0 H0 H1)) (f6 : n4 = 7) (f7 : (hLe T0 H1 H2 ∧ hFr s_216.2.2.2.2 H1 H2 ∧ ((0 : Int) = 0 → H2.length = H1.length) ∧ hWt T0 H2) ∧ postb_216 n5 n2 n4 H1 H2) (f8 : n5 ≠ 0) (f9 : n6 ≤ 7) (f10 : 0 ≤ n6) (f11 : n6 = hV H2 (n2).toNat 12) (f12 : n6 ≤ n1) (f13 : n7 = 8) (f14 : (hLe T0 H2 H3 ∧ hFr s_216.2.2.2.2 H2 H3 ∧ ((0 : Int) = 0 → H3.length = H2.length) ∧ hWt T0 H3) ∧ postb_216 n8 n2 n7 H2 H3) (f15 : n8 = 0) (f16 : n9 = 9) (f17 : (hLe T0 H3 H4 ∧ hFr s_216.2.2.2.2 H3 H4 ∧ ((0 : Int) = 0 → H4.length = H3.length) ∧ hWt T0 H4) ∧ postb_216 n10 n2 n9 H3 H4) (f18 : n10 ≠ 0) : Bb_236_187 n3 n2 n1 n11 H0 H4 := by
  unfold Bb_236_187
  intro z
  have ga := f5.2.1.1.2
  unfold Bb_236_96 at ga
  obtain ⟨z1, op, ye⟩ := ga z
  have vz : vwR H1 = vwR H0 := vwR_fr f5.1.2.1 (by decide +kernel)
  have d15 := rdS (q := 285) f11 f4
  have q11 := f8
  have q16 := f12
  have q21 := f15
  have q26 := f18
  have pr := f5.2.1.2
  unfold preb_236 at pr
  have ab := f5.2.1.1.1
  unfold Ab_236_96 at ab
  have hx1 : n1 = hV H0 285 12 := ab.2.2.2.1
  have hft : hV H0 285 13 ≤ hV H1 285 13 := ab.2.2.2.2.2.2.2.2.2.2
  have lo0 := z.2.2.2.1
  have rg0 := f0
  have rg1 := f1
  have rg2 := f2
  have rg3 := f3
  have g12 := f5.1.2.2 285 12 _ _ rW_12
  have f0 : hV H1 285 13 = 0 → n1 = 0 := fun c => by omega
  have rg12 := f9
  have rg13 := f10
  have p0 := PR_fr f7.1.2.1 (by decide +kernel) z1
  have v0 : vwR H2 = vwR H0 := p0.2.1.trans vz
  have ah0 : absR H2 = (absR H1) := p0.1
  have i0 := f7.2
  unfold postb_216 at i0
  rw [f6] at i0
  have cm0 := f8
  have b0 := (isR_or (k := 7) p0.2.2.1 (by decide) i0).resolve_right (fun w => cm0 w.1)
  replace b0 := b0.2
  rw [v0, ah0, kmc_7] at b0
  have p1 := PR_fr f14.1.2.1 (by decide +kernel) p0.2.2.1
  have v1 : vwR H3 = vwR H0 := p1.2.1.trans v0
  have ah1 : absR H3 = (absR H1) := p1.1.trans ah0
  have i1 := f14.2
  unfold postb_216 at i1
  rw [f13] at i1
  have cm1 := f15
  have b1 := (isR_or (k := 8) p1.2.2.1 (by decide) i1).resolve_left (fun w => absurd (w.1.symm.trans cm1) (by decide))
  replace b1 := b1.2
  rw [v1, ah1, kmc_8] at b1
  have p2 := PR_fr f17.1.2.1 (by decide +kernel) p1.2.2.1
  have v2 : vwR H4 = vwR H0 := p2.2.1.trans v1
  have ah2 : absR H4 = (absR H1) := p2.1.trans ah1
  have i2 := f17.2
  unfold postb_216 at i2
  rw [f16] at i2
  have cm2 := f18
  have b2 := (isR_or (k := 9) p2.2.2.1 (by decide) i2).resolve_right (fun w => cm2 w.1)
  replace b2 := b2.2
  rw [v2, ah2, kmc_9] at b2
  exact absurd (b0.symm.trans b2) (by decide)
def g_236w_96_6 : vG := ([(31, [10], [], 0), (1216, [10, 1, 9], [3, 4], 0), (0, [9], [], 9), (30, [8], [], 0), (1216, [8, 1, 7], [2, 3], 0), (0, [7], [], 8), (45, [6, 2], [], 0), (20, [6, 1], [2], 12), (90, [6], [], 0), (91, [6], [], 7), (31, [5], [], 0), (1216, [5, 1, 4], [1, 2], 0), (0, [4], [], 7), (5000, [0, 1, 2, 3], [0, 1], 96), (0, [1], [], 285), (90, [2], [], 0), (91, [2], [], 7), (90, [3], [], -2147483648), (91, [3], [], 2147483647)], (4000, [1, 2, 11], [4], 187))
theorem c_236w_96_6 {q0 : Nat} : vOkm T0 (eN e_236 L_236w A_236 mu_236 n_236 B_236 (some q0)) 1 g_236w_96_6 := vOk_inI fun ρ η f0 f1 f2 f3 f4 f5 f6 f7 f8 f9 f10 f11 f12 f13 f14 f15 f16 f17 f18 => q_236w_14 (q0 := q0) (n0 := ρ 3) (n1 := ρ 2) (n2 := ρ 1) (n3 := ρ 0) (n4 := ρ 4) (n5 := ρ 5) (n6 := ρ 6) (n7 := ρ 7) (n8 := ρ 8) (n9 := ρ 9) (n10 := ρ 10) (n11 := ρ 11) (H0 := η 0) (H1 := η 1) (H2 := η 2) (H3 := η 3) (H4 := η 4) f18 f17 f16 f15 f14 f13 f12 f11 f10 f9 f8 f7 f6 f5 f4 f3 f2 f1 f0
theorem q_236w_15 {q0 : Nat} {n0 n1 n2 n3 n4 n5 n6 n7 n8 n9 n10 n11 n12 n13 : Int} {H0 H1 H2 H3 H4 H5 : gH} (f0 : n0 ≤ 2147483647) (f1 : (-2147483648) ≤ n0) (f2 : n1 ≤ 7) (f3 : 0 ≤ n1) (f4 : n2 = 285) (f5 : (hLe T0 H0 H1 ∧ hFr s_236.2.2.2.2 H0 H1 ∧ hWt T0 H1) ∧ ((Ab_236_96 n3 n2 n1 n0 H0 H1 ∧ Bb_236_96 n3 n2 n1 n0 H0 H1) ∧ preb_236 n3 H0) ∧ some q0 = some (mub_236_96 n3 n2 n1 n0 H0 H1)) (f6 : n4 = 7) (f7 : (hLe T0 H1 H2 ∧ hFr s_216.2.2.2.2 H1 H2 ∧ ((0 : Int) = 0 → H2.length = H1.length) ∧ hWt T0 H2) ∧ postb_216 n5 n2 n4 H1 H2) (f8 : n5 ≠ 0) (f9 : n6 ≤ 7) (f10 : 0 ≤ n6) (f11 : n6 = hV H2 (n2).toNat 12) (f12 : n6 ≤ n1) (f13 : n7 = 8) (f14 : (hLe T0 H2 H3 ∧ hFr s_216.2.2.2.2 H2 H3 ∧ ((0 : Int) = 0 → H3.length = H2.length) ∧ hWt T0 H3) ∧ postb_216 n8 n2 n7 H2 H3) (f15 : n8 = 0) (f16 : n9 = 9) (f17 : (hLe T0 H3 H4 ∧ hFr s_216.2.2.2.2 H3 H4 ∧ ((0 : Int) = 0 → H4.length = H3.length) ∧ hWt T0 H4) ∧ postb_216 n10 n2 n9 H3 H4) (f18 : n10 = 0) (f19 : n11 = 10) (f20 : (hLe T0 H4 H5 ∧ hFr s_216.2.2.2.2 H4 H5 ∧ ((0 : Int) = 0 → H5.length = H4.length) ∧ hWt T0 H5) ∧ postb_216 n12 n2 n11 H4 H5) (f21 : n12 ≠ 0) : Bb_236_187 n3 n2 n1 n13 H0 H5 := by
  unfold Bb_236_187
  intro z
  have ga := f5.2.1.1.2
  unfold Bb_236_96 at ga
  obtain ⟨z1, op, ye⟩ := ga z
  have vz : vwR H1 = vwR H0 := vwR_fr f5.1.2.1 (by decide +kernel)
  have d15 := rdS (q := 285) f11 f4
  have q11 := f8
  have q16 := f12
  have q21 := f15
  have q26 := f18
  have q31 := f21
  have pr := f5.2.1.2
  unfold preb_236 at pr
  have ab := f5.2.1.1.1
  unfold Ab_236_96 at ab
  have hx1 : n1 = hV H0 285 12 := ab.2.2.2.1
  have hft : hV H0 285 13 ≤ hV H1 285 13 := ab.2.2.2.2.2.2.2.2.2.2
  have lo0 := z.2.2.2.1
  have rg0 := f0
  have rg1 := f1
  have rg2 := f2
  have rg3 := f3
  have g12 := f5.1.2.2 285 12 _ _ rW_12
  have f0 : hV H1 285 13 = 0 → n1 = 0 := fun c => by omega
  have rg12 := f9
  have rg13 := f10
  have p0 := PR_fr f7.1.2.1 (by decide +kernel) z1
  have v0 : vwR H2 = vwR H0 := p0.2.1.trans vz
  have ah0 : absR H2 = (absR H1) := p0.1
  have i0 := f7.2
  unfold postb_216 at i0
  rw [f6] at i0
  have cm0 := f8
  have b0 := (isR_or (k := 7) p0.2.2.1 (by decide) i0).resolve_right (fun w => cm0 w.1)
  replace b0 := b0.2
  rw [v0, ah0, kmc_7] at b0
  have p1 := PR_fr f14.1.2.1 (by decide +kernel) p0.2.2.1
  have v1 : vwR H3 = vwR H0 := p1.2.1.trans v0
  have ah1 : absR H3 = (absR H1) := p1.1.trans ah0
  have i1 := f14.2
  unfold postb_216 at i1
  rw [f13] at i1
  have cm1 := f15
  have b1 := (isR_or (k := 8) p1.2.2.1 (by decide) i1).resolve_left (fun w => absurd (w.1.symm.trans cm1) (by decide))
  replace b1 := b1.2
  rw [v1, ah1, kmc_8] at b1
  have p2 := PR_fr f17.1.2.1 (by decide +kernel) p1.2.2.1
  have v2 : vwR H4 = vwR H0 := p2.2.1.trans v1
  have ah2 : absR H4 = (absR H1) := p2.1.trans ah1
  have i2 := f17.2
  unfold postb_216 at i2
  rw [f16] at i2
  have cm2 := f18
  have b2 := (isR_or (k := 9) p2.2.2.1 (by decide) i2).resolve_left (fun w => absurd (w.1.symm.trans cm2) (by decide))
  replace b2 := b2.2
  rw [v2, ah2, kmc_9] at b2
  have p3 := PR_fr f20.1.2.1 (by decide +kernel) p2.2.2.1
  have v3 : vwR H5 = vwR H0 := p3.2.1.trans v2
  have ah3 : absR H5 = (absR H1) := p3.1.trans ah2
  have i3 := f20.2
  unfold postb_216 at i3
  rw [f19] at i3
  have cm3 := f21
  have b3 := (isR_or (k := 10) p3.2.2.1 (by decide) i3).resolve_right (fun w => cm3 w.1)
  replace b3 := b3.2
  rw [v3, ah3, kmc_10] at b3
  exact absurd (b0.symm.trans b3) (by decide)
def g_236w_96_7 : vG := ([(31, [12], [], 0), (1216, [12, 1, 11], [4, 5], 0), (0, [11], [], 10), (30, [10], [], 0), (1216, [10, 1, 9], [3, 4], 0), (0, [9], [], 9), (30, [8], [], 0), (1216, [8, 1, 7], [2, 3], 0), (0, [7], [], 8), (45, [6, 2], [], 0), (20, [6, 1], [2], 12), (90, [6], [], 0), (91, [6], [], 7), (31, [5], [], 0), (1216, [5, 1, 4], [1, 2], 0), (0, [4], [], 7), (5000, [0, 1, 2, 3], [0, 1], 96), (0, [1], [], 285), (90, [2], [], 0), (91, [2], [], 7), (90, [3], [], -2147483648), (91, [3], [], 2147483647)], (4000, [1, 2, 13], [5], 187))
theorem c_236w_96_7 {q0 : Nat} : vOkm T0 (eN e_236 L_236w A_236 mu_236 n_236 B_236 (some q0)) 1 g_236w_96_7 := vOk_inI fun ρ η f0 f1 f2 f3 f4 f5 f6 f7 f8 f9 f10 f11 f12 f13 f14 f15 f16 f17 f18 f19 f20 f21 => q_236w_15 (q0 := q0) (n0 := ρ 3) (n1 := ρ 2) (n2 := ρ 1) (n3 := ρ 0) (n4 := ρ 4) (n5 := ρ 5) (n6 := ρ 6) (n7 := ρ 7) (n8 := ρ 8) (n9 := ρ 9) (n10 := ρ 10) (n11 := ρ 11) (n12 := ρ 12) (n13 := ρ 13) (H0 := η 0) (H1 := η 1) (H2 := η 2) (H3 := η 3) (H4 := η 4) (H5 := η 5) f21 f20 f19 f18 f17 f16 f15 f14 f13 f12 f11 f10 f9 f8 f7 f6 f5 f4 f3 f2 f1 f0
theorem q_236w_16 {q0 : Nat} {n0 n1 n2 n3 n4 n5 n6 n7 n8 n9 n10 n11 n12 n13 n14 n15 : Int} {H0 H1 H2 H3 H4 H5 H6 : gH} (f0 : n0 ≤ 2147483647) (f1 : (-2147483648) ≤ n0) (f2 : n1 ≤ 7) (f3 : 0 ≤ n1) (f4 : n2 = 285) (f5 : (hLe T0 H0 H1 ∧ hFr s_236.2.2.2.2 H0 H1 ∧ hWt T0 H1) ∧ ((Ab_236_96 n3 n2 n1 n0 H0 H1 ∧ Bb_236_96 n3 n2 n1 n0 H0 H1) ∧ preb_236 n3 H0) ∧ some q0 = some (mub_236_96 n3 n2 n1 n0 H0 H1)) (f6 : n4 = 7) (f7 : (hLe T0 H1 H2 ∧ hFr s_216.2.2.2.2 H1 H2 ∧ ((0 : Int) = 0 → H2.length = H1.length) ∧ hWt T0 H2) ∧ postb_216 n5 n2 n4 H1 H2) (f8 : n5 ≠ 0) (f9 : n6 ≤ 7) (f10 : 0 ≤ n6) (f11 : n6 = hV H2 (n2).toNat 12) (f12 : n6 ≤ n1) (f13 : n7 = 8) (f14 : (hLe T0 H2 H3 ∧ hFr s_216.2.2.2.2 H2 H3 ∧ ((0 : Int) = 0 → H3.length = H2.length) ∧ hWt T0 H3) ∧ postb_216 n8 n2 n7 H2 H3) (f15 : n8 = 0) (f16 : n9 = 9) (f17 : (hLe T0 H3 H4 ∧ hFr s_216.2.2.2.2 H3 H4 ∧ ((0 : Int) = 0 → H4.length = H3.length) ∧ hWt T0 H4) ∧ postb_216 n10 n2 n9 H3 H4) (f18 : n10 = 0) (f19 : n11 = 10) (f20 : (hLe T0 H4 H5 ∧ hFr s_216.2.2.2.2 H4 H5 ∧ ((0 : Int) = 0 → H5.length = H4.length) ∧ hWt T0 H5) ∧ postb_216 n12 n2 n11 H4 H5) (f21 : n12 = 0) (f22 : n13 = 15) (f23 : (hLe T0 H5 H6 ∧ hFr s_216.2.2.2.2 H5 H6 ∧ ((0 : Int) = 0 → H6.length = H5.length) ∧ hWt T0 H6) ∧ postb_216 n14 n2 n13 H5 H6) (f24 : n14 = 0) (f25 : n15 = 0) : Bb_236_187 n3 n2 n1 n15 H0 H6 := by
  unfold Bb_236_187
  intro z
  have ga := f5.2.1.1.2
  unfold Bb_236_96 at ga
  obtain ⟨z1, op, ye⟩ := ga z
  have vz : vwR H1 = vwR H0 := vwR_fr f5.1.2.1 (by decide +kernel)
  have d15 := rdS (q := 285) f11 f4
  have q11 := f8
  have q16 := f12
  have q21 := f15
  have q26 := f18
  have q31 := f21
  have q36 := f24
  have pr := f5.2.1.2
  unfold preb_236 at pr
  have ab := f5.2.1.1.1
  unfold Ab_236_96 at ab
  have hx1 : n1 = hV H0 285 12 := ab.2.2.2.1
  have hft : hV H0 285 13 ≤ hV H1 285 13 := ab.2.2.2.2.2.2.2.2.2.2
  have lo0 := z.2.2.2.1
  have rg0 := f0
  have rg1 := f1
  have rg2 := f2
  have rg3 := f3
  have g12 := f5.1.2.2 285 12 _ _ rW_12
  have f0 : hV H1 285 13 = 0 → n1 = 0 := fun c => by omega
  have rg12 := f9
  have rg13 := f10
  have p0 := PR_fr f7.1.2.1 (by decide +kernel) z1
  have v0 : vwR H2 = vwR H0 := p0.2.1.trans vz
  have ah0 : absR H2 = (absR H1) := p0.1
  have i0 := f7.2
  unfold postb_216 at i0
  rw [f6] at i0
  have cm0 := f8
  have b0 := (isR_or (k := 7) p0.2.2.1 (by decide) i0).resolve_right (fun w => cm0 w.1)
  replace b0 := b0.2
  rw [v0, ah0, kmc_7] at b0
  have p1 := PR_fr f14.1.2.1 (by decide +kernel) p0.2.2.1
  have v1 : vwR H3 = vwR H0 := p1.2.1.trans v0
  have ah1 : absR H3 = (absR H1) := p1.1.trans ah0
  have i1 := f14.2
  unfold postb_216 at i1
  rw [f13] at i1
  have cm1 := f15
  have b1 := (isR_or (k := 8) p1.2.2.1 (by decide) i1).resolve_left (fun w => absurd (w.1.symm.trans cm1) (by decide))
  replace b1 := b1.2
  rw [v1, ah1, kmc_8] at b1
  have p2 := PR_fr f17.1.2.1 (by decide +kernel) p1.2.2.1
  have v2 : vwR H4 = vwR H0 := p2.2.1.trans v1
  have ah2 : absR H4 = (absR H1) := p2.1.trans ah1
  have i2 := f17.2
  unfold postb_216 at i2
  rw [f16] at i2
  have cm2 := f18
  have b2 := (isR_or (k := 9) p2.2.2.1 (by decide) i2).resolve_left (fun w => absurd (w.1.symm.trans cm2) (by decide))
  replace b2 := b2.2
  rw [v2, ah2, kmc_9] at b2
  have p3 := PR_fr f20.1.2.1 (by decide +kernel) p2.2.2.1
  have v3 : vwR H5 = vwR H0 := p3.2.1.trans v2
  have ah3 : absR H5 = (absR H1) := p3.1.trans ah2
  have i3 := f20.2
  unfold postb_216 at i3
  rw [f19] at i3
  have cm3 := f21
  have b3 := (isR_or (k := 10) p3.2.2.1 (by decide) i3).resolve_left (fun w => absurd (w.1.symm.trans cm3) (by decide))
  replace b3 := b3.2
  rw [v3, ah3, kmc_10] at b3
  have p4 := PR_fr f23.1.2.1 (by decide +kernel) p3.2.2.1
  have v4 : vwR H6 = vwR H0 := p4.2.1.trans v3
  have ah4 : absR H6 = (absR H1) := p4.1.trans ah3
  have i4 := f23.2
  unfold postb_216 at i4
  rw [f22] at i4
  have cm4 := f24
  have b4 := (isR_or (k := 15) p4.2.2.1 (by decide) i4).resolve_left (fun w => absurd (w.1.symm.trans cm4) (by decide))
  replace b4 := b4.2
  rw [v4, ah4, kmc_15] at b4
  have lo1 := z1.2.2.2.1
  have h12 : hV H6 285 12 = hV H1 285 12 := (f23.1.2.1.1 285 12 (by decide +kernel)).trans ((f20.1.2.1.1 285 12 (by decide +kernel)).trans ((f17.1.2.1.1 285 12 (by decide +kernel)).trans ((f14.1.2.1.1 285 12 (by decide +kernel)).trans (f7.1.2.1.1 285 12 (by decide +kernel)))))
  have h13 : hV H6 285 13 = hV H1 285 13 := (f23.1.2.1.1 285 13 (by decide +kernel)).trans ((f20.1.2.1.1 285 13 (by decide +kernel)).trans ((f17.1.2.1.1 285 13 (by decide +kernel)).trans ((f14.1.2.1.1 285 13 (by decide +kernel)).trans (f7.1.2.1.1 285 13 (by decide +kernel)))))
  have e12_0 : n6 = hV H1 285 12 := by rw [d15, show hV H2 285 12 = hV H1 285 12 from f7.1.2.1.1 285 12 (by decide +kernel)]
  have cx := f25
  rw [h12, h13, ah4]
  refine ⟨p4.2.2.1, op, ye, fun c => by have := f0 (faultR_no z1 (kdR_pos b0 (by decide))); omega, fun c => absurd (cx.symm.trans c) (by decide), fun _ => by omega⟩
def g_236w_96_8 : vG := ([(0, [15], [], 0), (30, [14], [], 0), (1216, [14, 1, 13], [5, 6], 0), (0, [13], [], 15), (30, [12], [], 0), (1216, [12, 1, 11], [4, 5], 0), (0, [11], [], 10), (30, [10], [], 0), (1216, [10, 1, 9], [3, 4], 0), (0, [9], [], 9), (30, [8], [], 0), (1216, [8, 1, 7], [2, 3], 0), (0, [7], [], 8), (45, [6, 2], [], 0), (20, [6, 1], [2], 12), (90, [6], [], 0), (91, [6], [], 7), (31, [5], [], 0), (1216, [5, 1, 4], [1, 2], 0), (0, [4], [], 7), (5000, [0, 1, 2, 3], [0, 1], 96), (0, [1], [], 285), (90, [2], [], 0), (91, [2], [], 7), (90, [3], [], -2147483648), (91, [3], [], 2147483647)], (4000, [1, 2, 15], [6], 187))
theorem c_236w_96_8 {q0 : Nat} : vOkm T0 (eN e_236 L_236w A_236 mu_236 n_236 B_236 (some q0)) 1 g_236w_96_8 := vOk_inI fun ρ η f0 f1 f2 f3 f4 f5 f6 f7 f8 f9 f10 f11 f12 f13 f14 f15 f16 f17 f18 f19 f20 f21 f22 f23 f24 f25 => q_236w_16 (q0 := q0) (n0 := ρ 3) (n1 := ρ 2) (n2 := ρ 1) (n3 := ρ 0) (n4 := ρ 4) (n5 := ρ 5) (n6 := ρ 6) (n7 := ρ 7) (n8 := ρ 8) (n9 := ρ 9) (n10 := ρ 10) (n11 := ρ 11) (n12 := ρ 12) (n13 := ρ 13) (n14 := ρ 14) (n15 := ρ 15) (H0 := η 0) (H1 := η 1) (H2 := η 2) (H3 := η 3) (H4 := η 4) (H5 := η 5) (H6 := η 6) f25 f24 f23 f22 f21 f20 f19 f18 f17 f16 f15 f14 f13 f12 f11 f10 f9 f8 f7 f6 f5 f4 f3 f2 f1 f0
theorem q_236w_17 {q0 : Nat} {n0 n1 n2 n3 n4 n5 n6 n7 n8 n9 n10 n11 n12 n13 n14 n15 : Int} {H0 H1 H2 H3 H4 H5 H6 : gH} (f0 : n0 ≤ 2147483647) (f1 : (-2147483648) ≤ n0) (f2 : n1 ≤ 7) (f3 : 0 ≤ n1) (f4 : n2 = 285) (f5 : (hLe T0 H0 H1 ∧ hFr s_236.2.2.2.2 H0 H1 ∧ hWt T0 H1) ∧ ((Ab_236_96 n3 n2 n1 n0 H0 H1 ∧ Bb_236_96 n3 n2 n1 n0 H0 H1) ∧ preb_236 n3 H0) ∧ some q0 = some (mub_236_96 n3 n2 n1 n0 H0 H1)) (f6 : n4 = 7) (f7 : (hLe T0 H1 H2 ∧ hFr s_216.2.2.2.2 H1 H2 ∧ ((0 : Int) = 0 → H2.length = H1.length) ∧ hWt T0 H2) ∧ postb_216 n5 n2 n4 H1 H2) (f8 : n5 ≠ 0) (f9 : n6 ≤ 7) (f10 : 0 ≤ n6) (f11 : n6 = hV H2 (n2).toNat 12) (f12 : n6 ≤ n1) (f13 : n7 = 8) (f14 : (hLe T0 H2 H3 ∧ hFr s_216.2.2.2.2 H2 H3 ∧ ((0 : Int) = 0 → H3.length = H2.length) ∧ hWt T0 H3) ∧ postb_216 n8 n2 n7 H2 H3) (f15 : n8 = 0) (f16 : n9 = 9) (f17 : (hLe T0 H3 H4 ∧ hFr s_216.2.2.2.2 H3 H4 ∧ ((0 : Int) = 0 → H4.length = H3.length) ∧ hWt T0 H4) ∧ postb_216 n10 n2 n9 H3 H4) (f18 : n10 = 0) (f19 : n11 = 10) (f20 : (hLe T0 H4 H5 ∧ hFr s_216.2.2.2.2 H4 H5 ∧ ((0 : Int) = 0 → H5.length = H4.length) ∧ hWt T0 H5) ∧ postb_216 n12 n2 n11 H4 H5) (f21 : n12 = 0) (f22 : n13 = 15) (f23 : (hLe T0 H5 H6 ∧ hFr s_216.2.2.2.2 H5 H6 ∧ ((0 : Int) = 0 → H6.length = H5.length) ∧ hWt T0 H6) ∧ postb_216 n14 n2 n13 H5 H6) (f24 : n14 ≠ 0) : Bb_236_187 n3 n2 n1 n15 H0 H6 := by
  unfold Bb_236_187
  intro z
  have ga := f5.2.1.1.2
  unfold Bb_236_96 at ga
  obtain ⟨z1, op, ye⟩ := ga z
  have vz : vwR H1 = vwR H0 := vwR_fr f5.1.2.1 (by decide +kernel)
  have d15 := rdS (q := 285) f11 f4
  have q11 := f8
  have q16 := f12
  have q21 := f15
  have q26 := f18
  have q31 := f21
  have q36 := f24
  have pr := f5.2.1.2
  unfold preb_236 at pr
  have ab := f5.2.1.1.1
  unfold Ab_236_96 at ab
  have hx1 : n1 = hV H0 285 12 := ab.2.2.2.1
  have hft : hV H0 285 13 ≤ hV H1 285 13 := ab.2.2.2.2.2.2.2.2.2.2
  have lo0 := z.2.2.2.1
  have rg0 := f0
  have rg1 := f1
  have rg2 := f2
  have rg3 := f3
  have g12 := f5.1.2.2 285 12 _ _ rW_12
  have f0 : hV H1 285 13 = 0 → n1 = 0 := fun c => by omega
  have rg12 := f9
  have rg13 := f10
  have p0 := PR_fr f7.1.2.1 (by decide +kernel) z1
  have v0 : vwR H2 = vwR H0 := p0.2.1.trans vz
  have ah0 : absR H2 = (absR H1) := p0.1
  have i0 := f7.2
  unfold postb_216 at i0
  rw [f6] at i0
  have cm0 := f8
  have b0 := (isR_or (k := 7) p0.2.2.1 (by decide) i0).resolve_right (fun w => cm0 w.1)
  replace b0 := b0.2
  rw [v0, ah0, kmc_7] at b0
  have p1 := PR_fr f14.1.2.1 (by decide +kernel) p0.2.2.1
  have v1 : vwR H3 = vwR H0 := p1.2.1.trans v0
  have ah1 : absR H3 = (absR H1) := p1.1.trans ah0
  have i1 := f14.2
  unfold postb_216 at i1
  rw [f13] at i1
  have cm1 := f15
  have b1 := (isR_or (k := 8) p1.2.2.1 (by decide) i1).resolve_left (fun w => absurd (w.1.symm.trans cm1) (by decide))
  replace b1 := b1.2
  rw [v1, ah1, kmc_8] at b1
  have p2 := PR_fr f17.1.2.1 (by decide +kernel) p1.2.2.1
  have v2 : vwR H4 = vwR H0 := p2.2.1.trans v1
  have ah2 : absR H4 = (absR H1) := p2.1.trans ah1
  have i2 := f17.2
  unfold postb_216 at i2
  rw [f16] at i2
  have cm2 := f18
  have b2 := (isR_or (k := 9) p2.2.2.1 (by decide) i2).resolve_left (fun w => absurd (w.1.symm.trans cm2) (by decide))
  replace b2 := b2.2
  rw [v2, ah2, kmc_9] at b2
  have p3 := PR_fr f20.1.2.1 (by decide +kernel) p2.2.2.1
  have v3 : vwR H5 = vwR H0 := p3.2.1.trans v2
  have ah3 : absR H5 = (absR H1) := p3.1.trans ah2
  have i3 := f20.2
  unfold postb_216 at i3
  rw [f19] at i3
  have cm3 := f21
  have b3 := (isR_or (k := 10) p3.2.2.1 (by decide) i3).resolve_left (fun w => absurd (w.1.symm.trans cm3) (by decide))
  replace b3 := b3.2
  rw [v3, ah3, kmc_10] at b3
  have p4 := PR_fr f23.1.2.1 (by decide +kernel) p3.2.2.1
  have v4 : vwR H6 = vwR H0 := p4.2.1.trans v3
  have ah4 : absR H6 = (absR H1) := p4.1.trans ah3
  have i4 := f23.2
  unfold postb_216 at i4
  rw [f22] at i4
  have cm4 := f24
  have b4 := (isR_or (k := 15) p4.2.2.1 (by decide) i4).resolve_right (fun w => cm4 w.1)
  replace b4 := b4.2
  rw [v4, ah4, kmc_15] at b4
  exact absurd (b0.symm.trans b4) (by decide)
def g_236w_96_9 : vG := ([(31, [14], [], 0), (1216, [14, 1, 13], [5, 6], 0), (0, [13], [], 15), (30, [12], [], 0), (1216, [12, 1, 11], [4, 5], 0), (0, [11], [], 10), (30, [10], [], 0), (1216, [10, 1, 9], [3, 4], 0), (0, [9], [], 9), (30, [8], [], 0), (1216, [8, 1, 7], [2, 3], 0), (0, [7], [], 8), (45, [6, 2], [], 0), (20, [6, 1], [2], 12), (90, [6], [], 0), (91, [6], [], 7), (31, [5], [], 0), (1216, [5, 1, 4], [1, 2], 0), (0, [4], [], 7), (5000, [0, 1, 2, 3], [0, 1], 96), (0, [1], [], 285), (90, [2], [], 0), (91, [2], [], 7), (90, [3], [], -2147483648), (91, [3], [], 2147483647)], (4000, [1, 2, 15], [6], 187))
theorem c_236w_96_9 {q0 : Nat} : vOkm T0 (eN e_236 L_236w A_236 mu_236 n_236 B_236 (some q0)) 1 g_236w_96_9 := vOk_inI fun ρ η f0 f1 f2 f3 f4 f5 f6 f7 f8 f9 f10 f11 f12 f13 f14 f15 f16 f17 f18 f19 f20 f21 f22 f23 f24 => q_236w_17 (q0 := q0) (n0 := ρ 3) (n1 := ρ 2) (n2 := ρ 1) (n3 := ρ 0) (n4 := ρ 4) (n5 := ρ 5) (n6 := ρ 6) (n7 := ρ 7) (n8 := ρ 8) (n9 := ρ 9) (n10 := ρ 10) (n11 := ρ 11) (n12 := ρ 12) (n13 := ρ 13) (n14 := ρ 14) (n15 := ρ 15) (H0 := η 0) (H1 := η 1) (H2 := η 2) (H3 := η 3) (H4 := η 4) (H5 := η 5) (H6 := η 6) f24 f23 f22 f21 f20 f19 f18 f17 f16 f15 f14 f13 f12 f11 f10 f9 f8 f7 f6 f5 f4 f3 f2 f1 f0
theorem q_236w_18 {q0 : Nat} {n0 n1 n2 n3 n4 n5 n6 n7 n8 n10 n11 n12 n13 n14 n15 : Int} {H0 H1 H2 H3 H4 H5 H6 : gH} (f0 : n0 ≤ 2147483647) (f1 : (-2147483648) ≤ n0) (f2 : n1 ≤ 7) (f3 : 0 ≤ n1) (f4 : n2 = 285) (f5 : (hLe T0 H0 H1 ∧ hFr s_236.2.2.2.2 H0 H1 ∧ hWt T0 H1) ∧ ((Ab_236_96 n3 n2 n1 n0 H0 H1 ∧ Bb_236_96 n3 n2 n1 n0 H0 H1) ∧ preb_236 n3 H0) ∧ some q0 = some (mub_236_96 n3 n2 n1 n0 H0 H1)) (f6 : n4 = 7) (f7 : (hLe T0 H1 H2 ∧ hFr s_216.2.2.2.2 H1 H2 ∧ ((0 : Int) = 0 → H2.length = H1.length) ∧ hWt T0 H2) ∧ postb_216 n5 n2 n4 H1 H2) (f8 : n5 ≠ 0) (f9 : n6 ≤ 7) (f10 : 0 ≤ n6) (f11 : n6 = hV H2 (n2).toNat 12) (f12 : n1 < n6) (f13 : (hLe T0 H2 H3 ∧ hFr s_235.2.2.2.2 H2 H3 ∧ ((0 : Int) = 0 → H3.length = H2.length) ∧ hWt T0 H3) ∧ postb_235 n2 n7 H2 H3) (f14 : n8 ≤ 64) (f15 : 0 ≤ n8) (f16 : n8 = hV H3 (n2).toNat 55) (f17 : n11 = 55) (f18 : hUpd H4 H3 n2 n11 n10) (f19 : n12 ≤ 7) (f20 : 0 ≤ n12) (f21 : n12 = hV H4 (n2).toNat 12) (f22 : n13 = 1) (f23 : n14 = w32 (n12 - n13)) (f24 : n15 = 12) (f25 : hUpd H5 H4 n2 n15 n14) (f26 : (hLe T0 H5 H6 ∧ hFr s_219.2.2.2.2 H5 H6 ∧ ((0 : Int) = 0 → H6.length = H5.length) ∧ hWt T0 H6) ∧ (postb_219 n2 H5 H6 ∧ nb_219 n2 H5 H6)) : Bb_236_96 n3 n2 n1 n0 H0 H6 := by
  unfold Bb_236_96
  intro z
  have ga := f5.2.1.1.2
  unfold Bb_236_96 at ga
  obtain ⟨z1, op, ye⟩ := ga z
  have vz : vwR H1 = vwR H0 := vwR_fr f5.1.2.1 (by decide +kernel)
  have d15 := rdS (q := 285) f11 f4
  have d22 := rdS (q := 285) f16 f4
  have d31 := rdS (q := 285) f21 f4
  have q11 := f8
  have q16 := f12
  have pr := f5.2.1.2
  unfold preb_236 at pr
  have ab := f5.2.1.1.1
  unfold Ab_236_96 at ab
  have hx1 : n1 = hV H0 285 12 := ab.2.2.2.1
  have hft : hV H0 285 13 ≤ hV H1 285 13 := ab.2.2.2.2.2.2.2.2.2.2
  have lo0 := z.2.2.2.1
  have rg0 := f0
  have rg1 := f1
  have rg2 := f2
  have rg3 := f3
  have g12 := f5.1.2.2 285 12 _ _ rW_12
  have f0 : hV H1 285 13 = 0 → n1 = 0 := fun c => by omega
  have rg12 := f9
  have rg13 := f10
  have rg19 := f14
  have rg20 := f15
  have rg28 := f19
  have rg29 := f20
  have p0 := PR_fr f7.1.2.1 (by decide +kernel) z1
  have v0 : vwR H2 = vwR H0 := p0.2.1.trans vz
  have ah0 : absR H2 = (absR H1) := p0.1
  have i0 := f7.2
  unfold postb_216 at i0
  rw [f6] at i0
  have cm0 := f8
  have b0 := (isR_or (k := 7) p0.2.2.1 (by decide) i0).resolve_right (fun w => cm0 w.1)
  replace b0 := b0.2
  rw [v0, ah0, kmc_7] at b0
  have p1 := PR_fr f13.1.2.1 (by decide +kernel) p0.2.2.1
  have v1 : vwR H3 = vwR H0 := p1.2.1.trans v0
  have ah1 : absR H3 = (absR H1) := p1.1.trans ah0
  have p2 := PR_slot (s := 55) f18 f4 f17 (by decide) p1.2.2.1
  have v2 : vwR H4 = vwR H0 := p2.2.1.trans v1
  have ah2 : absR H4 = (absR H1) := p2.1.trans ah1
  have p3 := PR_slot (s := 12) f25 f4 f24 (by decide) p2.2.2.1
  have v3 : vwR H5 = vwR H0 := p3.2.1.trans v2
  have ah3 : absR H5 = (absR H1) := p3.1.trans ah2
  have c4 := f26.2.2 p3.2.2.1 (by rw [v3, ah3]; rw [b0]; decide)
  rw [v3, ah3, b0] at c4
  have v4 : vwR H6 = vwR H0 := (vwR_fr f26.1.2.1 (by decide +kernel)).trans v3
  have fz := faultR_no z1 (kdR_pos b0 (by decide))
  have r5 := absR_500 z1 fz
  have op1 := op fz
  have e12_0 : n6 = hV H1 285 12 := by rw [d15, show hV H2 285 12 = hV H1 285 12 from f7.1.2.1.1 285 12 (by decide +kernel)]
  have e12_1 : n12 = hV H1 285 12 := by rw [d31, show hV H4 285 12 = hV H1 285 12 from (uSlot f18 285 12 (by rw [f17]; decide)).trans ((f13.1.2.1.1 285 12 (by decide +kernel)).trans (f7.1.2.1.1 285 12 (by decide +kernel)))]
  have s33 : n14 = n12 - 1 := by
    have q := f23
    rw [f22] at q
    rw [q]
    exact w32_id (by omega) (by omega)
  have h12 : hV H6 285 12 = n14 := (f26.1.2.1.1 285 12 (by decide +kernel)).trans (uSame f25 285 12 (by rw [f4]; rfl) (by rw [f24]; rfl))
  have x0 := f0 fz
  rw [pE_go0 r5.1 r5.2 b0, if_pos ⟨rfl, by omega⟩, pE_st z (absR_ok z1) r5.1] at ye
  refine ⟨c4.1, fun _ => by omega, ?_⟩
  rw [c4.2, show hV H6 285 12 = hV H1 285 12 - 1 by omega]
  exact ye
def g_236w_96_10 : vG := ([(1219, [1], [5, 6], 0), (80, [1, 15, 14], [5, 4], 0), (0, [15], [], 12), (2, [14, 12, 13], [], 0), (0, [13], [], 1), (20, [12, 1], [4], 12), (90, [12], [], 0), (91, [12], [], 7), (80, [1, 11, 10], [4, 3], 0), (0, [11], [], 55), (20, [8, 1], [3], 55), (90, [8], [], 0), (91, [8], [], 64), (1235, [1, 7], [2, 3], 0), (44, [6, 2], [], 0), (20, [6, 1], [2], 12), (90, [6], [], 0), (91, [6], [], 7), (31, [5], [], 0), (1216, [5, 1, 4], [1, 2], 0), (0, [4], [], 7), (5000, [0, 1, 2, 3], [0, 1], 96), (0, [1], [], 285), (90, [2], [], 0), (91, [2], [], 7), (90, [3], [], -2147483648), (91, [3], [], 2147483647)], (4000, [1, 2, 3], [6], 96))
theorem c_236w_96_10 {q0 : Nat} : vOkm T0 (eN e_236 L_236w A_236 mu_236 n_236 B_236 (some q0)) 1 g_236w_96_10 := vOk_inI fun ρ η f0 f1 f2 f3 f4 f5 f6 f7 f8 f9 f10 f11 f12 f13 f14 f15 f16 f17 f18 f19 f20 f21 f22 f23 f24 f25 f26 => q_236w_18 (q0 := q0) (n0 := ρ 3) (n1 := ρ 2) (n2 := ρ 1) (n3 := ρ 0) (n4 := ρ 4) (n5 := ρ 5) (n6 := ρ 6) (n7 := ρ 7) (n8 := ρ 8) (n10 := ρ 10) (n11 := ρ 11) (n12 := ρ 12) (n13 := ρ 13) (n14 := ρ 14) (n15 := ρ 15) (H0 := η 0) (H1 := η 1) (H2 := η 2) (H3 := η 3) (H4 := η 4) (H5 := η 5) (H6 := η 6) f26 f25 f24 f23 f22 f21 f20 f19 f18 f17 f16 f15 f14 f13 f12 f11 f10 f9 f8 f7 f6 f5 f4 f3 f2 f1 f0
def p_236w_96 : List vG := [g_236w_96_0,
  g_236w_96_1,
  g_236w_96_2,
  g_236w_96_3,
  g_236w_96_4,
  g_236w_96_5,
  g_236w_96_6,
  g_236w_96_7,
  g_236w_96_8,
  g_236w_96_9,
  g_236w_96_10]
theorem r_236w_96 : vCovBO (eRc e_236 L_236 cs_236 2000 (96, [(0, (3, 12, 285, 0)), (1, (0, 0, 7, 0)), (2, (0, -2147483648, 2147483647, 0))])) p_236w_96 = true := by decide +kernel
theorem q_236w_19 {q0 : Nat} {n0 n1 n2 n3 n4 n5 n6 n7 n8 n9 n10 n11 n12 n14 n15 : Int} {H0 H1 H2 H3 H4 H5 H6 : gH} (f0 : n0 ≤ 1) (f1 : 0 ≤ n0) (f2 : n1 ≤ 7) (f3 : 0 ≤ n1) (f4 : n2 = 285) (f5 : (hLe T0 H0 H1 ∧ hFr s_236.2.2.2.2 H0 H1 ∧ hWt T0 H1) ∧ ((Ab_236_187 n3 n2 n1 n0 H0 H1 ∧ Bb_236_187 n3 n2 n1 n0 H0 H1) ∧ preb_236 n3 H0) ∧ some q0 = some (mub_236_187 n3 n2 n1 n0 H0 H1)) (f6 : n0 ≠ 0) (f7 : n4 = 10) (f8 : (hLe T0 H1 H2 ∧ hFr s_216.2.2.2.2 H1 H2 ∧ ((0 : Int) = 0 → H2.length = H1.length) ∧ hWt T0 H2) ∧ postb_216 n5 n2 n4 H1 H2) (f9 : n5 ≠ 0) (f10 : (hLe T0 H2 H3 ∧ hFr s_235.2.2.2.2 H2 H3 ∧ ((0 : Int) = 0 → H3.length = H2.length) ∧ hWt T0 H3) ∧ postb_235 n2 n6 H2 H3) (f11 : n7 = 322) (f12 : n8 ≤ 64) (f13 : 0 ≤ n8) (f14 : n8 = hV H3 (n2).toNat 55) (f15 : n9 = 288) (f16 : n10 = hV H3 (n2).toNat 11) (f17 : n11 = hV H3 (n9).toNat (n10).toNat) (f18 : hUpd H4 H3 n7 n8 n11) (f19 : n12 ≤ 64) (f20 : 0 ≤ n12) (f21 : n12 = hV H4 (n2).toNat 55) (f22 : n15 = 55) (f23 : hUpd H5 H4 n2 n15 n14) (f24 : (hLe T0 H5 H6 ∧ hFr s_219.2.2.2.2 H5 H6 ∧ ((0 : Int) = 0 → H6.length = H5.length) ∧ hWt T0 H6) ∧ (postb_219 n2 H5 H6 ∧ nb_219 n2 H5 H6)) : Bb_236_12 n3 n2 n1 n0 H0 H6 := by
  unfold Bb_236_12
  intro z
  have ga := f5.2.1.1.2
  unfold Bb_236_187 at ga
  obtain ⟨z1, op, ye, nc, s1, s0⟩ := ga z
  have vz : vwR H1 = vwR H0 := vwR_fr f5.1.2.1 (by decide +kernel)
  have d21 := rdS (q := 285) f14 f4
  have d28 := rdS (q := 285) f16 f4
  have d31 := rdW (q := 288) f17 f15
  have d37 := rdS (q := 285) f21 f4
  have q7 := f6
  have q12 := f9
  have pr := f5.2.1.2
  unfold preb_236 at pr
  have ab := f5.2.1.1.1
  unfold Ab_236_187 at ab
  have hx1 : n1 = hV H0 285 12 := ab.2.2.2.1
  have hft : hV H0 285 13 ≤ hV H1 285 13 := ab.2.2.2.2.2.2.2.2.2.2.1
  have lo0 := z.2.2.2.1
  have rg0 := f0
  have rg1 := f1
  have rg2 := f2
  have rg3 := f3
  have g12 := f5.1.2.2 285 12 _ _ rW_12
  have f0 : hV H1 285 13 = 0 → n1 = 0 := fun c => by omega
  have rg18 := f12
  have rg19 := f13
  have rg34 := f19
  have rg35 := f20
  have s1_ := s1 (by omega)
  have kd : (vwR H0).1 (absR H1).1 = (vwR H0).1 (absR H1).1 := rfl
  have p0 := PR_fr f8.1.2.1 (by decide +kernel) z1
  have v0 : vwR H2 = vwR H0 := p0.2.1.trans vz
  have ah0 : absR H2 = (absR H1) := p0.1
  have i0 := f8.2
  unfold postb_216 at i0
  rw [f7] at i0
  have cm0 := f9
  have b0 := (isR_or (k := 10) p0.2.2.1 (by decide) i0).resolve_right (fun w => cm0 w.1)
  replace b0 := b0.2
  rw [v0, ah0, kmc_10] at b0
  have p1 := PR_fr f10.1.2.1 (by decide +kernel) p0.2.2.1
  have v1 : vwR H3 = vwR H0 := p1.2.1.trans v0
  have ah1 : absR H3 = (absR H1) := p1.1.trans ah0
  have p2 := PR_row (q := 322) f18 f11 (by decide) p1.2.2.1
  have v2 : vwR H4 = vwR H0 := p2.2.1.trans v1
  have ah2 : absR H4 = (absR H1) := p2.1.trans ah1
  have p3 := PR_slot (s := 55) f23 f4 f22 (by decide) p2.2.2.1
  have v3 : vwR H5 = vwR H0 := p3.2.1.trans v2
  have ah3 : absR H5 = (absR H1) := p3.1.trans ah2
  have c4 := f24.2.2 p3.2.2.1 (by rw [v3, ah3]; rw [b0]; decide)
  rw [v3, ah3, b0] at c4
  have v4 : vwR H6 = vwR H0 := (vwR_fr f24.1.2.1 (by decide +kernel)).trans v3
  have fz := faultR_no z1 (kdR_pos kd (by omega))
  have r5 := absR_500 z1 fz
  have h12 : hV H6 285 12 = hV H1 285 12 := (f24.1.2.1.1 285 12 (by decide +kernel)).trans ((uSlot f23 285 12 (by rw [f22]; decide)).trans ((uPlace f18 285 12 (by rw [f11]; decide)).trans ((f10.1.2.1.1 285 12 (by decide +kernel)).trans (f8.1.2.1.1 285 12 (by decide +kernel)))))
  rw [pE_go0 r5.1 r5.2 rfl, if_neg nc, if_pos s1_, pE_st z (absR_ok z1) r5.1] at ye
  rw [b0] at ye
  refine ⟨c4.1, fun _ => by rw [h12]; exact op fz, ?_⟩
  rw [h12, c4.2]
  exact ye
def g_236w_187_0 : vG := ([(1219, [1], [5, 6], 0), (80, [1, 15, 14], [5, 4], 0), (0, [15], [], 55), (20, [12, 1], [4], 55), (90, [12], [], 0), (91, [12], [], 64), (80, [7, 8, 11], [4, 3], 0), (22, [11, 9, 10], [3], 0), (20, [10, 1], [3], 11), (0, [9], [], 288), (20, [8, 1], [3], 55), (90, [8], [], 0), (91, [8], [], 64), (0, [7], [], 322), (1235, [1, 6], [2, 3], 0), (31, [5], [], 0), (1216, [5, 1, 4], [1, 2], 0), (0, [4], [], 10), (31, [3], [], 0), (5000, [0, 1, 2, 3], [0, 1], 187), (0, [1], [], 285), (90, [2], [], 0), (91, [2], [], 7), (90, [3], [], 0), (91, [3], [], 1)], (4000, [1, 2, 3], [6], 12))
theorem c_236w_187_0 {q0 : Nat} : vOkm T0 (eN e_236 L_236w A_236 mu_236 n_236 B_236 (some q0)) 1 g_236w_187_0 := vOk_inI fun ρ η f0 f1 f2 f3 f4 f5 f6 f7 f8 f9 f10 f11 f12 f13 f14 f15 f16 f17 f18 f19 f20 f21 f22 f23 f24 => q_236w_19 (q0 := q0) (n0 := ρ 3) (n1 := ρ 2) (n2 := ρ 1) (n3 := ρ 0) (n4 := ρ 4) (n5 := ρ 5) (n6 := ρ 6) (n7 := ρ 7) (n8 := ρ 8) (n9 := ρ 9) (n10 := ρ 10) (n11 := ρ 11) (n12 := ρ 12) (n14 := ρ 14) (n15 := ρ 15) (H0 := η 0) (H1 := η 1) (H2 := η 2) (H3 := η 3) (H4 := η 4) (H5 := η 5) (H6 := η 6) f24 f23 f22 f21 f20 f19 f18 f17 f16 f15 f14 f13 f12 f11 f10 f9 f8 f7 f6 f5 f4 f3 f2 f1 f0
theorem q_236w_20 {q0 : Nat} {n0 n1 n2 n3 n4 n5 n6 n7 n8 n9 n10 n11 n12 n13 n14 n16 n17 : Int} {H0 H1 H2 H3 H4 H5 H6 H7 : gH} (f0 : n0 ≤ 1) (f1 : 0 ≤ n0) (f2 : n1 ≤ 7) (f3 : 0 ≤ n1) (f4 : n2 = 285) (f5 : (hLe T0 H0 H1 ∧ hFr s_236.2.2.2.2 H0 H1 ∧ hWt T0 H1) ∧ ((Ab_236_187 n3 n2 n1 n0 H0 H1 ∧ Bb_236_187 n3 n2 n1 n0 H0 H1) ∧ preb_236 n3 H0) ∧ some q0 = some (mub_236_187 n3 n2 n1 n0 H0 H1)) (f6 : n0 ≠ 0) (f7 : n4 = 10) (f8 : (hLe T0 H1 H2 ∧ hFr s_216.2.2.2.2 H1 H2 ∧ ((0 : Int) = 0 → H2.length = H1.length) ∧ hWt T0 H2) ∧ postb_216 n5 n2 n4 H1 H2) (f9 : n5 = 0) (f10 : n6 = 15) (f11 : (hLe T0 H2 H3 ∧ hFr s_216.2.2.2.2 H2 H3 ∧ ((0 : Int) = 0 → H3.length = H2.length) ∧ hWt T0 H3) ∧ postb_216 n7 n2 n6 H2 H3) (f12 : n7 = 0) (f13 : (hLe T0 H3 H4 ∧ hFr s_235.2.2.2.2 H3 H4 ∧ ((0 : Int) = 0 → H4.length = H3.length) ∧ hWt T0 H4) ∧ postb_235 n2 n8 H3 H4) (f14 : n9 = 322) (f15 : n10 ≤ 64) (f16 : 0 ≤ n10) (f17 : n10 = hV H4 (n2).toNat 55) (f18 : n11 = 288) (f19 : n12 = hV H4 (n2).toNat 11) (f20 : n13 = hV H4 (n11).toNat (n12).toNat) (f21 : hUpd H5 H4 n9 n10 n13) (f22 : n14 ≤ 64) (f23 : 0 ≤ n14) (f24 : n14 = hV H5 (n2).toNat 55) (f25 : n17 = 55) (f26 : hUpd H6 H5 n2 n17 n16) (f27 : (hLe T0 H6 H7 ∧ hFr s_219.2.2.2.2 H6 H7 ∧ ((0 : Int) = 0 → H7.length = H6.length) ∧ hWt T0 H7) ∧ (postb_219 n2 H6 H7 ∧ nb_219 n2 H6 H7)) : Bb_236_12 n3 n2 n1 n0 H0 H7 := by
  unfold Bb_236_12
  intro z
  have ga := f5.2.1.1.2
  unfold Bb_236_187 at ga
  obtain ⟨z1, op, ye, nc, s1, s0⟩ := ga z
  have vz : vwR H1 = vwR H0 := vwR_fr f5.1.2.1 (by decide +kernel)
  have d26 := rdS (q := 285) f17 f4
  have d33 := rdS (q := 285) f19 f4
  have d36 := rdW (q := 288) f20 f18
  have d42 := rdS (q := 285) f24 f4
  have q7 := f6
  have q12 := f9
  have q17 := f12
  have pr := f5.2.1.2
  unfold preb_236 at pr
  have ab := f5.2.1.1.1
  unfold Ab_236_187 at ab
  have hx1 : n1 = hV H0 285 12 := ab.2.2.2.1
  have hft : hV H0 285 13 ≤ hV H1 285 13 := ab.2.2.2.2.2.2.2.2.2.2.1
  have lo0 := z.2.2.2.1
  have rg0 := f0
  have rg1 := f1
  have rg2 := f2
  have rg3 := f3
  have g12 := f5.1.2.2 285 12 _ _ rW_12
  have f0 : hV H1 285 13 = 0 → n1 = 0 := fun c => by omega
  have rg23 := f15
  have rg24 := f16
  have rg39 := f22
  have rg40 := f23
  have s1_ := s1 (by omega)
  have kd : (vwR H0).1 (absR H1).1 = (vwR H0).1 (absR H1).1 := rfl
  have p0 := PR_fr f8.1.2.1 (by decide +kernel) z1
  have v0 : vwR H2 = vwR H0 := p0.2.1.trans vz
  have ah0 : absR H2 = (absR H1) := p0.1
  have i0 := f8.2
  unfold postb_216 at i0
  rw [f7] at i0
  have cm0 := f9
  have b0 := (isR_or (k := 10) p0.2.2.1 (by decide) i0).resolve_left (fun w => absurd (w.1.symm.trans cm0) (by decide))
  replace b0 := b0.2
  rw [v0, ah0, kmc_10] at b0
  have p1 := PR_fr f11.1.2.1 (by decide +kernel) p0.2.2.1
  have v1 : vwR H3 = vwR H0 := p1.2.1.trans v0
  have ah1 : absR H3 = (absR H1) := p1.1.trans ah0
  have i1 := f11.2
  unfold postb_216 at i1
  rw [f10] at i1
  have cm1 := f12
  have b1 := (isR_or (k := 15) p1.2.2.1 (by decide) i1).resolve_left (fun w => absurd (w.1.symm.trans cm1) (by decide))
  replace b1 := b1.2
  rw [v1, ah1, kmc_15] at b1
  have p2 := PR_fr f13.1.2.1 (by decide +kernel) p1.2.2.1
  have v2 : vwR H4 = vwR H0 := p2.2.1.trans v1
  have ah2 : absR H4 = (absR H1) := p2.1.trans ah1
  have p3 := PR_row (q := 322) f21 f14 (by decide) p2.2.2.1
  have v3 : vwR H5 = vwR H0 := p3.2.1.trans v2
  have ah3 : absR H5 = (absR H1) := p3.1.trans ah2
  have p4 := PR_slot (s := 55) f26 f4 f25 (by decide) p3.2.2.1
  have v4 : vwR H6 = vwR H0 := p4.2.1.trans v3
  have ah4 : absR H6 = (absR H1) := p4.1.trans ah3
  have c5 := f27.2.2 p4.2.2.1 (by rw [v4, ah4]; rw [kd]; omega)
  rw [v4, ah4, kd] at c5
  have v5 : vwR H7 = vwR H0 := (vwR_fr f27.1.2.1 (by decide +kernel)).trans v4
  have fz := faultR_no z1 (kdR_pos kd (by omega))
  have r5 := absR_500 z1 fz
  have h12 : hV H7 285 12 = hV H1 285 12 := (f27.1.2.1.1 285 12 (by decide +kernel)).trans ((uSlot f26 285 12 (by rw [f25]; decide)).trans ((uPlace f21 285 12 (by rw [f14]; decide)).trans ((f13.1.2.1.1 285 12 (by decide +kernel)).trans ((f11.1.2.1.1 285 12 (by decide +kernel)).trans (f8.1.2.1.1 285 12 (by decide +kernel))))))
  rw [pE_go0 r5.1 r5.2 rfl, if_neg nc, if_pos s1_, pE_st z (absR_ok z1) r5.1] at ye
  refine ⟨c5.1, fun _ => by rw [h12]; exact op fz, ?_⟩
  rw [h12, c5.2]
  exact ye
def g_236w_187_1 : vG := ([(1219, [1], [6, 7], 0), (80, [1, 17, 16], [6, 5], 0), (0, [17], [], 55), (20, [14, 1], [5], 55), (90, [14], [], 0), (91, [14], [], 64), (80, [9, 10, 13], [5, 4], 0), (22, [13, 11, 12], [4], 0), (20, [12, 1], [4], 11), (0, [11], [], 288), (20, [10, 1], [4], 55), (90, [10], [], 0), (91, [10], [], 64), (0, [9], [], 322), (1235, [1, 8], [3, 4], 0), (30, [7], [], 0), (1216, [7, 1, 6], [2, 3], 0), (0, [6], [], 15), (30, [5], [], 0), (1216, [5, 1, 4], [1, 2], 0), (0, [4], [], 10), (31, [3], [], 0), (5000, [0, 1, 2, 3], [0, 1], 187), (0, [1], [], 285), (90, [2], [], 0), (91, [2], [], 7), (90, [3], [], 0), (91, [3], [], 1)], (4000, [1, 2, 3], [7], 12))
theorem c_236w_187_1 {q0 : Nat} : vOkm T0 (eN e_236 L_236w A_236 mu_236 n_236 B_236 (some q0)) 1 g_236w_187_1 := vOk_inI fun ρ η f0 f1 f2 f3 f4 f5 f6 f7 f8 f9 f10 f11 f12 f13 f14 f15 f16 f17 f18 f19 f20 f21 f22 f23 f24 f25 f26 f27 => q_236w_20 (q0 := q0) (n0 := ρ 3) (n1 := ρ 2) (n2 := ρ 1) (n3 := ρ 0) (n4 := ρ 4) (n5 := ρ 5) (n6 := ρ 6) (n7 := ρ 7) (n8 := ρ 8) (n9 := ρ 9) (n10 := ρ 10) (n11 := ρ 11) (n12 := ρ 12) (n13 := ρ 13) (n14 := ρ 14) (n16 := ρ 16) (n17 := ρ 17) (H0 := η 0) (H1 := η 1) (H2 := η 2) (H3 := η 3) (H4 := η 4) (H5 := η 5) (H6 := η 6) (H7 := η 7) f27 f26 f25 f24 f23 f22 f21 f20 f19 f18 f17 f16 f15 f14 f13 f12 f11 f10 f9 f8 f7 f6 f5 f4 f3 f2 f1 f0
theorem q_236w_21 {q0 : Nat} {n0 n1 n2 n3 n4 n5 n6 n7 n8 n9 n10 n11 n12 n13 n14 n16 n17 : Int} {H0 H1 H2 H3 H4 H5 H6 H7 : gH} (f0 : n0 ≤ 1) (f1 : 0 ≤ n0) (f2 : n1 ≤ 7) (f3 : 0 ≤ n1) (f4 : n2 = 285) (f5 : (hLe T0 H0 H1 ∧ hFr s_236.2.2.2.2 H0 H1 ∧ hWt T0 H1) ∧ ((Ab_236_187 n3 n2 n1 n0 H0 H1 ∧ Bb_236_187 n3 n2 n1 n0 H0 H1) ∧ preb_236 n3 H0) ∧ some q0 = some (mub_236_187 n3 n2 n1 n0 H0 H1)) (f6 : n0 ≠ 0) (f7 : n4 = 10) (f8 : (hLe T0 H1 H2 ∧ hFr s_216.2.2.2.2 H1 H2 ∧ ((0 : Int) = 0 → H2.length = H1.length) ∧ hWt T0 H2) ∧ postb_216 n5 n2 n4 H1 H2) (f9 : n5 = 0) (f10 : n6 = 15) (f11 : (hLe T0 H2 H3 ∧ hFr s_216.2.2.2.2 H2 H3 ∧ ((0 : Int) = 0 → H3.length = H2.length) ∧ hWt T0 H3) ∧ postb_216 n7 n2 n6 H2 H3) (f12 : n7 ≠ 0) (f13 : (hLe T0 H3 H4 ∧ hFr s_235.2.2.2.2 H3 H4 ∧ ((0 : Int) = 0 → H4.length = H3.length) ∧ hWt T0 H4) ∧ postb_235 n2 n8 H3 H4) (f14 : n9 = 322) (f15 : n10 ≤ 64) (f16 : 0 ≤ n10) (f17 : n10 = hV H4 (n2).toNat 55) (f18 : n11 = 288) (f19 : n12 = hV H4 (n2).toNat 11) (f20 : n13 = hV H4 (n11).toNat (n12).toNat) (f21 : hUpd H5 H4 n9 n10 n13) (f22 : n14 ≤ 64) (f23 : 0 ≤ n14) (f24 : n14 = hV H5 (n2).toNat 55) (f25 : n17 = 55) (f26 : hUpd H6 H5 n2 n17 n16) (f27 : (hLe T0 H6 H7 ∧ hFr s_219.2.2.2.2 H6 H7 ∧ ((0 : Int) = 0 → H7.length = H6.length) ∧ hWt T0 H7) ∧ (postb_219 n2 H6 H7 ∧ nb_219 n2 H6 H7)) : Bb_236_12 n3 n2 n1 n0 H0 H7 := by
  unfold Bb_236_12
  intro z
  have ga := f5.2.1.1.2
  unfold Bb_236_187 at ga
  obtain ⟨z1, op, ye, nc, s1, s0⟩ := ga z
  have vz : vwR H1 = vwR H0 := vwR_fr f5.1.2.1 (by decide +kernel)
  have d26 := rdS (q := 285) f17 f4
  have d33 := rdS (q := 285) f19 f4
  have d36 := rdW (q := 288) f20 f18
  have d42 := rdS (q := 285) f24 f4
  have q7 := f6
  have q12 := f9
  have q17 := f12
  have pr := f5.2.1.2
  unfold preb_236 at pr
  have ab := f5.2.1.1.1
  unfold Ab_236_187 at ab
  have hx1 : n1 = hV H0 285 12 := ab.2.2.2.1
  have hft : hV H0 285 13 ≤ hV H1 285 13 := ab.2.2.2.2.2.2.2.2.2.2.1
  have lo0 := z.2.2.2.1
  have rg0 := f0
  have rg1 := f1
  have rg2 := f2
  have rg3 := f3
  have g12 := f5.1.2.2 285 12 _ _ rW_12
  have f0 : hV H1 285 13 = 0 → n1 = 0 := fun c => by omega
  have rg23 := f15
  have rg24 := f16
  have rg39 := f22
  have rg40 := f23
  have s1_ := s1 (by omega)
  have kd : (vwR H0).1 (absR H1).1 = (vwR H0).1 (absR H1).1 := rfl
  have p0 := PR_fr f8.1.2.1 (by decide +kernel) z1
  have v0 : vwR H2 = vwR H0 := p0.2.1.trans vz
  have ah0 : absR H2 = (absR H1) := p0.1
  have i0 := f8.2
  unfold postb_216 at i0
  rw [f7] at i0
  have cm0 := f9
  have b0 := (isR_or (k := 10) p0.2.2.1 (by decide) i0).resolve_left (fun w => absurd (w.1.symm.trans cm0) (by decide))
  replace b0 := b0.2
  rw [v0, ah0, kmc_10] at b0
  have p1 := PR_fr f11.1.2.1 (by decide +kernel) p0.2.2.1
  have v1 : vwR H3 = vwR H0 := p1.2.1.trans v0
  have ah1 : absR H3 = (absR H1) := p1.1.trans ah0
  have i1 := f11.2
  unfold postb_216 at i1
  rw [f10] at i1
  have cm1 := f12
  have b1 := (isR_or (k := 15) p1.2.2.1 (by decide) i1).resolve_right (fun w => cm1 w.1)
  replace b1 := b1.2
  rw [v1, ah1, kmc_15] at b1
  have p2 := PR_fr f13.1.2.1 (by decide +kernel) p1.2.2.1
  have v2 : vwR H4 = vwR H0 := p2.2.1.trans v1
  have ah2 : absR H4 = (absR H1) := p2.1.trans ah1
  have p3 := PR_row (q := 322) f21 f14 (by decide) p2.2.2.1
  have v3 : vwR H5 = vwR H0 := p3.2.1.trans v2
  have ah3 : absR H5 = (absR H1) := p3.1.trans ah2
  have p4 := PR_slot (s := 55) f26 f4 f25 (by decide) p3.2.2.1
  have v4 : vwR H6 = vwR H0 := p4.2.1.trans v3
  have ah4 : absR H6 = (absR H1) := p4.1.trans ah3
  have c5 := f27.2.2 p4.2.2.1 (by rw [v4, ah4]; rw [b1]; decide)
  rw [v4, ah4, b1] at c5
  have v5 : vwR H7 = vwR H0 := (vwR_fr f27.1.2.1 (by decide +kernel)).trans v4
  have fz := faultR_no z1 (kdR_pos kd (by omega))
  have r5 := absR_500 z1 fz
  have h12 : hV H7 285 12 = hV H1 285 12 := (f27.1.2.1.1 285 12 (by decide +kernel)).trans ((uSlot f26 285 12 (by rw [f25]; decide)).trans ((uPlace f21 285 12 (by rw [f14]; decide)).trans ((f13.1.2.1.1 285 12 (by decide +kernel)).trans ((f11.1.2.1.1 285 12 (by decide +kernel)).trans (f8.1.2.1.1 285 12 (by decide +kernel))))))
  rw [pE_go0 r5.1 r5.2 rfl, if_neg nc, if_pos s1_, pE_st z (absR_ok z1) r5.1] at ye
  rw [b1] at ye
  refine ⟨c5.1, fun _ => by rw [h12]; exact op fz, ?_⟩
  rw [h12, c5.2]
  exact ye
def g_236w_187_2 : vG := ([(1219, [1], [6, 7], 0), (80, [1, 17, 16], [6, 5], 0), (0, [17], [], 55), (20, [14, 1], [5], 55), (90, [14], [], 0), (91, [14], [], 64), (80, [9, 10, 13], [5, 4], 0), (22, [13, 11, 12], [4], 0), (20, [12, 1], [4], 11), (0, [11], [], 288), (20, [10, 1], [4], 55), (90, [10], [], 0), (91, [10], [], 64), (0, [9], [], 322), (1235, [1, 8], [3, 4], 0), (31, [7], [], 0), (1216, [7, 1, 6], [2, 3], 0), (0, [6], [], 15), (30, [5], [], 0), (1216, [5, 1, 4], [1, 2], 0), (0, [4], [], 10), (31, [3], [], 0), (5000, [0, 1, 2, 3], [0, 1], 187), (0, [1], [], 285), (90, [2], [], 0), (91, [2], [], 7), (90, [3], [], 0), (91, [3], [], 1)], (4000, [1, 2, 3], [7], 12))
theorem c_236w_187_2 {q0 : Nat} : vOkm T0 (eN e_236 L_236w A_236 mu_236 n_236 B_236 (some q0)) 1 g_236w_187_2 := vOk_inI fun ρ η f0 f1 f2 f3 f4 f5 f6 f7 f8 f9 f10 f11 f12 f13 f14 f15 f16 f17 f18 f19 f20 f21 f22 f23 f24 f25 f26 f27 => q_236w_21 (q0 := q0) (n0 := ρ 3) (n1 := ρ 2) (n2 := ρ 1) (n3 := ρ 0) (n4 := ρ 4) (n5 := ρ 5) (n6 := ρ 6) (n7 := ρ 7) (n8 := ρ 8) (n9 := ρ 9) (n10 := ρ 10) (n11 := ρ 11) (n12 := ρ 12) (n13 := ρ 13) (n14 := ρ 14) (n16 := ρ 16) (n17 := ρ 17) (H0 := η 0) (H1 := η 1) (H2 := η 2) (H3 := η 3) (H4 := η 4) (H5 := η 5) (H6 := η 6) (H7 := η 7) f27 f26 f25 f24 f23 f22 f21 f20 f19 f18 f17 f16 f15 f14 f13 f12 f11 f10 f9 f8 f7 f6 f5 f4 f3 f2 f1 f0
theorem q_236w_22 {q0 : Nat} {n0 n1 n2 n3 n4 n5 : Int} {H0 H1 H2 : gH} (f0 : n0 ≤ 1) (f1 : 0 ≤ n0) (f2 : n1 ≤ 7) (f3 : 0 ≤ n1) (f4 : n2 = 285) (f5 : (hLe T0 H0 H1 ∧ hFr s_236.2.2.2.2 H0 H1 ∧ hWt T0 H1) ∧ ((Ab_236_187 n3 n2 n1 n0 H0 H1 ∧ Bb_236_187 n3 n2 n1 n0 H0 H1) ∧ preb_236 n3 H0) ∧ some q0 = some (mub_236_187 n3 n2 n1 n0 H0 H1)) (f6 : n0 = 0) (f7 : n4 ≤ 7) (f8 : 0 ≤ n4) (f9 : n4 = hV H1 (n2).toNat 12) (f10 : n4 ≤ n1) (f11 : (hLe T0 H1 H2 ∧ hFr s_235.2.2.2.2 H1 H2 ∧ ((0 : Int) = 0 → H2.length = H1.length) ∧ hWt T0 H2) ∧ postb_235 n2 n5 H1 H2) : nb_236 n3 H0 H2 := by
  unfold nb_236
  intro z
  have ga := f5.2.1.1.2
  unfold Bb_236_187 at ga
  obtain ⟨z1, op, ye, nc, s1, s0⟩ := ga z
  have vz : vwR H1 = vwR H0 := vwR_fr f5.1.2.1 (by decide +kernel)
  have d11 := rdS (q := 285) f9 f4
  have q7 := f6
  have q12 := f10
  have pr := f5.2.1.2
  unfold preb_236 at pr
  have ab := f5.2.1.1.1
  unfold Ab_236_187 at ab
  have hx1 : n1 = hV H0 285 12 := ab.2.2.2.1
  have hft : hV H0 285 13 ≤ hV H1 285 13 := ab.2.2.2.2.2.2.2.2.2.2.1
  have lo0 := z.2.2.2.1
  have rg0 := f0
  have rg1 := f1
  have rg2 := f2
  have rg3 := f3
  have g12 := f5.1.2.2 285 12 _ _ rW_12
  have f0 : hV H1 285 13 = 0 → n1 = 0 := fun c => by omega
  have rg8 := f7
  have rg9 := f8
  have p0 := PR_fr f11.1.2.1 (by decide +kernel) z1
  have v0 : vwR H2 = vwR H0 := p0.2.1.trans vz
  have ah0 : absR H2 = (absR H1) := p0.1
  have lo1 := z1.2.2.2.1
  refine ⟨p0.2.2.1, ?_⟩
  rw [ah0]
  by_cases fz : hV H1 285 13 = 0
  · have r5 := absR_500 z1 fz
    have x0 := f0 fz
    have s0_ := s0 (by omega)
    rw [pE_go0 r5.1 r5.2 rfl, if_neg nc, if_neg s0_, if_neg (by omega)] at ye
    exact ye
  · have h1 := absR_neg z1 fz
    rw [pE_neg (vwR_ok H0) h1 (absR_ok z1)] at ye
    exact ye
def g_236w_187_3 : vG := ([(1235, [1, 5], [1, 2], 0), (45, [4, 2], [], 0), (20, [4, 1], [1], 12), (90, [4], [], 0), (91, [4], [], 7), (30, [3], [], 0), (5000, [0, 1, 2, 3], [0, 1], 187), (0, [1], [], 285), (90, [2], [], 0), (91, [2], [], 7), (90, [3], [], 0), (91, [3], [], 1)], (3000, [], [2], 209))
theorem c_236w_187_3 {q0 : Nat} : vOkm T0 (eN e_236 L_236w A_236 mu_236 n_236 B_236 (some q0)) 1 g_236w_187_3 := vOk_inI fun ρ η f0 f1 f2 f3 f4 f5 f6 f7 f8 f9 f10 f11 => q_236w_22 (q0 := q0) (n0 := ρ 3) (n1 := ρ 2) (n2 := ρ 1) (n3 := ρ 0) (n4 := ρ 4) (n5 := ρ 5) (H0 := η 0) (H1 := η 1) (H2 := η 2) f11 f10 f9 f8 f7 f6 f5 f4 f3 f2 f1 f0
theorem q_236w_23 {q0 : Nat} {n0 n1 n2 n3 n4 n5 n6 : Int} {H0 H1 H2 H3 : gH} (f0 : n0 ≤ 1) (f1 : 0 ≤ n0) (f2 : n1 ≤ 7) (f3 : 0 ≤ n1) (f4 : n2 = 285) (f5 : (hLe T0 H0 H1 ∧ hFr s_236.2.2.2.2 H0 H1 ∧ hWt T0 H1) ∧ ((Ab_236_187 n3 n2 n1 n0 H0 H1 ∧ Bb_236_187 n3 n2 n1 n0 H0 H1) ∧ preb_236 n3 H0) ∧ some q0 = some (mub_236_187 n3 n2 n1 n0 H0 H1)) (f6 : n0 = 0) (f7 : n4 ≤ 7) (f8 : 0 ≤ n4) (f9 : n4 = hV H1 (n2).toNat 12) (f10 : n1 < n4) (f11 : n5 = 1) (f12 : (hLe T0 H1 H2 ∧ hFr s_217.2.2.2.2 H1 H2 ∧ ((0 : Int) = 0 → H2.length = H1.length) ∧ hWt T0 H2) ∧ (postb_217 n2 n5 H1 H2 ∧ nb_217 n2 n5 H1 H2)) (f13 : (hLe T0 H2 H3 ∧ hFr s_235.2.2.2.2 H2 H3 ∧ ((0 : Int) = 0 → H3.length = H2.length) ∧ hWt T0 H3) ∧ postb_235 n2 n6 H2 H3) : nb_236 n3 H0 H3 := by
  unfold nb_236
  intro z
  have ga := f5.2.1.1.2
  unfold Bb_236_187 at ga
  obtain ⟨z1, op, ye, nc, s1, s0⟩ := ga z
  have vz : vwR H1 = vwR H0 := vwR_fr f5.1.2.1 (by decide +kernel)
  have d11 := rdS (q := 285) f9 f4
  have q7 := f6
  have q12 := f10
  have pr := f5.2.1.2
  unfold preb_236 at pr
  have ab := f5.2.1.1.1
  unfold Ab_236_187 at ab
  have hx1 : n1 = hV H0 285 12 := ab.2.2.2.1
  have hft : hV H0 285 13 ≤ hV H1 285 13 := ab.2.2.2.2.2.2.2.2.2.2.1
  have lo0 := z.2.2.2.1
  have rg0 := f0
  have rg1 := f1
  have rg2 := f2
  have rg3 := f3
  have g12 := f5.1.2.2 285 12 _ _ rW_12
  have f0 : hV H1 285 13 = 0 → n1 = 0 := fun c => by omega
  have rg8 := f7
  have rg9 := f8
  have c0 := f12.2.2 z1
  try rw [f11] at c0
  rw [vz] at c0
  have v0 : vwR H2 = vwR H0 := (vwR_fr f12.1.2.1 (by decide +kernel)).trans vz
  have p1 := PR_fr f13.1.2.1 (by decide +kernel) c0.1
  have v1 : vwR H3 = vwR H0 := p1.2.1.trans v0
  have ah1 : absR H3 = (pfail (vwR H0) 1 (absR H1)) := p1.1.trans c0.2
  have lo1 := z1.2.2.2.1
  refine ⟨p1.2.2.1, ?_⟩
  rw [ah1]
  by_cases fz : hV H1 285 13 = 0
  · have r5 := absR_500 z1 fz
    have x0 := f0 fz
    have s0_ := s0 (by omega)
    rw [pE_go0 r5.1 r5.2 rfl, if_neg nc, if_neg s0_, if_pos (by omega)] at ye
    exact ye
  · have h1 := absR_neg z1 fz
    rw [pE_neg (vwR_ok H0) h1 (absR_ok z1)] at ye
    rw [pfail_neg h1 (absR_ok z1)]
    exact ye
def g_236w_187_4 : vG := ([(1235, [1, 6], [2, 3], 0), (1217, [1, 5], [1, 2], 0), (0, [5], [], 1), (44, [4, 2], [], 0), (20, [4, 1], [1], 12), (90, [4], [], 0), (91, [4], [], 7), (30, [3], [], 0), (5000, [0, 1, 2, 3], [0, 1], 187), (0, [1], [], 285), (90, [2], [], 0), (91, [2], [], 7), (90, [3], [], 0), (91, [3], [], 1)], (3000, [], [3], 209))
theorem c_236w_187_4 {q0 : Nat} : vOkm T0 (eN e_236 L_236w A_236 mu_236 n_236 B_236 (some q0)) 1 g_236w_187_4 := vOk_inI fun ρ η f0 f1 f2 f3 f4 f5 f6 f7 f8 f9 f10 f11 f12 f13 => q_236w_23 (q0 := q0) (n0 := ρ 3) (n1 := ρ 2) (n2 := ρ 1) (n3 := ρ 0) (n4 := ρ 4) (n5 := ρ 5) (n6 := ρ 6) (H0 := η 0) (H1 := η 1) (H2 := η 2) (H3 := η 3) f13 f12 f11 f10 f9 f8 f7 f6 f5 f4 f3 f2 f1 f0
def p_236w_187 : List vG := [g_236w_187_0,
  g_236w_187_1,
  g_236w_187_2,
  g_236w_187_3,
  g_236w_187_4]
theorem r_236w_187 : vCovBO (eRc e_236 L_236 cs_236 2000 (187, [(0, (3, 12, 285, 0)), (1, (0, 0, 7, 0)), (2, (0, 0, 1, 0))])) p_236w_187 = true := by decide +kernel
theorem m_236w (d : Nat) : eC e_236w (d + 4) := eC_ref (e := e_236) (L := L_236) (L' := L_236w) (cs := cs_236) (n := 2000) (d := d + 3) (A := A_236) (μ := mu_236) (tp := false) (p0 := p_236_s) (p1 := p_236w_s) (N := n_236) (B := B_236) rfl ⟨m_216 (d + 2), ⟨m_217w (d + 2), ⟨m_219w (d + 1), ⟨m_235 (d + 1), ⟨m_237w d, trivial⟩⟩⟩⟩⟩ rfl (.inl rfl) (by decide +kernel) (fun z => nomatch z) r_236_s (allC c_236_s_0 allN) (allC (.inl ⟨p_236_12, r_236_12, fun q0 => (allC c_236_12_0 (allC c_236_12_1 (allC c_236_12_2 allN)))⟩) (allC (.inl ⟨p_236_23, r_236_23, fun q0 => (allC c_236_23_0 (allC c_236_23_1 (allC c_236_23_2 (allC c_236_23_3 (allC c_236_23_4 (allC c_236_23_5 (allC c_236_23_6 (allC c_236_23_7 (allC c_236_23_8 (allC c_236_23_9 (allC c_236_23_10 (allC c_236_23_11 (allC c_236_23_12 (allC c_236_23_13 (allC c_236_23_14 allN)))))))))))))))⟩) (allC (.inl ⟨p_236_96, r_236_96, fun q0 => (allC c_236_96_0 (allC c_236_96_1 (allC c_236_96_2 (allC c_236_96_3 (allC c_236_96_4 (allC c_236_96_5 (allC c_236_96_6 (allC c_236_96_7 (allC c_236_96_8 (allC c_236_96_9 (allC c_236_96_10 (allC c_236_96_11 (allC c_236_96_12 (allC c_236_96_13 (allC c_236_96_14 (allC c_236_96_15 allN))))))))))))))))⟩) (allC (.inl ⟨p_236_187, r_236_187, fun q0 => (allC c_236_187_0 (allC c_236_187_1 (allC c_236_187_2 (allC c_236_187_3 (allC c_236_187_4 (allC c_236_187_5 (allC c_236_187_6 (allC c_236_187_7 (allC c_236_187_8 (allC c_236_187_9 (allC c_236_187_10 (allC c_236_187_11 (allC c_236_187_12 (allC c_236_187_13 (allC c_236_187_14 (allC c_236_187_15 (allC c_236_187_16 (allC c_236_187_17 (allC c_236_187_18 allN)))))))))))))))))))⟩) allN)))) (sub0 (sub1 (sub1 (sub0 (sub1 trivial))))) r_236w_s (allC c_236w_s_0 allN) (allC ⟨p_236w_12, r_236w_12, fun q0 => (allC c_236w_12_0 (allC c_236w_12_1 (allC c_236w_12_2 allN)))⟩ (allC ⟨p_236w_23, r_236w_23, fun q0 => (allC c_236w_23_0 (allC c_236w_23_1 (allC c_236w_23_2 (allC c_236w_23_3 allN))))⟩ (allC ⟨p_236w_96, r_236w_96, fun q0 => (allC c_236w_96_0 (allC c_236w_96_1 (allC c_236w_96_2 (allC c_236w_96_3 (allC c_236w_96_4 (allC c_236w_96_5 (allC c_236w_96_6 (allC c_236w_96_7 (allC c_236w_96_8 (allC c_236w_96_9 (allC c_236w_96_10 allN)))))))))))⟩ (allC ⟨p_236w_187, r_236w_187, fun q0 => (allC c_236w_187_0 (allC c_236w_187_1 (allC c_236w_187_2 (allC c_236w_187_3 (allC c_236w_187_4 allN)))))⟩ allN))))
