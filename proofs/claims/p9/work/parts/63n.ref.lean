/- MixStageModel.literal (Z)V, more fully -/
def nb_233 (a0 a1 : Int) (h0 h : gH) : Prop := RI h0 → RI h ∧ absR h = pLit (vwR h0) (absR h0)
def n_233 : List Int → gH → gH → Prop := fun xs h0 h => match xs with
  | [a0, a1] => nb_233 a0 a1 h0 h
  | _ => True
noncomputable def e_233w : vE := eV e_233 n_233
noncomputable def L_233w : List vE := [e_216, e_217w, e_219w, e_236w]
def Bb_233_2 (a0 a1 x0 x1 x2 : Int) (h0 h : gH) : Prop := RI h0 → RI h ∧ pNots (vwR h0) (502 - (absR h).1).toNat (absR h) = (pNots (vwR h0) (502 - (absR h0).1).toNat (absR h0))
def Bb_233_85 (a0 a1 x0 x1 x2 x3 x4 : Int) (h0 h : gH) : Prop := RI h0 → RI h ∧ ((absR h = (pExp (vwR h0) (pNots (vwR h0) (502 - (absR h0).1).toNat (absR h0))) ∧ 12 ≤ (vwR h0).1 (pExp (vwR h0) (pNots (vwR h0) (502 - (absR h0).1).toNat (absR h0))).1 ∧ (vwR h0).1 (pExp (vwR h0) (pNots (vwR h0) (502 - (absR h0).1).toNat (absR h0))).1 ≤ 15) ∨ (absR h = pfail (vwR h0) 1 (pExp (vwR h0) (pNots (vwR h0) (502 - (absR h0).1).toNat (absR h0))) ∧ ¬ (12 ≤ (vwR h0).1 (pExp (vwR h0) (pNots (vwR h0) (502 - (absR h0).1).toNat (absR h0))).1 ∧ (vwR h0).1 (pExp (vwR h0) (pNots (vwR h0) (502 - (absR h0).1).toNat (absR h0))).1 ≤ 15)))
def B_233 : Int → List Int → gH → gH → Prop := fun c xs h0 h => match c.toNat with
  | 2 => (match xs with
    | [a0, a1, x0, x1, x2] => Bb_233_2 a0 a1 x0 x1 x2 h0 h
    | _ => False)
  | 85 => (match xs with
    | [a0, a1, x0, x1, x2, x3, x4] => Bb_233_85 a0 a1 x0 x1 x2 x3 x4 h0 h
    | _ => False)
  | _ => True
theorem q_233w_0 {n0 n1 n2 : Int} {H0 : gH}  : Bb_233_2 n1 n0 n1 n0 n2 H0 H0 := by
  unfold Bb_233_2
  intro z
  exact ⟨z, rfl⟩
def g_233w_s_0 : vG := ([], (4000, [0, 1, 2], [0], 2))
theorem c_233w_s_0 : vOkm T0 (eN e_233 L_233w A_233 mu_233 n_233 B_233 none) 2 g_233w_s_0 := vOk_inI fun ρ η => q_233w_0 (n0 := ρ 1) (n1 := ρ 0) (n2 := ρ 2) (H0 := η 0) 
def p_233w_s : List vG := [g_233w_s_0]
theorem r_233w_s : vCovBO (eR0 e_233 L_233 cs_233 2000) p_233w_s = true := by decide +kernel
theorem q_233w_1 {q0 : Nat} {n0 n1 n2 n3 n4 n5 n6 n7 n8 n9 n10 n11 n13 n14 : Int} {H0 H1 H2 H3 : gH} (f0 : n2 = 285) (f1 : (hLe T0 H0 H1 ∧ hFr s_233.2.2.2.2 H0 H1 ∧ hWt T0 H1) ∧ ((Ab_233_2 n4 n3 n2 n1 n0 H0 H1 ∧ Bb_233_2 n4 n3 n2 n1 n0 H0 H1) ∧ preb_233 n4 n3 H0) ∧ some q0 = some (mub_233_2 n4 n3 n2 n1 n0 H0 H1)) (f2 : n5 = 48) (f3 : (hLe T0 H1 H2 ∧ hFr s_216.2.2.2.2 H1 H2 ∧ ((0 : Int) = 0 → H2.length = H1.length) ∧ hWt T0 H2) ∧ postb_216 n6 n2 n5 H1 H2) (f4 : n6 = 0) (f5 : n7 = hV H2 (n2).toNat 51) (f6 : (hLe T0 H2 H3 ∧ hFr s_236.2.2.2.2 H2 H3 ∧ ((0 : Int) = 0 → H3.length = H2.length) ∧ hWt T0 H3) ∧ (postb_236 n2 H2 H3 ∧ nb_236 n2 H2 H3)) (f7 : n8 = hV H3 (n2).toNat 13) (f8 : n8 ≤ 0) (f9 : n9 = 288) (f10 : n10 = hV H3 (n2).toNat 11) (f11 : n11 ≤ 53) (f12 : 0 ≤ n11) (f13 : n11 = hV H3 (n9).toNat (n10).toNat) (f14 : n14 = hV H3 (n2).toNat 13) (f15 : n14 ≠ 0) : Bb_233_85 n4 n3 n2 n1 n0 n7 n13 H0 H3 := by
  unfold Bb_233_85
  intro z
  have ga := f1.2.1.1.2
  unfold Bb_233_2 at ga
  obtain ⟨z1, ye⟩ := ga z
  have vz : vwR H1 = vwR H0 := vwR_fr f1.1.2.1 (by decide +kernel)
  have d17 := rdS (q := 285) f5 f0
  have d22 := rdS (q := 285) f7 f0
  have d30 := rdS (q := 285) f10 f0
  have d33 := rdW (q := 288) f13 f9
  have d39 := rdS (q := 285) f14 f0
  have q13 := f4
  have q23 := f8
  have q40 := f15
  have lo1 := z1.2.2.2.1
  have p0 := PR_fr f3.1.2.1 (by decide +kernel) z1
  have v0 : vwR H2 = vwR H0 := p0.2.1.trans vz
  have ah0 : absR H2 = (absR H1) := p0.1
  have i0 := f3.2
  unfold postb_216 at i0
  rw [f2] at i0
  have cm0 := f4
  have b0 := (isR_or (k := 48) p0.2.2.1 (by decide) i0).resolve_left (fun w => absurd (w.1.symm.trans cm0) (by decide))
  replace b0 := b0.2
  rw [v0, ah0, kmc_48] at b0
  have c1 := f6.2.2 p0.2.2.1
  rw [v0, ah0] at c1
  have v1 : vwR H3 = vwR H0 := (vwR_fr f6.1.2.1 (by decide +kernel)).trans v0
  rw [pNots_stop b0] at ye
  have ae := c1.2
  rw [ye] at ae
  have lox := c1.1.2.2.2.1
  have rg31 := f11
  have rg32 := f12
  exfalso
  omega
def g_233w_2_0 : vG := ([(31, [14], [], 0), (20, [14, 2], [3], 13), (22, [11, 9, 10], [3], 0), (90, [11], [], 0), (91, [11], [], 53), (20, [10, 2], [3], 11), (0, [9], [], 288), (35, [8], [], 0), (20, [8, 2], [3], 13), (1236, [2], [2, 3], 0), (20, [7, 2], [2], 51), (30, [6], [], 0), (1216, [6, 2, 5], [1, 2], 0), (0, [5], [], 48), (5000, [0, 1, 2, 3, 4], [0, 1], 2), (0, [2], [], 285)], (4000, [2, 3, 4, 7, 13], [3], 85))
theorem c_233w_2_0 {q0 : Nat} : vOkm T0 (eN e_233 L_233w A_233 mu_233 n_233 B_233 (some q0)) 2 g_233w_2_0 := vOk_inI fun ρ η f0 f1 f2 f3 f4 f5 f6 f7 f8 f9 f10 f11 f12 f13 f14 f15 => q_233w_1 (q0 := q0) (n0 := ρ 4) (n1 := ρ 3) (n2 := ρ 2) (n3 := ρ 1) (n4 := ρ 0) (n5 := ρ 5) (n6 := ρ 6) (n7 := ρ 7) (n8 := ρ 8) (n9 := ρ 9) (n10 := ρ 10) (n11 := ρ 11) (n13 := ρ 13) (n14 := ρ 14) (H0 := η 0) (H1 := η 1) (H2 := η 2) (H3 := η 3) f15 f14 f13 f12 f11 f10 f9 f8 f7 f6 f5 f4 f3 f2 f1 f0
theorem q_233w_2 {q0 : Nat} {n0 n1 n2 n3 n4 n5 n6 n7 n8 n9 n10 n11 n12 n13 n14 n15 : Int} {H0 H1 H2 H3 H4 : gH} (f0 : n2 = 285) (f1 : (hLe T0 H0 H1 ∧ hFr s_233.2.2.2.2 H0 H1 ∧ hWt T0 H1) ∧ ((Ab_233_2 n4 n3 n2 n1 n0 H0 H1 ∧ Bb_233_2 n4 n3 n2 n1 n0 H0 H1) ∧ preb_233 n4 n3 H0) ∧ some q0 = some (mub_233_2 n4 n3 n2 n1 n0 H0 H1)) (f2 : n5 = 48) (f3 : (hLe T0 H1 H2 ∧ hFr s_216.2.2.2.2 H1 H2 ∧ ((0 : Int) = 0 → H2.length = H1.length) ∧ hWt T0 H2) ∧ postb_216 n6 n2 n5 H1 H2) (f4 : n6 = 0) (f5 : n7 = hV H2 (n2).toNat 51) (f6 : (hLe T0 H2 H3 ∧ hFr s_236.2.2.2.2 H2 H3 ∧ ((0 : Int) = 0 → H3.length = H2.length) ∧ hWt T0 H3) ∧ (postb_236 n2 H2 H3 ∧ nb_236 n2 H2 H3)) (f7 : n8 = hV H3 (n2).toNat 13) (f8 : n8 ≤ 0) (f9 : n9 = 288) (f10 : n10 = hV H3 (n2).toNat 11) (f11 : n11 ≤ 53) (f12 : 0 ≤ n11) (f13 : n11 = hV H3 (n9).toNat (n10).toNat) (f14 : n12 = 11) (f15 : n13 = w32 (n11 - n12)) (f16 : n14 = hV H3 (n2).toNat 13) (f17 : n14 = 0) (f18 : n13 < 0) (f19 : n15 = 1) (f20 : (hLe T0 H3 H4 ∧ hFr s_217.2.2.2.2 H3 H4 ∧ ((0 : Int) = 0 → H4.length = H3.length) ∧ hWt T0 H4) ∧ (postb_217 n2 n15 H3 H4 ∧ nb_217 n2 n15 H3 H4)) : Bb_233_85 n4 n3 n2 n1 n0 n7 n13 H0 H4 := by
  unfold Bb_233_85
  intro z
  have ga := f1.2.1.1.2
  unfold Bb_233_2 at ga
  obtain ⟨z1, ye⟩ := ga z
  have vz : vwR H1 = vwR H0 := vwR_fr f1.1.2.1 (by decide +kernel)
  have d17 := rdS (q := 285) f5 f0
  have d22 := rdS (q := 285) f7 f0
  have d30 := rdS (q := 285) f10 f0
  have d33 := rdW (q := 288) f13 f9
  have d39 := rdS (q := 285) f16 f0
  have q13 := f4
  have q23 := f8
  have q40 := f17
  have q41 := f18
  have lo1 := z1.2.2.2.1
  have p0 := PR_fr f3.1.2.1 (by decide +kernel) z1
  have v0 : vwR H2 = vwR H0 := p0.2.1.trans vz
  have ah0 : absR H2 = (absR H1) := p0.1
  have i0 := f3.2
  unfold postb_216 at i0
  rw [f2] at i0
  have cm0 := f4
  have b0 := (isR_or (k := 48) p0.2.2.1 (by decide) i0).resolve_left (fun w => absurd (w.1.symm.trans cm0) (by decide))
  replace b0 := b0.2
  rw [v0, ah0, kmc_48] at b0
  have c1 := f6.2.2 p0.2.2.1
  rw [v0, ah0] at c1
  have v1 : vwR H3 = vwR H0 := (vwR_fr f6.1.2.1 (by decide +kernel)).trans v0
  have c2 := f20.2.2 c1.1
  try rw [f19] at c2
  rw [v1, c1.2] at c2
  have v2 : vwR H4 = vwR H0 := (vwR_fr f20.1.2.1 (by decide +kernel)).trans v1
  rw [pNots_stop b0] at ye
  have ae := c1.2
  rw [ye] at ae
  have lox := c1.1.2.2.2.1
  have rg31 := f11
  have rg32 := f12
  have f4 : hV H3 285 13 = 0 := by omega
  have kk := kindR_at c1.1 f4
  rw [v1, ae] at kk
  rw [d30] at d33
  rw [← d33] at kk
  have kr := km_rel (k := n11)
  rw [← kk] at kr
  have s11 : n13 = n11 - 11 := by
    have q := f15
    rw [f14] at q
    rw [q]
    exact w32_id (by omega) (by omega)
  refine ⟨c2.1, .inr ⟨?_, fun c => ?_⟩⟩
  · rw [c2.2, ye]
  · have := kr.mp c
    omega
def g_233w_2_1 : vG := ([(1217, [2, 15], [3, 4], 0), (0, [15], [], 1), (32, [13], [], 0), (30, [14], [], 0), (20, [14, 2], [3], 13), (2, [13, 11, 12], [], 0), (0, [12], [], 11), (22, [11, 9, 10], [3], 0), (90, [11], [], 0), (91, [11], [], 53), (20, [10, 2], [3], 11), (0, [9], [], 288), (35, [8], [], 0), (20, [8, 2], [3], 13), (1236, [2], [2, 3], 0), (20, [7, 2], [2], 51), (30, [6], [], 0), (1216, [6, 2, 5], [1, 2], 0), (0, [5], [], 48), (5000, [0, 1, 2, 3, 4], [0, 1], 2), (0, [2], [], 285)], (4000, [2, 3, 4, 7, 13], [4], 85))
theorem c_233w_2_1 {q0 : Nat} : vOkm T0 (eN e_233 L_233w A_233 mu_233 n_233 B_233 (some q0)) 2 g_233w_2_1 := vOk_inI fun ρ η f0 f1 f2 f3 f4 f5 f6 f7 f8 f9 f10 f11 f12 f13 f14 f15 f16 f17 f18 f19 f20 => q_233w_2 (q0 := q0) (n0 := ρ 4) (n1 := ρ 3) (n2 := ρ 2) (n3 := ρ 1) (n4 := ρ 0) (n5 := ρ 5) (n6 := ρ 6) (n7 := ρ 7) (n8 := ρ 8) (n9 := ρ 9) (n10 := ρ 10) (n11 := ρ 11) (n12 := ρ 12) (n13 := ρ 13) (n14 := ρ 14) (n15 := ρ 15) (H0 := η 0) (H1 := η 1) (H2 := η 2) (H3 := η 3) (H4 := η 4) f20 f19 f18 f17 f16 f15 f14 f13 f12 f11 f10 f9 f8 f7 f6 f5 f4 f3 f2 f1 f0
theorem q_233w_3 {q0 : Nat} {n0 n1 n2 n3 n4 n5 n6 n7 n8 n9 n10 n11 n12 n13 n14 n15 : Int} {H0 H1 H2 H3 : gH} (f0 : n2 = 285) (f1 : (hLe T0 H0 H1 ∧ hFr s_233.2.2.2.2 H0 H1 ∧ hWt T0 H1) ∧ ((Ab_233_2 n4 n3 n2 n1 n0 H0 H1 ∧ Bb_233_2 n4 n3 n2 n1 n0 H0 H1) ∧ preb_233 n4 n3 H0) ∧ some q0 = some (mub_233_2 n4 n3 n2 n1 n0 H0 H1)) (f2 : n5 = 48) (f3 : (hLe T0 H1 H2 ∧ hFr s_216.2.2.2.2 H1 H2 ∧ ((0 : Int) = 0 → H2.length = H1.length) ∧ hWt T0 H2) ∧ postb_216 n6 n2 n5 H1 H2) (f4 : n6 = 0) (f5 : n7 = hV H2 (n2).toNat 51) (f6 : (hLe T0 H2 H3 ∧ hFr s_236.2.2.2.2 H2 H3 ∧ ((0 : Int) = 0 → H3.length = H2.length) ∧ hWt T0 H3) ∧ (postb_236 n2 H2 H3 ∧ nb_236 n2 H2 H3)) (f7 : n8 = hV H3 (n2).toNat 13) (f8 : n8 ≤ 0) (f9 : n9 = 288) (f10 : n10 = hV H3 (n2).toNat 11) (f11 : n11 ≤ 53) (f12 : 0 ≤ n11) (f13 : n11 = hV H3 (n9).toNat (n10).toNat) (f14 : n12 = 11) (f15 : n13 = w32 (n11 - n12)) (f16 : n14 = hV H3 (n2).toNat 13) (f17 : n14 = 0) (f18 : 0 ≤ n13) (f19 : n15 = 3) (f20 : n13 ≤ n15) : Bb_233_85 n4 n3 n2 n1 n0 n7 n13 H0 H3 := by
  unfold Bb_233_85
  intro z
  have ga := f1.2.1.1.2
  unfold Bb_233_2 at ga
  obtain ⟨z1, ye⟩ := ga z
  have vz : vwR H1 = vwR H0 := vwR_fr f1.1.2.1 (by decide +kernel)
  have d17 := rdS (q := 285) f5 f0
  have d22 := rdS (q := 285) f7 f0
  have d30 := rdS (q := 285) f10 f0
  have d33 := rdW (q := 288) f13 f9
  have d39 := rdS (q := 285) f16 f0
  have q13 := f4
  have q23 := f8
  have q40 := f17
  have q41 := f18
  have q43 := f20
  have qc42 := f19
  have lo1 := z1.2.2.2.1
  have p0 := PR_fr f3.1.2.1 (by decide +kernel) z1
  have v0 : vwR H2 = vwR H0 := p0.2.1.trans vz
  have ah0 : absR H2 = (absR H1) := p0.1
  have i0 := f3.2
  unfold postb_216 at i0
  rw [f2] at i0
  have cm0 := f4
  have b0 := (isR_or (k := 48) p0.2.2.1 (by decide) i0).resolve_left (fun w => absurd (w.1.symm.trans cm0) (by decide))
  replace b0 := b0.2
  rw [v0, ah0, kmc_48] at b0
  have c1 := f6.2.2 p0.2.2.1
  rw [v0, ah0] at c1
  have v1 : vwR H3 = vwR H0 := (vwR_fr f6.1.2.1 (by decide +kernel)).trans v0
  rw [pNots_stop b0] at ye
  have ae := c1.2
  rw [ye] at ae
  have lox := c1.1.2.2.2.1
  have rg31 := f11
  have rg32 := f12
  have f4 : hV H3 285 13 = 0 := by omega
  have kk := kindR_at c1.1 f4
  rw [v1, ae] at kk
  rw [d30] at d33
  rw [← d33] at kk
  have kr := km_rel (k := n11)
  rw [← kk] at kr
  have s11 : n13 = n11 - 11 := by
    have q := f15
    rw [f14] at q
    rw [q]
    exact w32_id (by omega) (by omega)
  have w := kr.mpr (by omega)
  refine ⟨c1.1, .inl ⟨?_, w⟩⟩
  rw [c1.2]
  rw [ye]
def g_233w_2_2 : vG := ([(45, [13, 15], [], 0), (0, [15], [], 3), (33, [13], [], 0), (30, [14], [], 0), (20, [14, 2], [3], 13), (2, [13, 11, 12], [], 0), (0, [12], [], 11), (22, [11, 9, 10], [3], 0), (90, [11], [], 0), (91, [11], [], 53), (20, [10, 2], [3], 11), (0, [9], [], 288), (35, [8], [], 0), (20, [8, 2], [3], 13), (1236, [2], [2, 3], 0), (20, [7, 2], [2], 51), (30, [6], [], 0), (1216, [6, 2, 5], [1, 2], 0), (0, [5], [], 48), (5000, [0, 1, 2, 3, 4], [0, 1], 2), (0, [2], [], 285)], (4000, [2, 3, 4, 7, 13], [3], 85))
theorem c_233w_2_2 {q0 : Nat} : vOkm T0 (eN e_233 L_233w A_233 mu_233 n_233 B_233 (some q0)) 2 g_233w_2_2 := vOk_inI fun ρ η f0 f1 f2 f3 f4 f5 f6 f7 f8 f9 f10 f11 f12 f13 f14 f15 f16 f17 f18 f19 f20 => q_233w_3 (q0 := q0) (n0 := ρ 4) (n1 := ρ 3) (n2 := ρ 2) (n3 := ρ 1) (n4 := ρ 0) (n5 := ρ 5) (n6 := ρ 6) (n7 := ρ 7) (n8 := ρ 8) (n9 := ρ 9) (n10 := ρ 10) (n11 := ρ 11) (n12 := ρ 12) (n13 := ρ 13) (n14 := ρ 14) (n15 := ρ 15) (H0 := η 0) (H1 := η 1) (H2 := η 2) (H3 := η 3) f20 f19 f18 f17 f16 f15 f14 f13 f12 f11 f10 f9 f8 f7 f6 f5 f4 f3 f2 f1 f0
theorem q_233w_4 {q0 : Nat} {n0 n1 n2 n3 n4 n5 n6 n7 n8 n9 n10 n11 n12 n13 n14 n15 n16 : Int} {H0 H1 H2 H3 H4 : gH} (f0 : n2 = 285) (f1 : (hLe T0 H0 H1 ∧ hFr s_233.2.2.2.2 H0 H1 ∧ hWt T0 H1) ∧ ((Ab_233_2 n4 n3 n2 n1 n0 H0 H1 ∧ Bb_233_2 n4 n3 n2 n1 n0 H0 H1) ∧ preb_233 n4 n3 H0) ∧ some q0 = some (mub_233_2 n4 n3 n2 n1 n0 H0 H1)) (f2 : n5 = 48) (f3 : (hLe T0 H1 H2 ∧ hFr s_216.2.2.2.2 H1 H2 ∧ ((0 : Int) = 0 → H2.length = H1.length) ∧ hWt T0 H2) ∧ postb_216 n6 n2 n5 H1 H2) (f4 : n6 = 0) (f5 : n7 = hV H2 (n2).toNat 51) (f6 : (hLe T0 H2 H3 ∧ hFr s_236.2.2.2.2 H2 H3 ∧ ((0 : Int) = 0 → H3.length = H2.length) ∧ hWt T0 H3) ∧ (postb_236 n2 H2 H3 ∧ nb_236 n2 H2 H3)) (f7 : n8 = hV H3 (n2).toNat 13) (f8 : n8 ≤ 0) (f9 : n9 = 288) (f10 : n10 = hV H3 (n2).toNat 11) (f11 : n11 ≤ 53) (f12 : 0 ≤ n11) (f13 : n11 = hV H3 (n9).toNat (n10).toNat) (f14 : n12 = 11) (f15 : n13 = w32 (n11 - n12)) (f16 : n14 = hV H3 (n2).toNat 13) (f17 : n14 = 0) (f18 : 0 ≤ n13) (f19 : n15 = 3) (f20 : n15 < n13) (f21 : n16 = 1) (f22 : (hLe T0 H3 H4 ∧ hFr s_217.2.2.2.2 H3 H4 ∧ ((0 : Int) = 0 → H4.length = H3.length) ∧ hWt T0 H4) ∧ (postb_217 n2 n16 H3 H4 ∧ nb_217 n2 n16 H3 H4)) : Bb_233_85 n4 n3 n2 n1 n0 n7 n13 H0 H4 := by
  unfold Bb_233_85
  intro z
  have ga := f1.2.1.1.2
  unfold Bb_233_2 at ga
  obtain ⟨z1, ye⟩ := ga z
  have vz : vwR H1 = vwR H0 := vwR_fr f1.1.2.1 (by decide +kernel)
  have d17 := rdS (q := 285) f5 f0
  have d22 := rdS (q := 285) f7 f0
  have d30 := rdS (q := 285) f10 f0
  have d33 := rdW (q := 288) f13 f9
  have d39 := rdS (q := 285) f16 f0
  have q13 := f4
  have q23 := f8
  have q40 := f17
  have q41 := f18
  have q43 := f20
  have qc42 := f19
  have lo1 := z1.2.2.2.1
  have p0 := PR_fr f3.1.2.1 (by decide +kernel) z1
  have v0 : vwR H2 = vwR H0 := p0.2.1.trans vz
  have ah0 : absR H2 = (absR H1) := p0.1
  have i0 := f3.2
  unfold postb_216 at i0
  rw [f2] at i0
  have cm0 := f4
  have b0 := (isR_or (k := 48) p0.2.2.1 (by decide) i0).resolve_left (fun w => absurd (w.1.symm.trans cm0) (by decide))
  replace b0 := b0.2
  rw [v0, ah0, kmc_48] at b0
  have c1 := f6.2.2 p0.2.2.1
  rw [v0, ah0] at c1
  have v1 : vwR H3 = vwR H0 := (vwR_fr f6.1.2.1 (by decide +kernel)).trans v0
  have c2 := f22.2.2 c1.1
  try rw [f21] at c2
  rw [v1, c1.2] at c2
  have v2 : vwR H4 = vwR H0 := (vwR_fr f22.1.2.1 (by decide +kernel)).trans v1
  rw [pNots_stop b0] at ye
  have ae := c1.2
  rw [ye] at ae
  have lox := c1.1.2.2.2.1
  have rg31 := f11
  have rg32 := f12
  have f4 : hV H3 285 13 = 0 := by omega
  have kk := kindR_at c1.1 f4
  rw [v1, ae] at kk
  rw [d30] at d33
  rw [← d33] at kk
  have kr := km_rel (k := n11)
  rw [← kk] at kr
  have s11 : n13 = n11 - 11 := by
    have q := f15
    rw [f14] at q
    rw [q]
    exact w32_id (by omega) (by omega)
  refine ⟨c2.1, .inr ⟨?_, fun c => ?_⟩⟩
  · rw [c2.2, ye]
  · have := kr.mp c
    omega
def g_233w_2_3 : vG := ([(1217, [2, 16], [3, 4], 0), (0, [16], [], 1), (44, [13, 15], [], 0), (0, [15], [], 3), (33, [13], [], 0), (30, [14], [], 0), (20, [14, 2], [3], 13), (2, [13, 11, 12], [], 0), (0, [12], [], 11), (22, [11, 9, 10], [3], 0), (90, [11], [], 0), (91, [11], [], 53), (20, [10, 2], [3], 11), (0, [9], [], 288), (35, [8], [], 0), (20, [8, 2], [3], 13), (1236, [2], [2, 3], 0), (20, [7, 2], [2], 51), (30, [6], [], 0), (1216, [6, 2, 5], [1, 2], 0), (0, [5], [], 48), (5000, [0, 1, 2, 3, 4], [0, 1], 2), (0, [2], [], 285)], (4000, [2, 3, 4, 7, 13], [4], 85))
theorem c_233w_2_3 {q0 : Nat} : vOkm T0 (eN e_233 L_233w A_233 mu_233 n_233 B_233 (some q0)) 2 g_233w_2_3 := vOk_inI fun ρ η f0 f1 f2 f3 f4 f5 f6 f7 f8 f9 f10 f11 f12 f13 f14 f15 f16 f17 f18 f19 f20 f21 f22 => q_233w_4 (q0 := q0) (n0 := ρ 4) (n1 := ρ 3) (n2 := ρ 2) (n3 := ρ 1) (n4 := ρ 0) (n5 := ρ 5) (n6 := ρ 6) (n7 := ρ 7) (n8 := ρ 8) (n9 := ρ 9) (n10 := ρ 10) (n11 := ρ 11) (n12 := ρ 12) (n13 := ρ 13) (n14 := ρ 14) (n15 := ρ 15) (n16 := ρ 16) (H0 := η 0) (H1 := η 1) (H2 := η 2) (H3 := η 3) (H4 := η 4) f22 f21 f20 f19 f18 f17 f16 f15 f14 f13 f12 f11 f10 f9 f8 f7 f6 f5 f4 f3 f2 f1 f0
theorem q_233w_5 {q0 : Nat} {n0 n1 n2 n3 n4 n5 n6 n7 n8 n9 n10 : Int} {H0 H1 H2 H3 : gH} (f0 : n2 = 285) (f1 : (hLe T0 H0 H1 ∧ hFr s_233.2.2.2.2 H0 H1 ∧ hWt T0 H1) ∧ ((Ab_233_2 n4 n3 n2 n1 n0 H0 H1 ∧ Bb_233_2 n4 n3 n2 n1 n0 H0 H1) ∧ preb_233 n4 n3 H0) ∧ some q0 = some (mub_233_2 n4 n3 n2 n1 n0 H0 H1)) (f2 : n5 = 48) (f3 : (hLe T0 H1 H2 ∧ hFr s_216.2.2.2.2 H1 H2 ∧ ((0 : Int) = 0 → H2.length = H1.length) ∧ hWt T0 H2) ∧ postb_216 n6 n2 n5 H1 H2) (f4 : n6 = 0) (f5 : n7 = hV H2 (n2).toNat 51) (f6 : (hLe T0 H2 H3 ∧ hFr s_236.2.2.2.2 H2 H3 ∧ ((0 : Int) = 0 → H3.length = H2.length) ∧ hWt T0 H3) ∧ (postb_236 n2 H2 H3 ∧ nb_236 n2 H2 H3)) (f7 : n8 = hV H3 (n2).toNat 13) (f8 : 0 < n8) (f9 : n10 = hV H3 (n2).toNat 13) (f10 : n10 ≠ 0) : Bb_233_85 n4 n3 n2 n1 n0 n7 n9 H0 H3 := by
  unfold Bb_233_85
  intro z
  have ga := f1.2.1.1.2
  unfold Bb_233_2 at ga
  obtain ⟨z1, ye⟩ := ga z
  have vz : vwR H1 = vwR H0 := vwR_fr f1.1.2.1 (by decide +kernel)
  have d17 := rdS (q := 285) f5 f0
  have d22 := rdS (q := 285) f7 f0
  have d28 := rdS (q := 285) f9 f0
  have q13 := f4
  have q23 := f8
  have q29 := f10
  have lo1 := z1.2.2.2.1
  have p0 := PR_fr f3.1.2.1 (by decide +kernel) z1
  have v0 : vwR H2 = vwR H0 := p0.2.1.trans vz
  have ah0 : absR H2 = (absR H1) := p0.1
  have i0 := f3.2
  unfold postb_216 at i0
  rw [f2] at i0
  have cm0 := f4
  have b0 := (isR_or (k := 48) p0.2.2.1 (by decide) i0).resolve_left (fun w => absurd (w.1.symm.trans cm0) (by decide))
  replace b0 := b0.2
  rw [v0, ah0, kmc_48] at b0
  have c1 := f6.2.2 p0.2.2.1
  rw [v0, ah0] at c1
  have v1 : vwR H3 = vwR H0 := (vwR_fr f6.1.2.1 (by decide +kernel)).trans v0
  rw [pNots_stop b0] at ye
  have ae := c1.2
  rw [ye] at ae
  have lox := c1.1.2.2.2.1
  have hn := absR_neg c1.1 (by omega)
  have ok := absR_ok c1.1
  rw [ae] at hn ok
  refine ⟨c1.1, .inr ⟨?_, fun c => ?_⟩⟩
  · rw [c1.2, ye]
    exact pfail_id hn ok
  · rw [vwR_ok H0 _ hn] at c
    omega
def g_233w_2_4 : vG := ([(31, [10], [], 0), (20, [10, 2], [3], 13), (34, [8], [], 0), (20, [8, 2], [3], 13), (1236, [2], [2, 3], 0), (20, [7, 2], [2], 51), (30, [6], [], 0), (1216, [6, 2, 5], [1, 2], 0), (0, [5], [], 48), (5000, [0, 1, 2, 3, 4], [0, 1], 2), (0, [2], [], 285)], (4000, [2, 3, 4, 7, 9], [3], 85))
theorem c_233w_2_4 {q0 : Nat} : vOkm T0 (eN e_233 L_233w A_233 mu_233 n_233 B_233 (some q0)) 2 g_233w_2_4 := vOk_inI fun ρ η f0 f1 f2 f3 f4 f5 f6 f7 f8 f9 f10 => q_233w_5 (q0 := q0) (n0 := ρ 4) (n1 := ρ 3) (n2 := ρ 2) (n3 := ρ 1) (n4 := ρ 0) (n5 := ρ 5) (n6 := ρ 6) (n7 := ρ 7) (n8 := ρ 8) (n9 := ρ 9) (n10 := ρ 10) (H0 := η 0) (H1 := η 1) (H2 := η 2) (H3 := η 3) f10 f9 f8 f7 f6 f5 f4 f3 f2 f1 f0
theorem q_233w_6 {q0 : Nat} {n0 n1 n2 n3 n4 n7 n9 : Int} {H0 H4 : gH} (f0 : n9 = 0) (f1 : n9 < 0) : Bb_233_85 n4 n3 n2 n1 n0 n7 n9 H0 H4 := by
  unfold Bb_233_85
  intro z
  exfalso
  have dd := f1
  have dc24 := f0
  omega
def g_233w_2_5 : vG := ([(32, [9], [], 0), (0, [9], [], 0)], (4000, [2, 3, 4, 7, 9], [4], 85))
theorem c_233w_2_5 {q0 : Nat} : vOkm T0 (eN e_233 L_233w A_233 mu_233 n_233 B_233 (some q0)) 2 g_233w_2_5 := vOk_inI fun ρ η f0 f1 => q_233w_6 (q0 := q0) (n0 := ρ 4) (n1 := ρ 3) (n2 := ρ 2) (n3 := ρ 1) (n4 := ρ 0) (n7 := ρ 7) (n9 := ρ 9) (H0 := η 0) (H4 := η 4) f1 f0
theorem q_233w_7 {q0 : Nat} {n0 n1 n2 n3 n4 n5 n6 n7 n8 n9 n10 n11 : Int} {H0 H1 H2 H3 : gH} (f0 : n2 = 285) (f1 : (hLe T0 H0 H1 ∧ hFr s_233.2.2.2.2 H0 H1 ∧ hWt T0 H1) ∧ ((Ab_233_2 n4 n3 n2 n1 n0 H0 H1 ∧ Bb_233_2 n4 n3 n2 n1 n0 H0 H1) ∧ preb_233 n4 n3 H0) ∧ some q0 = some (mub_233_2 n4 n3 n2 n1 n0 H0 H1)) (f2 : n5 = 48) (f3 : (hLe T0 H1 H2 ∧ hFr s_216.2.2.2.2 H1 H2 ∧ ((0 : Int) = 0 → H2.length = H1.length) ∧ hWt T0 H2) ∧ postb_216 n6 n2 n5 H1 H2) (f4 : n6 = 0) (f5 : n7 = hV H2 (n2).toNat 51) (f6 : (hLe T0 H2 H3 ∧ hFr s_236.2.2.2.2 H2 H3 ∧ ((0 : Int) = 0 → H3.length = H2.length) ∧ hWt T0 H3) ∧ (postb_236 n2 H2 H3 ∧ nb_236 n2 H2 H3)) (f7 : n8 = hV H3 (n2).toNat 13) (f8 : 0 < n8) (f9 : n9 = 0) (f10 : n10 = hV H3 (n2).toNat 13) (f11 : n10 = 0) (f12 : 0 ≤ n9) (f13 : n11 = 3) (f14 : n9 ≤ n11) : Bb_233_85 n4 n3 n2 n1 n0 n7 n9 H0 H3 := by
  exfalso
  clear f0 f1 f2 f3 f4 f5 f6 f9 f12 f13 f14
  omega
def g_233w_2_6 : vG := ([(45, [9, 11], [], 0), (0, [11], [], 3), (33, [9], [], 0), (30, [10], [], 0), (20, [10, 2], [3], 13), (0, [9], [], 0), (34, [8], [], 0), (20, [8, 2], [3], 13), (1236, [2], [2, 3], 0), (20, [7, 2], [2], 51), (30, [6], [], 0), (1216, [6, 2, 5], [1, 2], 0), (0, [5], [], 48), (5000, [0, 1, 2, 3, 4], [0, 1], 2), (0, [2], [], 285)], (4000, [2, 3, 4, 7, 9], [3], 85))
theorem c_233w_2_6 {q0 : Nat} : vOkm T0 (eN e_233 L_233w A_233 mu_233 n_233 B_233 (some q0)) 2 g_233w_2_6 := vOk_inI fun ρ η f0 f1 f2 f3 f4 f5 f6 f7 f8 f9 f10 f11 f12 f13 f14 => q_233w_7 (q0 := q0) (n0 := ρ 4) (n1 := ρ 3) (n2 := ρ 2) (n3 := ρ 1) (n4 := ρ 0) (n5 := ρ 5) (n6 := ρ 6) (n7 := ρ 7) (n8 := ρ 8) (n9 := ρ 9) (n10 := ρ 10) (n11 := ρ 11) (H0 := η 0) (H1 := η 1) (H2 := η 2) (H3 := η 3) f14 f13 f12 f11 f10 f9 f8 f7 f6 f5 f4 f3 f2 f1 f0
theorem q_233w_8 {q0 : Nat} {n0 n1 n2 n3 n4 n7 n9 n11 : Int} {H0 H4 : gH} (f0 : n9 = 0) (f1 : n11 = 3) (f2 : n11 < n9) : Bb_233_85 n4 n3 n2 n1 n0 n7 n9 H0 H4 := by
  unfold Bb_233_85
  intro z
  exfalso
  have dd := f2
  have dc24 := f0
  have dc31 := f1
  omega
def g_233w_2_7 : vG := ([(44, [9, 11], [], 0), (0, [11], [], 3), (0, [9], [], 0)], (4000, [2, 3, 4, 7, 9], [4], 85))
theorem c_233w_2_7 {q0 : Nat} : vOkm T0 (eN e_233 L_233w A_233 mu_233 n_233 B_233 (some q0)) 2 g_233w_2_7 := vOk_inI fun ρ η f0 f1 f2 => q_233w_8 (q0 := q0) (n0 := ρ 4) (n1 := ρ 3) (n2 := ρ 2) (n3 := ρ 1) (n4 := ρ 0) (n7 := ρ 7) (n9 := ρ 9) (n11 := ρ 11) (H0 := η 0) (H4 := η 4) f2 f1 f0
theorem q_233w_9 {q0 : Nat} {n0 n1 n2 n3 n4 n5 n6 n7 : Int} {H0 H1 H2 H3 : gH} (f0 : (hLe T0 H0 H1 ∧ hFr s_233.2.2.2.2 H0 H1 ∧ hWt T0 H1) ∧ ((Ab_233_2 n4 n3 n2 n1 n0 H0 H1 ∧ Bb_233_2 n4 n3 n2 n1 n0 H0 H1) ∧ preb_233 n4 n3 H0) ∧ some q0 = some (mub_233_2 n4 n3 n2 n1 n0 H0 H1)) (f1 : n5 = 48) (f2 : (hLe T0 H1 H2 ∧ hFr s_216.2.2.2.2 H1 H2 ∧ ((0 : Int) = 0 → H2.length = H1.length) ∧ hWt T0 H2) ∧ postb_216 n6 n2 n5 H1 H2) (f3 : n6 ≠ 0) (f4 : n0 ≠ 0) (f5 : (hLe T0 H2 H3 ∧ hFr s_219.2.2.2.2 H2 H3 ∧ ((0 : Int) = 0 → H3.length = H2.length) ∧ hWt T0 H3) ∧ (postb_219 n2 H2 H3 ∧ nb_219 n2 H2 H3)) : Bb_233_2 n4 n3 n2 n1 n7 H0 H3 := by
  unfold Bb_233_2
  intro z
  have ga := f0.2.1.1.2
  unfold Bb_233_2 at ga
  obtain ⟨z1, ye⟩ := ga z
  have vz : vwR H1 = vwR H0 := vwR_fr f0.1.2.1 (by decide +kernel)
  have q13 := f3
  have q14 := f4
  have lo1 := z1.2.2.2.1
  have p0 := PR_fr f2.1.2.1 (by decide +kernel) z1
  have v0 : vwR H2 = vwR H0 := p0.2.1.trans vz
  have ah0 : absR H2 = (absR H1) := p0.1
  have i0 := f2.2
  unfold postb_216 at i0
  rw [f1] at i0
  have cm0 := f3
  have b0 := (isR_or (k := 48) p0.2.2.1 (by decide) i0).resolve_right (fun w => cm0 w.1)
  replace b0 := b0.2
  rw [v0, ah0, kmc_48] at b0
  have c1 := f5.2.2 p0.2.2.1 (by rw [v0, ah0]; rw [b0]; decide)
  rw [v0, ah0, b0] at c1
  have v1 : vwR H3 = vwR H0 := (vwR_fr f5.1.2.1 (by decide +kernel)).trans v0
  have fz := faultR_no z1 (kdR_pos b0 (by decide))
  have r5 := absR_500 z1 fz
  rw [pNots_st z r5.1 r5.2 b0] at ye
  refine ⟨c1.1, ?_⟩
  rw [c1.2]
  exact ye
def g_233w_2_8 : vG := ([(1219, [2], [2, 3], 0), (31, [4], [], 0), (31, [6], [], 0), (1216, [6, 2, 5], [1, 2], 0), (0, [5], [], 48), (5000, [0, 1, 2, 3, 4], [0, 1], 2)], (4000, [2, 3, 7], [3], 2))
theorem c_233w_2_8 {q0 : Nat} : vOkm T0 (eN e_233 L_233w A_233 mu_233 n_233 B_233 (some q0)) 2 g_233w_2_8 := vOk_inI fun ρ η f0 f1 f2 f3 f4 f5 => q_233w_9 (q0 := q0) (n0 := ρ 4) (n1 := ρ 3) (n2 := ρ 2) (n3 := ρ 1) (n4 := ρ 0) (n5 := ρ 5) (n6 := ρ 6) (n7 := ρ 7) (H0 := η 0) (H1 := η 1) (H2 := η 2) (H3 := η 3) f5 f4 f3 f2 f1 f0
theorem q_233w_10 {q0 : Nat} {n0 n1 n2 n3 n4 n5 n6 n7 : Int} {H0 H1 H2 H3 : gH} (f0 : (hLe T0 H0 H1 ∧ hFr s_233.2.2.2.2 H0 H1 ∧ hWt T0 H1) ∧ ((Ab_233_2 n4 n3 n2 n1 n0 H0 H1 ∧ Bb_233_2 n4 n3 n2 n1 n0 H0 H1) ∧ preb_233 n4 n3 H0) ∧ some q0 = some (mub_233_2 n4 n3 n2 n1 n0 H0 H1)) (f1 : n5 = 48) (f2 : (hLe T0 H1 H2 ∧ hFr s_216.2.2.2.2 H1 H2 ∧ ((0 : Int) = 0 → H2.length = H1.length) ∧ hWt T0 H2) ∧ postb_216 n6 n2 n5 H1 H2) (f3 : n6 ≠ 0) (f4 : n0 = 0) (f5 : (hLe T0 H2 H3 ∧ hFr s_219.2.2.2.2 H2 H3 ∧ ((0 : Int) = 0 → H3.length = H2.length) ∧ hWt T0 H3) ∧ (postb_219 n2 H2 H3 ∧ nb_219 n2 H2 H3)) : Bb_233_2 n4 n3 n2 n1 n7 H0 H3 := by
  unfold Bb_233_2
  intro z
  have ga := f0.2.1.1.2
  unfold Bb_233_2 at ga
  obtain ⟨z1, ye⟩ := ga z
  have vz : vwR H1 = vwR H0 := vwR_fr f0.1.2.1 (by decide +kernel)
  have q13 := f3
  have q14 := f4
  have lo1 := z1.2.2.2.1
  have p0 := PR_fr f2.1.2.1 (by decide +kernel) z1
  have v0 : vwR H2 = vwR H0 := p0.2.1.trans vz
  have ah0 : absR H2 = (absR H1) := p0.1
  have i0 := f2.2
  unfold postb_216 at i0
  rw [f1] at i0
  have cm0 := f3
  have b0 := (isR_or (k := 48) p0.2.2.1 (by decide) i0).resolve_right (fun w => cm0 w.1)
  replace b0 := b0.2
  rw [v0, ah0, kmc_48] at b0
  have c1 := f5.2.2 p0.2.2.1 (by rw [v0, ah0]; rw [b0]; decide)
  rw [v0, ah0, b0] at c1
  have v1 : vwR H3 = vwR H0 := (vwR_fr f5.1.2.1 (by decide +kernel)).trans v0
  have fz := faultR_no z1 (kdR_pos b0 (by decide))
  have r5 := absR_500 z1 fz
  rw [pNots_st z r5.1 r5.2 b0] at ye
  refine ⟨c1.1, ?_⟩
  rw [c1.2]
  exact ye
def g_233w_2_9 : vG := ([(1219, [2], [2, 3], 0), (30, [4], [], 0), (31, [6], [], 0), (1216, [6, 2, 5], [1, 2], 0), (0, [5], [], 48), (5000, [0, 1, 2, 3, 4], [0, 1], 2)], (4000, [2, 3, 7], [3], 2))
theorem c_233w_2_9 {q0 : Nat} : vOkm T0 (eN e_233 L_233w A_233 mu_233 n_233 B_233 (some q0)) 2 g_233w_2_9 := vOk_inI fun ρ η f0 f1 f2 f3 f4 f5 => q_233w_10 (q0 := q0) (n0 := ρ 4) (n1 := ρ 3) (n2 := ρ 2) (n3 := ρ 1) (n4 := ρ 0) (n5 := ρ 5) (n6 := ρ 6) (n7 := ρ 7) (H0 := η 0) (H1 := η 1) (H2 := η 2) (H3 := η 3) f5 f4 f3 f2 f1 f0
def p_233w_2 : List vG := [g_233w_2_0,
  g_233w_2_1,
  g_233w_2_2,
  g_233w_2_3,
  g_233w_2_4,
  g_233w_2_5,
  g_233w_2_6,
  g_233w_2_7,
  g_233w_2_8,
  g_233w_2_9]
theorem r_233w_2 : vCovBO (eRc e_233 L_233 cs_233 2000 (2, [(0, (3, 12, 285, 0)), (1, (0, 0, 1, 0)), (2, (0, 0, 1, 0))])) p_233w_2 = true := by decide +kernel
theorem q_233w_11 {q0 : Nat} {n0 n1 n2 n3 n4 n5 n6 n7 n8 n9 n10 n11 n12 n13 n14 n15 n16 n17 n18 n19 n20 n21 n22 n23 n24 n26 n27 : Int} {H0 H1 H2 H3 H4 H5 H6 H7 H8 H9 H10 : gH} (f0 : n4 = 285) (f1 : (hLe T0 H0 H1 ∧ hFr s_233.2.2.2.2 H0 H1 ∧ hWt T0 H1) ∧ ((Ab_233_85 n6 n5 n4 n3 n2 n1 n0 H0 H1 ∧ Bb_233_85 n6 n5 n4 n3 n2 n1 n0 H0 H1) ∧ preb_233 n6 n5 H0) ∧ some q0 = some (mub_233_85 n6 n5 n4 n3 n2 n1 n0 H0 H1)) (f2 : (hLe T0 H1 H2 ∧ hFr s_219.2.2.2.2 H1 H2 ∧ ((0 : Int) = 0 → H2.length = H1.length) ∧ hWt T0 H2) ∧ (postb_219 n4 H1 H2 ∧ nb_219 n4 H1 H2)) (f3 : n7 = hV H2 (n4).toNat 51) (f4 : (hLe T0 H2 H3 ∧ hFr s_236.2.2.2.2 H2 H3 ∧ ((0 : Int) = 0 → H3.length = H2.length) ∧ hWt T0 H3) ∧ (postb_236 n4 H2 H3 ∧ nb_236 n4 H2 H3)) (f5 : n8 = hV H3 (n4).toNat 13) (f6 : n8 ≤ 0) (f7 : n9 = 314) (f8 : n10 = hV H3 (n4).toNat 44) (f9 : hUpd H4 H3 n9 n10 n0) (f10 : n11 = 315) (f11 : n12 = hV H4 (n4).toNat 44) (f12 : hUpd H5 H4 n11 n12 n13) (f13 : n14 = 316) (f14 : n15 = hV H5 (n4).toNat 44) (f15 : hUpd H6 H5 n14 n15 n16) (f16 : n17 = 317) (f17 : n18 = hV H6 (n4).toNat 44) (f18 : hUpd H7 H6 n17 n18 n1) (f19 : n19 = 318) (f20 : n20 = hV H7 (n4).toNat 44) (f21 : hUpd H8 H7 n19 n20 n7) (f22 : n21 = 319) (f23 : n22 = hV H8 (n4).toNat 44) (f24 : n23 = hV H8 (n4).toNat 51) (f25 : hUpd H9 H8 n21 n22 n23) (f26 : n24 = hV H9 (n4).toNat 44) (f27 : n27 = 44) (f28 : hUpd H10 H9 n4 n27 n26) : nb_233 n6 n5 H0 H10 := by
  unfold nb_233
  intro z
  have ga := f1.2.1.1.2
  unfold Bb_233_85 at ga
  obtain ⟨z1, ye⟩ := ga z
  have vz : vwR H1 = vwR H0 := vwR_fr f1.1.2.1 (by decide +kernel)
  have d17 := rdS (q := 285) f3 f0
  have d22 := rdS (q := 285) f5 f0
  have d30 := rdS (q := 285) f8 f0
  have d39 := rdS (q := 285) f11 f0
  have d49 := rdS (q := 285) f14 f0
  have d59 := rdS (q := 285) f17 f0
  have d68 := rdS (q := 285) f20 f0
  have d77 := rdS (q := 285) f23 f0
  have d81 := rdS (q := 285) f24 f0
  have d87 := rdS (q := 285) f26 f0
  have q23 := f6
  have nz : ¬ (vwR H1).1 (absR H1).1 = 0 := by
    rw [vz]
    rcases ye with ⟨w, a, b⟩ | ⟨w, _⟩
    · rw [w]
      omega
    · rw [w, vwR_ok H0 _ (pfailR_lt z (by decide))]
      decide
  have c0 := f2.2.2 z1 nz
  rw [vz] at c0
  have v0 : vwR H2 = vwR H0 := (vwR_fr f2.1.2.1 (by decide +kernel)).trans vz
  have e0 : absR H2 = pRel (vwR H0) (pExp (vwR H0) (pNots (vwR H0) (502 - (absR H0).1).toNat (absR H0))) := by
    rw [c0.2]
    unfold pRel
    rcases ye with ⟨w, a, b⟩ | ⟨w, n⟩
    · rw [w, if_pos ⟨a, b⟩]
    · rw [w, if_neg n, ptk_neg (pfailR_lt z (by decide)) pfail_ok]
  have c60 := f4.2.2 c0.1
  rw [v0, e0] at c60
  have v60 : vwR H3 = vwR H0 := (vwR_fr f4.1.2.1 (by decide +kernel)).trans v0
  have p61 := PR_row (q := 314) f9 f7 (by decide) c60.1
  have v61 : vwR H4 = vwR H0 := p61.2.1.trans v60
  have ah61 : absR H4 = (pExp (vwR H0) (pRel (vwR H0) (pExp (vwR H0) (pNots (vwR H0) (502 - (absR H0).1).toNat (absR H0))))) := p61.1.trans c60.2
  have p62 := PR_row (q := 315) f12 f10 (by decide) p61.2.2.1
  have v62 : vwR H5 = vwR H0 := p62.2.1.trans v61
  have ah62 : absR H5 = (pExp (vwR H0) (pRel (vwR H0) (pExp (vwR H0) (pNots (vwR H0) (502 - (absR H0).1).toNat (absR H0))))) := p62.1.trans ah61
  have p63 := PR_row (q := 316) f15 f13 (by decide) p62.2.2.1
  have v63 : vwR H6 = vwR H0 := p63.2.1.trans v62
  have ah63 : absR H6 = (pExp (vwR H0) (pRel (vwR H0) (pExp (vwR H0) (pNots (vwR H0) (502 - (absR H0).1).toNat (absR H0))))) := p63.1.trans ah62
  have p64 := PR_row (q := 317) f18 f16 (by decide) p63.2.2.1
  have v64 : vwR H7 = vwR H0 := p64.2.1.trans v63
  have ah64 : absR H7 = (pExp (vwR H0) (pRel (vwR H0) (pExp (vwR H0) (pNots (vwR H0) (502 - (absR H0).1).toNat (absR H0))))) := p64.1.trans ah63
  have p65 := PR_row (q := 318) f21 f19 (by decide) p64.2.2.1
  have v65 : vwR H8 = vwR H0 := p65.2.1.trans v64
  have ah65 : absR H8 = (pExp (vwR H0) (pRel (vwR H0) (pExp (vwR H0) (pNots (vwR H0) (502 - (absR H0).1).toNat (absR H0))))) := p65.1.trans ah64
  have p66 := PR_row (q := 319) f25 f22 (by decide) p65.2.2.1
  have v66 : vwR H9 = vwR H0 := p66.2.1.trans v65
  have ah66 : absR H9 = (pExp (vwR H0) (pRel (vwR H0) (pExp (vwR H0) (pNots (vwR H0) (502 - (absR H0).1).toNat (absR H0))))) := p66.1.trans ah65
  have p67 := PR_slot (s := 44) f28 f0 f27 (by decide) p66.2.2.1
  have v67 : vwR H10 = vwR H0 := p67.2.1.trans v66
  have ah67 : absR H10 = (pExp (vwR H0) (pRel (vwR H0) (pExp (vwR H0) (pNots (vwR H0) (502 - (absR H0).1).toNat (absR H0))))) := p67.1.trans ah66
  exact ⟨p67.2.2.1, ah67⟩
def g_233w_85_0 : vG := ([(80, [2, 27, 26], [10, 9], 0), (0, [27], [], 44), (20, [24, 2], [9], 44), (80, [21, 22, 23], [9, 8], 0), (20, [23, 2], [8], 51), (20, [22, 2], [8], 44), (0, [21], [], 319), (80, [19, 20, 7], [8, 7], 0), (20, [20, 2], [7], 44), (0, [19], [], 318), (80, [17, 18, 5], [7, 6], 0), (20, [18, 2], [6], 44), (0, [17], [], 317), (80, [14, 15, 16], [6, 5], 0), (20, [15, 2], [5], 44), (0, [14], [], 316), (80, [11, 12, 13], [5, 4], 0), (20, [12, 2], [4], 44), (0, [11], [], 315), (80, [9, 10, 6], [4, 3], 0), (20, [10, 2], [3], 44), (0, [9], [], 314), (35, [8], [], 0), (20, [8, 2], [3], 13), (1236, [2], [2, 3], 0), (20, [7, 2], [2], 51), (1219, [2], [1, 2], 0), (5000, [0, 1, 2, 3, 4, 5, 6], [0, 1], 85), (0, [2], [], 285)], (3000, [], [10], 182))
theorem c_233w_85_0 {q0 : Nat} : vOkm T0 (eN e_233 L_233w A_233 mu_233 n_233 B_233 (some q0)) 2 g_233w_85_0 := vOk_inI fun ρ η f0 f1 f2 f3 f4 f5 f6 f7 f8 f9 f10 f11 f12 f13 f14 f15 f16 f17 f18 f19 f20 f21 f22 f23 f24 f25 f26 f27 f28 => q_233w_11 (q0 := q0) (n0 := ρ 6) (n1 := ρ 5) (n2 := ρ 4) (n3 := ρ 3) (n4 := ρ 2) (n5 := ρ 1) (n6 := ρ 0) (n7 := ρ 7) (n8 := ρ 8) (n9 := ρ 9) (n10 := ρ 10) (n11 := ρ 11) (n12 := ρ 12) (n13 := ρ 13) (n14 := ρ 14) (n15 := ρ 15) (n16 := ρ 16) (n17 := ρ 17) (n18 := ρ 18) (n19 := ρ 19) (n20 := ρ 20) (n21 := ρ 21) (n22 := ρ 22) (n23 := ρ 23) (n24 := ρ 24) (n26 := ρ 26) (n27 := ρ 27) (H0 := η 0) (H1 := η 1) (H2 := η 2) (H3 := η 3) (H4 := η 4) (H5 := η 5) (H6 := η 6) (H7 := η 7) (H8 := η 8) (H9 := η 9) (H10 := η 10) f28 f27 f26 f25 f24 f23 f22 f21 f20 f19 f18 f17 f16 f15 f14 f13 f12 f11 f10 f9 f8 f7 f6 f5 f4 f3 f2 f1 f0
theorem q_233w_12 {q0 : Nat} {n0 n1 n2 n3 n4 n5 n6 n7 n8 : Int} {H0 H1 H2 H3 : gH} (f0 : n4 = 285) (f1 : (hLe T0 H0 H1 ∧ hFr s_233.2.2.2.2 H0 H1 ∧ hWt T0 H1) ∧ ((Ab_233_85 n6 n5 n4 n3 n2 n1 n0 H0 H1 ∧ Bb_233_85 n6 n5 n4 n3 n2 n1 n0 H0 H1) ∧ preb_233 n6 n5 H0) ∧ some q0 = some (mub_233_85 n6 n5 n4 n3 n2 n1 n0 H0 H1)) (f2 : (hLe T0 H1 H2 ∧ hFr s_219.2.2.2.2 H1 H2 ∧ ((0 : Int) = 0 → H2.length = H1.length) ∧ hWt T0 H2) ∧ (postb_219 n4 H1 H2 ∧ nb_219 n4 H1 H2)) (f3 : n7 = hV H2 (n4).toNat 51) (f4 : (hLe T0 H2 H3 ∧ hFr s_236.2.2.2.2 H2 H3 ∧ ((0 : Int) = 0 → H3.length = H2.length) ∧ hWt T0 H3) ∧ (postb_236 n4 H2 H3 ∧ nb_236 n4 H2 H3)) (f5 : n8 = hV H3 (n4).toNat 13) (f6 : 0 < n8) : nb_233 n6 n5 H0 H3 := by
  unfold nb_233
  intro z
  have ga := f1.2.1.1.2
  unfold Bb_233_85 at ga
  obtain ⟨z1, ye⟩ := ga z
  have vz : vwR H1 = vwR H0 := vwR_fr f1.1.2.1 (by decide +kernel)
  have d17 := rdS (q := 285) f3 f0
  have d22 := rdS (q := 285) f5 f0
  have q23 := f6
  have nz : ¬ (vwR H1).1 (absR H1).1 = 0 := by
    rw [vz]
    rcases ye with ⟨w, a, b⟩ | ⟨w, _⟩
    · rw [w]
      omega
    · rw [w, vwR_ok H0 _ (pfailR_lt z (by decide))]
      decide
  have c0 := f2.2.2 z1 nz
  rw [vz] at c0
  have v0 : vwR H2 = vwR H0 := (vwR_fr f2.1.2.1 (by decide +kernel)).trans vz
  have e0 : absR H2 = pRel (vwR H0) (pExp (vwR H0) (pNots (vwR H0) (502 - (absR H0).1).toNat (absR H0))) := by
    rw [c0.2]
    unfold pRel
    rcases ye with ⟨w, a, b⟩ | ⟨w, n⟩
    · rw [w, if_pos ⟨a, b⟩]
    · rw [w, if_neg n, ptk_neg (pfailR_lt z (by decide)) pfail_ok]
  have c60 := f4.2.2 c0.1
  rw [v0, e0] at c60
  have v60 : vwR H3 = vwR H0 := (vwR_fr f4.1.2.1 (by decide +kernel)).trans v0
  exact ⟨c60.1, c60.2⟩
def g_233w_85_1 : vG := ([(34, [8], [], 0), (20, [8, 2], [3], 13), (1236, [2], [2, 3], 0), (20, [7, 2], [2], 51), (1219, [2], [1, 2], 0), (5000, [0, 1, 2, 3, 4, 5, 6], [0, 1], 85), (0, [2], [], 285)], (3000, [], [3], 106))
theorem c_233w_85_1 {q0 : Nat} : vOkm T0 (eN e_233 L_233w A_233 mu_233 n_233 B_233 (some q0)) 2 g_233w_85_1 := vOk_inI fun ρ η f0 f1 f2 f3 f4 f5 f6 => q_233w_12 (q0 := q0) (n0 := ρ 6) (n1 := ρ 5) (n2 := ρ 4) (n3 := ρ 3) (n4 := ρ 2) (n5 := ρ 1) (n6 := ρ 0) (n7 := ρ 7) (n8 := ρ 8) (H0 := η 0) (H1 := η 1) (H2 := η 2) (H3 := η 3) f6 f5 f4 f3 f2 f1 f0
def p_233w_85 : List vG := [g_233w_85_0,
  g_233w_85_1]
theorem r_233w_85 : vCovBO (eRc e_233 L_233 cs_233 2000 (85, [(0, (3, 12, 285, 0)), (1, (0, 0, 1, 0)), (2, (0, 0, 1, 0)), (3, (0, 0, 1200, 0)), (4, (0, -2147483648, 2147483647, 0))])) p_233w_85 = true := by decide +kernel
theorem m_233w (d : Nat) : eC e_233w (d + 5) := eC_ref (e := e_233) (L := L_233) (L' := L_233w) (cs := cs_233) (n := 2000) (d := d + 4) (A := A_233) (μ := mu_233) (tp := false) (p0 := p_233_s) (p1 := p_233w_s) (N := n_233) (B := B_233) rfl ⟨m_216 (d + 3), ⟨m_217w (d + 3), ⟨m_219w (d + 2), ⟨m_236w d, trivial⟩⟩⟩⟩ rfl (.inl rfl) (by decide +kernel) (fun z => nomatch z) r_233_s (allC c_233_s_0 allN) (allC (.inl ⟨p_233_2, r_233_2, fun q0 => (allC c_233_2_0 (allC c_233_2_1 (allC c_233_2_2 (allC c_233_2_3 (allC c_233_2_4 (allC c_233_2_5 (allC c_233_2_6 (allC c_233_2_7 (allC c_233_2_8 (allC c_233_2_9 (allC c_233_2_10 allN)))))))))))⟩) (allC (.inl ⟨p_233_85, r_233_85, fun q0 => (allC c_233_85_0 (allC c_233_85_1 (allC c_233_85_2 (allC c_233_85_3 (allC c_233_85_4 (allC c_233_85_5 (allC c_233_85_6 (allC c_233_85_7 (allC c_233_85_8 (allC c_233_85_9 (allC c_233_85_10 (allC c_233_85_11 (allC c_233_85_12 allN)))))))))))))⟩) allN)) (sub0 (sub1 (sub1 (sub1 trivial)))) r_233w_s (allC c_233w_s_0 allN) (allC ⟨p_233w_2, r_233w_2, fun q0 => (allC c_233w_2_0 (allC c_233w_2_1 (allC c_233w_2_2 (allC c_233w_2_3 (allC c_233w_2_4 (allC c_233w_2_5 (allC c_233w_2_6 (allC c_233w_2_7 (allC c_233w_2_8 (allC c_233w_2_9 allN))))))))))⟩ (allC ⟨p_233w_85, r_233w_85, fun q0 => (allC c_233w_85_0 (allC c_233w_85_1 allN))⟩ allN))
