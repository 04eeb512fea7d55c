/- MixStageModel.unit ()V, more fully -/
def nb_237 (a0 : Int) (h0 h : gH) : Prop := RI h0 → RI h ∧ absR h = pUn (vwR h0) (absR h0)
def n_237 : List Int → gH → gH → Prop := fun xs h0 h => match xs with
  | [a0] => nb_237 a0 h0 h
  | _ => True
noncomputable def e_237w : vE := eV e_237 n_237
noncomputable def L_237w : List vE := [e_216, e_217w, e_219w, e_234]
def B_237 : Int → List Int → gH → gH → Prop := fun c xs h0 h => True
theorem q_237w_0 {n0 n1 n2 n3 n4 : Int} {H0 H1 H2 : gH} (f0 : n0 = 285) (f1 : n1 = 2) (f2 : (hLe T0 H0 H1 ∧ hFr s_216.2.2.2.2 H0 H1 ∧ ((0 : Int) = 0 → H1.length = H0.length) ∧ hWt T0 H1) ∧ postb_216 n2 n0 n1 H0 H1) (f3 : n2 = 0) (f4 : n3 = hV H1 (n0).toNat 13) (f5 : n3 ≠ 0) (f6 : n4 = 1) (f7 : (hLe T0 H1 H2 ∧ hFr s_217.2.2.2.2 H1 H2 ∧ ((0 : Int) = 0 → H2.length = H1.length) ∧ hWt T0 H2) ∧ (postb_217 n0 n4 H1 H2 ∧ nb_217 n0 n4 H1 H2)) : nb_237 n0 H0 H2 := by
  unfold nb_237
  intro z
  have d10 := rdS (q := 285) f4 f0
  have q6 := f3
  have q11 := f5
  have p0 := PR_fr f2.1.2.1 (by decide +kernel) z
  have v0 : vwR H1 = vwR H0 := p0.2.1
  have ah0 : absR H1 = (absR H0) := p0.1
  have i0 := f2.2
  unfold postb_216 at i0
  rw [f1] at i0
  have cm0 := f3
  have b0 := (isR_or (k := 2) p0.2.2.1 (by decide) i0).resolve_left (fun w => absurd (w.1.symm.trans cm0) (by decide))
  replace b0 := b0.2
  rw [v0, ah0, kmc_2] at b0
  have c1 := f7.2.2 p0.2.2.1
  try rw [f6] at c1
  rw [v0, ah0] at c1
  have v1 : vwR H2 = vwR H0 := (vwR_fr f7.1.2.1 (by decide +kernel)).trans v0
  have h13 : hV H1 285 13 = hV H0 285 13 := f2.1.2.1.1 285 13 (by decide +kernel)
  have hn := absR_neg z (by omega)
  have kn := vwR_ok H0 _ hn
  refine ⟨c1.1, ?_⟩
  rw [c1.2]
  unfold pUn
  rw [if_neg (by omega)]
def g_237w_s_0 : vG := ([(1217, [0, 4], [1, 2], 0), (0, [4], [], 1), (31, [3], [], 0), (20, [3, 0], [1], 13), (30, [2], [], 0), (1216, [2, 0, 1], [0, 1], 0), (0, [1], [], 2), (0, [0], [], 285)], (3000, [], [2], 93))
theorem c_237w_s_0 : vOkm T0 (eN e_237 L_237w A_237 mu_237 n_237 B_237 none) 1 g_237w_s_0 := vOk_inI fun ρ η f0 f1 f2 f3 f4 f5 f6 f7 => q_237w_0 (n0 := ρ 0) (n1 := ρ 1) (n2 := ρ 2) (n3 := ρ 3) (n4 := ρ 4) (H0 := η 0) (H1 := η 1) (H2 := η 2) f7 f6 f5 f4 f3 f2 f1 f0
theorem q_237w_1 {n0 n1 n2 n3 n4 n5 n6 n7 n8 : Int} {H0 H1 H2 : gH} (f0 : n0 = 285) (f1 : n1 = 2) (f2 : (hLe T0 H0 H1 ∧ hFr s_216.2.2.2.2 H0 H1 ∧ ((0 : Int) = 0 → H1.length = H0.length) ∧ hWt T0 H1) ∧ postb_216 n2 n0 n1 H0 H1) (f3 : n2 = 0) (f4 : n3 = hV H1 (n0).toNat 13) (f5 : n3 = 0) (f6 : n4 = 288) (f7 : n5 = hV H1 (n0).toNat 11) (f8 : n6 = hV H1 (n4).toNat (n5).toNat) (f9 : n7 = 49) (f10 : n6 < n7) (f11 : n8 = 1) (f12 : (hLe T0 H1 H2 ∧ hFr s_217.2.2.2.2 H1 H2 ∧ ((0 : Int) = 0 → H2.length = H1.length) ∧ hWt T0 H2) ∧ (postb_217 n0 n8 H1 H2 ∧ nb_217 n0 n8 H1 H2)) : nb_237 n0 H0 H2 := by
  unfold nb_237
  intro z
  have d10 := rdS (q := 285) f4 f0
  have d18 := rdS (q := 285) f7 f0
  have d21 := rdW (q := 288) f8 f6
  have q6 := f3
  have q11 := f5
  have q23 := f10
  have qc22 := f9
  have p0 := PR_fr f2.1.2.1 (by decide +kernel) z
  have v0 : vwR H1 = vwR H0 := p0.2.1
  have ah0 : absR H1 = (absR H0) := p0.1
  have i0 := f2.2
  unfold postb_216 at i0
  rw [f1] at i0
  have cm0 := f3
  have b0 := (isR_or (k := 2) p0.2.2.1 (by decide) i0).resolve_left (fun w => absurd (w.1.symm.trans cm0) (by decide))
  replace b0 := b0.2
  rw [v0, ah0, kmc_2] at b0
  have c1 := f12.2.2 p0.2.2.1
  try rw [f11] at c1
  rw [v0, ah0] at c1
  have v1 : vwR H2 = vwR H0 := (vwR_fr f12.1.2.1 (by decide +kernel)).trans v0
  have h13 : hV H1 285 13 = hV H0 285 13 := f2.1.2.1.1 285 13 (by decide +kernel)
  have h11 : hV H1 285 11 = hV H0 285 11 := f2.1.2.1.1 285 11 (by decide +kernel)
  have h288 : hV H1 288 = hV H0 288 := fRow f2.1.2.1 288 (by decide +kernel)
  have kk := kindR_at z (by omega)
  rw [h288, d18, h11] at d21
  rw [← d21] at kk
  have kv := km_var (k := n6)
  refine ⟨c1.1, ?_⟩
  rw [c1.2]
  unfold pUn
  rw [if_neg (by omega)]
def g_237w_s_1 : vG := ([(1217, [0, 8], [1, 2], 0), (0, [8], [], 1), (42, [6, 7], [], 0), (0, [7], [], 49), (22, [6, 4, 5], [1], 0), (20, [5, 0], [1], 11), (0, [4], [], 288), (30, [3], [], 0), (20, [3, 0], [1], 13), (30, [2], [], 0), (1216, [2, 0, 1], [0, 1], 0), (0, [1], [], 2), (0, [0], [], 285)], (3000, [], [2], 93))
theorem c_237w_s_1 : vOkm T0 (eN e_237 L_237w A_237 mu_237 n_237 B_237 none) 1 g_237w_s_1 := vOk_inI fun ρ η f0 f1 f2 f3 f4 f5 f6 f7 f8 f9 f10 f11 f12 => q_237w_1 (n0 := ρ 0) (n1 := ρ 1) (n2 := ρ 2) (n3 := ρ 3) (n4 := ρ 4) (n5 := ρ 5) (n6 := ρ 6) (n7 := ρ 7) (n8 := ρ 8) (H0 := η 0) (H1 := η 1) (H2 := η 2) f12 f11 f10 f9 f8 f7 f6 f5 f4 f3 f2 f1 f0
theorem q_237w_2 {n0 n1 n2 n3 n4 n5 n6 n7 n8 n9 n10 n11 n12 : Int} {H0 H1 H2 : gH} (f0 : n0 = 285) (f1 : n1 = 2) (f2 : (hLe T0 H0 H1 ∧ hFr s_216.2.2.2.2 H0 H1 ∧ ((0 : Int) = 0 → H1.length = H0.length) ∧ hWt T0 H1) ∧ postb_216 n2 n0 n1 H0 H1) (f3 : n2 = 0) (f4 : n3 = hV H1 (n0).toNat 13) (f5 : n3 = 0) (f6 : n4 = 288) (f7 : n5 = hV H1 (n0).toNat 11) (f8 : n6 = hV H1 (n4).toNat (n5).toNat) (f9 : n7 = 49) (f10 : n7 ≤ n6) (f11 : n8 = 288) (f12 : n9 = hV H1 (n0).toNat 11) (f13 : n10 = hV H1 (n8).toNat (n9).toNat) (f14 : n11 = 53) (f15 : n11 < n10) (f16 : n12 = 1) (f17 : (hLe T0 H1 H2 ∧ hFr s_217.2.2.2.2 H1 H2 ∧ ((0 : Int) = 0 → H2.length = H1.length) ∧ hWt T0 H2) ∧ (postb_217 n0 n12 H1 H2 ∧ nb_217 n0 n12 H1 H2)) : nb_237 n0 H0 H2 := by
  unfold nb_237
  intro z
  have d10 := rdS (q := 285) f4 f0
  have d18 := rdS (q := 285) f7 f0
  have d21 := rdW (q := 288) f8 f6
  have d30 := rdS (q := 285) f12 f0
  have d33 := rdW (q := 288) f13 f11
  have q6 := f3
  have q11 := f5
  have q23 := f10
  have qc22 := f9
  have q35 := f15
  have qc34 := f14
  have p0 := PR_fr f2.1.2.1 (by decide +kernel) z
  have v0 : vwR H1 = vwR H0 := p0.2.1
  have ah0 : absR H1 = (absR H0) := p0.1
  have i0 := f2.2
  unfold postb_216 at i0
  rw [f1] at i0
  have cm0 := f3
  have b0 := (isR_or (k := 2) p0.2.2.1 (by decide) i0).resolve_left (fun w => absurd (w.1.symm.trans cm0) (by decide))
  replace b0 := b0.2
  rw [v0, ah0, kmc_2] at b0
  have c1 := f17.2.2 p0.2.2.1
  try rw [f16] at c1
  rw [v0, ah0] at c1
  have v1 : vwR H2 = vwR H0 := (vwR_fr f17.1.2.1 (by decide +kernel)).trans v0
  have h13 : hV H1 285 13 = hV H0 285 13 := f2.1.2.1.1 285 13 (by decide +kernel)
  have h11 : hV H1 285 11 = hV H0 285 11 := f2.1.2.1.1 285 11 (by decide +kernel)
  have h288 : hV H1 288 = hV H0 288 := fRow f2.1.2.1 288 (by decide +kernel)
  have kk := kindR_at z (by omega)
  rw [h288, d30, h11] at d33
  rw [← d33] at kk
  have kv := km_var (k := n10)
  refine ⟨c1.1, ?_⟩
  rw [c1.2]
  unfold pUn
  rw [if_neg (by omega)]
def g_237w_s_2 : vG := ([(1217, [0, 12], [1, 2], 0), (0, [12], [], 1), (44, [10, 11], [], 0), (0, [11], [], 53), (22, [10, 8, 9], [1], 0), (20, [9, 0], [1], 11), (0, [8], [], 288), (43, [6, 7], [], 0), (0, [7], [], 49), (22, [6, 4, 5], [1], 0), (20, [5, 0], [1], 11), (0, [4], [], 288), (30, [3], [], 0), (20, [3, 0], [1], 13), (30, [2], [], 0), (1216, [2, 0, 1], [0, 1], 0), (0, [1], [], 2), (0, [0], [], 285)], (3000, [], [2], 93))
theorem c_237w_s_2 : vOkm T0 (eN e_237 L_237w A_237 mu_237 n_237 B_237 none) 1 g_237w_s_2 := vOk_inI fun ρ η f0 f1 f2 f3 f4 f5 f6 f7 f8 f9 f10 f11 f12 f13 f14 f15 f16 f17 => q_237w_2 (n0 := ρ 0) (n1 := ρ 1) (n2 := ρ 2) (n3 := ρ 3) (n4 := ρ 4) (n5 := ρ 5) (n6 := ρ 6) (n7 := ρ 7) (n8 := ρ 8) (n9 := ρ 9) (n10 := ρ 10) (n11 := ρ 11) (n12 := ρ 12) (H0 := η 0) (H1 := η 1) (H2 := η 2) f17 f16 f15 f14 f13 f12 f11 f10 f9 f8 f7 f6 f5 f4 f3 f2 f1 f0
theorem q_237w_3 {n0 n1 n2 n3 n4 n5 n6 n7 n8 n9 n10 n11 n12 n13 n14 n15 n17 : Int} {H0 H1 H2 H3 : gH} (f0 : n0 = 285) (f1 : n1 = 2) (f2 : (hLe T0 H0 H1 ∧ hFr s_216.2.2.2.2 H0 H1 ∧ ((0 : Int) = 0 → H1.length = H0.length) ∧ hWt T0 H1) ∧ postb_216 n2 n0 n1 H0 H1) (f3 : n2 = 0) (f4 : n3 = hV H1 (n0).toNat 13) (f5 : n3 = 0) (f6 : n4 = 288) (f7 : n5 = hV H1 (n0).toNat 11) (f8 : n6 = hV H1 (n4).toNat (n5).toNat) (f9 : n7 = 49) (f10 : n7 ≤ n6) (f11 : n8 = 288) (f12 : n9 = hV H1 (n0).toNat 11) (f13 : n10 = hV H1 (n8).toNat (n9).toNat) (f14 : n11 = 53) (f15 : n10 ≤ n11) (f16 : n13 = 288) (f17 : n14 = hV H1 (n0).toNat 11) (f18 : n15 = hV H1 (n13).toNat (n14).toNat) (f19 : (hLe T0 H1 H2 ∧ hFr s_234.2.2.2.2 H1 H2 ∧ ((0 : Int) = 0 → H2.length = H1.length) ∧ hWt T0 H2) ∧ postb_234 n0 n12 n17 H1 H2) (f20 : (hLe T0 H2 H3 ∧ hFr s_219.2.2.2.2 H2 H3 ∧ ((0 : Int) = 0 → H3.length = H2.length) ∧ hWt T0 H3) ∧ (postb_219 n0 H2 H3 ∧ nb_219 n0 H2 H3)) : nb_237 n0 H0 H3 := by
  unfold nb_237
  intro z
  have d10 := rdS (q := 285) f4 f0
  have d18 := rdS (q := 285) f7 f0
  have d21 := rdW (q := 288) f8 f6
  have d30 := rdS (q := 285) f12 f0
  have d33 := rdW (q := 288) f13 f11
  have d43 := rdS (q := 285) f17 f0
  have d46 := rdW (q := 288) f18 f16
  have q6 := f3
  have q11 := f5
  have q23 := f10
  have qc22 := f9
  have q35 := f15
  have qc34 := f14
  have kd : (vwR H0).1 (absR H0).1 = (vwR H0).1 (absR H0).1 := rfl
  have pp := PR_fr f2.1.2.1 (by decide +kernel) z
  have ii := f2.2
  unfold postb_216 at ii
  rw [f1] at ii
  have ic := f3
  have h13 : hV H1 285 13 = hV H0 285 13 := f2.1.2.1.1 285 13 (by decide +kernel)
  have h11 : hV H1 285 11 = hV H0 285 11 := f2.1.2.1.1 285 11 (by decide +kernel)
  have h288 : hV H1 288 = hV H0 288 := fRow f2.1.2.1 288 (by decide +kernel)
  have kk := kindR_at z (by omega)
  rw [h288, d30, h11] at d33
  rw [h288, d18, h11] at d21
  have kv := (km_var (k := n10)).mpr (by omega)
  rw [d33, ← kk] at kv
  have p0 := PR_fr f2.1.2.1 (by decide +kernel) z
  have v0 : vwR H1 = vwR H0 := p0.2.1
  have ah0 : absR H1 = (absR H0) := p0.1
  have i0 := f2.2
  unfold postb_216 at i0
  rw [f1] at i0
  have cm0 := f3
  have b0 := (isR_or (k := 2) p0.2.2.1 (by decide) i0).resolve_left (fun w => absurd (w.1.symm.trans cm0) (by decide))
  replace b0 := b0.2
  rw [v0, ah0, kmc_2] at b0
  have p1 := PR_fr f19.1.2.1 (by decide +kernel) p0.2.2.1
  have v1 : vwR H2 = vwR H0 := p1.2.1.trans v0
  have ah1 : absR H2 = (absR H0) := p1.1.trans ah0
  have c2 := f20.2.2 p1.2.2.1 (by rw [v1, ah1]; rw [kd]; omega)
  rw [v1, ah1, kd] at c2
  have v2 : vwR H3 = vwR H0 := (vwR_fr f20.1.2.1 (by decide +kernel)).trans v1
  refine ⟨c2.1, ?_⟩
  rw [c2.2]
  unfold pUn
  rw [if_pos (by omega)]
def g_237w_s_3 : vG := ([(1219, [0], [2, 3], 0), (1234, [0, 12, 17], [1, 2], 0), (22, [15, 13, 14], [1], 0), (20, [14, 0], [1], 11), (0, [13], [], 288), (45, [10, 11], [], 0), (0, [11], [], 53), (22, [10, 8, 9], [1], 0), (20, [9, 0], [1], 11), (0, [8], [], 288), (43, [6, 7], [], 0), (0, [7], [], 49), (22, [6, 4, 5], [1], 0), (20, [5, 0], [1], 11), (0, [4], [], 288), (30, [3], [], 0), (20, [3, 0], [1], 13), (30, [2], [], 0), (1216, [2, 0, 1], [0, 1], 0), (0, [1], [], 2), (0, [0], [], 285)], (3000, [], [3], 93))
theorem c_237w_s_3 : vOkm T0 (eN e_237 L_237w A_237 mu_237 n_237 B_237 none) 1 g_237w_s_3 := vOk_inI fun ρ η f0 f1 f2 f3 f4 f5 f6 f7 f8 f9 f10 f11 f12 f13 f14 f15 f16 f17 f18 f19 f20 => q_237w_3 (n0 := ρ 0) (n1 := ρ 1) (n2 := ρ 2) (n3 := ρ 3) (n4 := ρ 4) (n5 := ρ 5) (n6 := ρ 6) (n7 := ρ 7) (n8 := ρ 8) (n9 := ρ 9) (n10 := ρ 10) (n11 := ρ 11) (n12 := ρ 12) (n13 := ρ 13) (n14 := ρ 14) (n15 := ρ 15) (n17 := ρ 17) (H0 := η 0) (H1 := η 1) (H2 := η 2) (H3 := η 3) f20 f19 f18 f17 f16 f15 f14 f13 f12 f11 f10 f9 f8 f7 f6 f5 f4 f3 f2 f1 f0
theorem q_237w_4 {n0 n1 n2 n3 n4 n5 n6 : Int} {H0 H1 H2 H3 : gH} (f0 : n0 = 285) (f1 : n1 = 2) (f2 : (hLe T0 H0 H1 ∧ hFr s_216.2.2.2.2 H0 H1 ∧ ((0 : Int) = 0 → H1.length = H0.length) ∧ hWt T0 H1) ∧ postb_216 n2 n0 n1 H0 H1) (f3 : n2 ≠ 0) (f4 : n4 = 290) (f5 : n5 = hV H1 (n0).toNat 11) (f6 : n6 = hV H1 (n4).toNat (n5).toNat) (f7 : (hLe T0 H1 H2 ∧ hFr s_234.2.2.2.2 H1 H2 ∧ ((0 : Int) = 0 → H2.length = H1.length) ∧ hWt T0 H2) ∧ postb_234 n0 n3 n6 H1 H2) (f8 : (hLe T0 H2 H3 ∧ hFr s_219.2.2.2.2 H2 H3 ∧ ((0 : Int) = 0 → H3.length = H2.length) ∧ hWt T0 H3) ∧ (postb_219 n0 H2 H3 ∧ nb_219 n0 H2 H3)) : nb_237 n0 H0 H3 := by
  unfold nb_237
  intro z
  have d14 := rdS (q := 285) f5 f0
  have d17 := rdW (q := 290) f6 f4
  have q6 := f3
  have kd : (vwR H0).1 (absR H0).1 = (vwR H0).1 (absR H0).1 := rfl
  have pp := PR_fr f2.1.2.1 (by decide +kernel) z
  have ii := f2.2
  unfold postb_216 at ii
  rw [f1] at ii
  have ic := f3
  have kv : (vwR H0).1 (absR H0).1 = 3 := by
    have b := (isR_or (k := 2) pp.2.2.1 (by decide) ii).resolve_right (fun w => ic w.1)
    have b2 := b.2
    rw [pp.2.1, pp.1] at b2
    exact b2
  have p0 := PR_fr f2.1.2.1 (by decide +kernel) z
  have v0 : vwR H1 = vwR H0 := p0.2.1
  have ah0 : absR H1 = (absR H0) := p0.1
  have i0 := f2.2
  unfold postb_216 at i0
  rw [f1] at i0
  have cm0 := f3
  have b0 := (isR_or (k := 2) p0.2.2.1 (by decide) i0).resolve_right (fun w => cm0 w.1)
  replace b0 := b0.2
  rw [v0, ah0, kmc_2] at b0
  have p1 := PR_fr f7.1.2.1 (by decide +kernel) p0.2.2.1
  have v1 : vwR H2 = vwR H0 := p1.2.1.trans v0
  have ah1 : absR H2 = (absR H0) := p1.1.trans ah0
  have c2 := f8.2.2 p1.2.2.1 (by rw [v1, ah1]; rw [b0]; decide)
  rw [v1, ah1, b0] at c2
  have v2 : vwR H3 = vwR H0 := (vwR_fr f8.1.2.1 (by decide +kernel)).trans v1
  refine ⟨c2.1, ?_⟩
  rw [c2.2]
  unfold pUn
  rw [if_pos (by omega), kv]
def g_237w_s_4 : vG := ([(1219, [0], [2, 3], 0), (1234, [0, 3, 6], [1, 2], 0), (22, [6, 4, 5], [1], 0), (20, [5, 0], [1], 11), (0, [4], [], 290), (31, [2], [], 0), (1216, [2, 0, 1], [0, 1], 0), (0, [1], [], 2), (0, [0], [], 285)], (3000, [], [3], 93))
theorem c_237w_s_4 : vOkm T0 (eN e_237 L_237w A_237 mu_237 n_237 B_237 none) 1 g_237w_s_4 := vOk_inI fun ρ η f0 f1 f2 f3 f4 f5 f6 f7 f8 => q_237w_4 (n0 := ρ 0) (n1 := ρ 1) (n2 := ρ 2) (n3 := ρ 3) (n4 := ρ 4) (n5 := ρ 5) (n6 := ρ 6) (H0 := η 0) (H1 := η 1) (H2 := η 2) (H3 := η 3) f8 f7 f6 f5 f4 f3 f2 f1 f0
def p_237w_s : List vG := [g_237w_s_0,
  g_237w_s_1,
  g_237w_s_2,
  g_237w_s_3,
  g_237w_s_4]
theorem r_237w_s : vCovBO (eR0 e_237 L_237 cs_237 2000) p_237w_s = true := by decide +kernel
theorem m_237w (d : Nat) : eC e_237w (d + 3) := eC_ref (e := e_237) (L := L_237) (L' := L_237w) (cs := cs_237) (n := 2000) (d := d + 2) (A := A_237) (μ := mu_237) (tp := false) (p0 := p_237_s) (p1 := p_237w_s) (N := n_237) (B := B_237) rfl ⟨m_216 (d + 1), ⟨m_217w (d + 1), ⟨m_219w d, ⟨m_234 (d + 1), trivial⟩⟩⟩⟩ rfl (.inl rfl) (by decide +kernel) (fun z => nomatch z) r_237_s (allC c_237_s_0 (allC c_237_s_1 (allC c_237_s_2 (allC c_237_s_3 (allC c_237_s_4 (allC c_237_s_5 (allC c_237_s_6 (allC c_237_s_7 (allC c_237_s_8 allN))))))))) allN (sub0 (sub1 (sub1 (sub0 trivial)))) r_237w_s (allC c_237w_s_0 (allC c_237w_s_1 (allC c_237w_s_2 (allC c_237w_s_3 (allC c_237w_s_4 allN))))) allN
