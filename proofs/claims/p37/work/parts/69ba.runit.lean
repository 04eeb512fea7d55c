/- MixStageModel.unit ()V, more fully still -/
theorem o_237 : eOK e_237 L_237 cs_237 2000 A_237 mu_237 := eOK_of (tp := false) (p0 := p_237_s) (fun z => nomatch z) r_237_s (allC c_237_s_0 (allC c_237_s_1 (allC c_237_s_2 (allC c_237_s_3 (allC c_237_s_4 (allC c_237_s_5 (allC c_237_s_6 (allC c_237_s_7 (allC c_237_s_8 allN))))))))) allN
theorem o_237w : eOK e_237w L_237w cs_237 2000 (eAB A_237 B_237) mu_237 := eOK_ref (p1 := p_237w_s) o_237 (sub0 (sub1 (sub1 (sub0 trivial)))) r_237w_s (allC c_237w_s_0 (allC c_237w_s_1 (allC c_237w_s_2 (allC c_237w_s_3 (allC c_237w_s_4 allN))))) allN
def yb_237 (a0 : Int) (h0 h : gH) : Prop := RI h0 → KPc h0 h ∧ (0 ≤ (absR h).1 → (∀ (a : Int) (q : List Int × List Op), 0 ≤ a → XSr h0 a q → XSr h a (xSt ((vwR h0).1 (absR h0).1) ((vwR h0).2.1 (absR h0).1) q)) ∧ ((((vwR h0).1 (absR h0).1) = 3 ∧ 0 ≤ ((vwR h0).2.1 (absR h0).1) ∧ ((vwR h0).2.1 (absR h0).1) ≤ 9999) ∨ (45 ≤ ((vwR h0).1 (absR h0).1) ∧ ((vwR h0).1 (absR h0).1) ≤ 49)))
def y_237 : List Int → gH → gH → Prop := fun xs h0 h => match xs with
  | [a0] => yb_237 a0 h0 h
  | _ => True
noncomputable def e_237y : vE := eV e_237w y_237
noncomputable def L_237y : List vE := [e_216, e_217w, e_219w, e_234]
def By_237 : Int → List Int → gH → gH → Prop := fun c xs h0 h => True
theorem q_237y_0 {n0 n1 n2 n3 n4 : Int} {H0 H1 H2 : gH} (f0 : n0 = 285) (f1 : hWt T0 H0 ∧ preb_237 n0 H0) (f2 : n1 = 2) (f3 : n2 ≤ 1) (f4 : 0 ≤ n2) (f5 : (hLe T0 H0 H1 ∧ hFr s_216.2.2.2.2 H0 H1 ∧ ((0 : Int) = 0 → H1.length = H0.length) ∧ hWt T0 H1) ∧ postb_216 n2 n0 n1 H0 H1) (f6 : n2 = 0) (f7 : n3 ≤ 2) (f8 : 0 ≤ n3) (f9 : hK H1 (n0).toNat = 12) (f10 : n3 = hV H1 (n0).toNat 13) (f11 : n3 ≠ 0) (f12 : n4 = 1) (f13 : (hLe T0 H1 H2 ∧ hFr s_217.2.2.2.2 H1 H2 ∧ ((0 : Int) = 0 → H2.length = H1.length) ∧ hWt T0 H2) ∧ (postb_217 n0 n4 H1 H2 ∧ nb_217 n0 n4 H1 H2)) : yb_237 n0 H0 H2 := by
  unfold yb_237
  intro z
  have p0 := PR_fr f5.1.2.1 (by decide +kernel) z
  have v0 : vwR H1 = vwR H0 := p0.2.1
  have ah0 : absR H1 = (absR H0) := p0.1
  have i0 := f5.2
  unfold postb_216 at i0
  rw [f2] at i0
  have cm0 := f6
  have b0 := (isR_or (k := 2) p0.2.2.1 (by decide) i0).resolve_left (fun w => absurd (w.1.symm.trans cm0) (by decide))
  replace b0 := b0.2
  rw [v0, ah0, kmc_2] at b0
  have c1 := f13.2.2 p0.2.2.1
  try rw [f12] at c1
  rw [v0, ah0] at c1
  have v1 : vwR H2 = vwR H0 := (vwR_fr f13.1.2.1 (by decide +kernel)).trans v0
  refine ⟨KPc_x (XRk_tr (XRk_fr f5.1.2.1 (by decide +kernel)) (XRk_fr f13.1.2.1 (by decide +kernel))), fun hp => ?_⟩
  exfalso
  rw [c1.2] at hp
  have := pfailR_lt z (f := 1) (p := absR H0) (by decide)
  omega
def g_237y_s_0 : vG := ([(1217, [0, 4], [1, 2], 0), (0, [4], [], 1), (31, [3], [], 0), (20, [3, 0], [1], 13), (23, [0], [1], 12), (90, [3], [], 0), (91, [3], [], 2), (30, [2], [], 0), (1216, [2, 0, 1], [0, 1], 0), (90, [2], [], 0), (91, [2], [], 1), (0, [1], [], 2), (6000, [0], [0], 0), (0, [0], [], 285)], (3000, [], [2], 93))
theorem c_237y_s_0 : vOkm T0 (eN e_237w L_237y (eAB A_237 B_237) mu_237 y_237 By_237 none) 1 g_237y_s_0 := vOk_inI fun ρ η f0 f1 f2 f3 f4 f5 f6 f7 f8 f9 f10 f11 f12 f13 => q_237y_0 (n0 := ρ 0) (n1 := ρ 1) (n2 := ρ 2) (n3 := ρ 3) (n4 := ρ 4) (H0 := η 0) (H1 := η 1) (H2 := η 2) f13 f12 f11 f10 f9 f8 f7 f6 f5 f4 f3 f2 f1 f0
theorem q_237y_1 {n0 n1 n2 n3 n4 n5 n6 n7 n8 : Int} {H0 H1 H2 : gH} (f0 : n0 = 285) (f1 : hWt T0 H0 ∧ preb_237 n0 H0) (f2 : n1 = 2) (f3 : n2 ≤ 1) (f4 : 0 ≤ n2) (f5 : (hLe T0 H0 H1 ∧ hFr s_216.2.2.2.2 H0 H1 ∧ ((0 : Int) = 0 → H1.length = H0.length) ∧ hWt T0 H1) ∧ postb_216 n2 n0 n1 H0 H1) (f6 : n2 = 0) (f7 : n3 ≤ 2) (f8 : 0 ≤ n3) (f9 : hK H1 (n0).toNat = 12) (f10 : n3 = hV H1 (n0).toNat 13) (f11 : n3 = 0) (f12 : n4 = 288) (f13 : hK H1 (n0).toNat = 12) (f14 : n4 = hV H1 (n0).toNat 5) (f15 : n5 ≤ 500) (f16 : 0 ≤ n5) (f17 : hK H1 (n0).toNat = 12) (f18 : n5 = hV H1 (n0).toNat 11) (f19 : n6 ≤ 53) (f20 : 0 ≤ n6) (f21 : n6 = hV H1 (n4).toNat (n5).toNat) (f22 : n7 = 49) (f23 : n6 < n7) (f24 : n8 = 1) (f25 : (hLe T0 H1 H2 ∧ hFr s_217.2.2.2.2 H1 H2 ∧ ((0 : Int) = 0 → H2.length = H1.length) ∧ hWt T0 H2) ∧ (postb_217 n0 n8 H1 H2 ∧ nb_217 n0 n8 H1 H2)) : yb_237 n0 H0 H2 := by
  unfold yb_237
  intro z
  have p0 := PR_fr f5.1.2.1 (by decide +kernel) z
  have v0 : vwR H1 = vwR H0 := p0.2.1
  have ah0 : absR H1 = (absR H0) := p0.1
  have i0 := f5.2
  unfold postb_216 at i0
  rw [f2] at i0
  have cm0 := f6
  have b0 := (isR_or (k := 2) p0.2.2.1 (by decide) i0).resolve_left (fun w => absurd (w.1.symm.trans cm0) (by decide))
  replace b0 := b0.2
  rw [v0, ah0, kmc_2] at b0
  have c1 := f25.2.2 p0.2.2.1
  try rw [f24] at c1
  rw [v0, ah0] at c1
  have v1 : vwR H2 = vwR H0 := (vwR_fr f25.1.2.1 (by decide +kernel)).trans v0
  refine ⟨KPc_x (XRk_tr (XRk_fr f5.1.2.1 (by decide +kernel)) (XRk_fr f25.1.2.1 (by decide +kernel))), fun hp => ?_⟩
  exfalso
  rw [c1.2] at hp
  have := pfailR_lt z (f := 1) (p := absR H0) (by decide)
  omega
def g_237y_s_1 : vG := ([(1217, [0, 8], [1, 2], 0), (0, [8], [], 1), (42, [6, 7], [], 0), (0, [7], [], 49), (22, [6, 4, 5], [1], 0), (90, [6], [], 0), (91, [6], [], 53), (20, [5, 0], [1], 11), (23, [0], [1], 12), (90, [5], [], 0), (91, [5], [], 500), (20, [4, 0], [1], 5), (23, [0], [1], 12), (0, [4], [], 288), (30, [3], [], 0), (20, [3, 0], [1], 13), (23, [0], [1], 12), (90, [3], [], 0), (91, [3], [], 2), (30, [2], [], 0), (1216, [2, 0, 1], [0, 1], 0), (90, [2], [], 0), (91, [2], [], 1), (0, [1], [], 2), (6000, [0], [0], 0), (0, [0], [], 285)], (3000, [], [2], 93))
theorem c_237y_s_1 : vOkm T0 (eN e_237w L_237y (eAB A_237 B_237) mu_237 y_237 By_237 none) 1 g_237y_s_1 := vOk_inI fun ρ η f0 f1 f2 f3 f4 f5 f6 f7 f8 f9 f10 f11 f12 f13 f14 f15 f16 f17 f18 f19 f20 f21 f22 f23 f24 f25 => q_237y_1 (n0 := ρ 0) (n1 := ρ 1) (n2 := ρ 2) (n3 := ρ 3) (n4 := ρ 4) (n5 := ρ 5) (n6 := ρ 6) (n7 := ρ 7) (n8 := ρ 8) (H0 := η 0) (H1 := η 1) (H2 := η 2) f25 f24 f23 f22 f21 f20 f19 f18 f17 f16 f15 f14 f13 f12 f11 f10 f9 f8 f7 f6 f5 f4 f3 f2 f1 f0
theorem q_237y_2 {n0 n1 n2 n3 n4 n5 n6 n7 n8 n9 n10 n11 n12 : Int} {H0 H1 H2 : gH} (f0 : n0 = 285) (f1 : hWt T0 H0 ∧ preb_237 n0 H0) (f2 : n1 = 2) (f3 : n2 ≤ 1) (f4 : 0 ≤ n2) (f5 : (hLe T0 H0 H1 ∧ hFr s_216.2.2.2.2 H0 H1 ∧ ((0 : Int) = 0 → H1.length = H0.length) ∧ hWt T0 H1) ∧ postb_216 n2 n0 n1 H0 H1) (f6 : n2 = 0) (f7 : n3 ≤ 2) (f8 : 0 ≤ n3) (f9 : hK H1 (n0).toNat = 12) (f10 : n3 = hV H1 (n0).toNat 13) (f11 : n3 = 0) (f12 : n4 = 288) (f13 : hK H1 (n0).toNat = 12) (f14 : n4 = hV H1 (n0).toNat 5) (f15 : n5 ≤ 500) (f16 : 0 ≤ n5) (f17 : hK H1 (n0).toNat = 12) (f18 : n5 = hV H1 (n0).toNat 11) (f19 : n6 ≤ 53) (f20 : 0 ≤ n6) (f21 : n6 = hV H1 (n4).toNat (n5).toNat) (f22 : n7 = 49) (f23 : n7 ≤ n6) (f24 : n8 = 288) (f25 : hK H1 (n0).toNat = 12) (f26 : n8 = hV H1 (n0).toNat 5) (f27 : n9 ≤ 500) (f28 : 0 ≤ n9) (f29 : hK H1 (n0).toNat = 12) (f30 : n9 = hV H1 (n0).toNat 11) (f31 : n10 ≤ 53) (f32 : 0 ≤ n10) (f33 : n10 = hV H1 (n8).toNat (n9).toNat) (f34 : n11 = 53) (f35 : n11 < n10) (f36 : n12 = 1) (f37 : (hLe T0 H1 H2 ∧ hFr s_217.2.2.2.2 H1 H2 ∧ ((0 : Int) = 0 → H2.length = H1.length) ∧ hWt T0 H2) ∧ (postb_217 n0 n12 H1 H2 ∧ nb_217 n0 n12 H1 H2)) : yb_237 n0 H0 H2 := by
  unfold yb_237
  intro z
  have p0 := PR_fr f5.1.2.1 (by decide +kernel) z
  have v0 : vwR H1 = vwR H0 := p0.2.1
  have ah0 : absR H1 = (absR H0) := p0.1
  have i0 := f5.2
  unfold postb_216 at i0
  rw [f2] at i0
  have cm0 := f6
  have b0 := (isR_or (k := 2) p0.2.2.1 (by decide) i0).resolve_left (fun w => absurd (w.1.symm.trans cm0) (by decide))
  replace b0 := b0.2
  rw [v0, ah0, kmc_2] at b0
  have c1 := f37.2.2 p0.2.2.1
  try rw [f36] at c1
  rw [v0, ah0] at c1
  have v1 : vwR H2 = vwR H0 := (vwR_fr f37.1.2.1 (by decide +kernel)).trans v0
  refine ⟨KPc_x (XRk_tr (XRk_fr f5.1.2.1 (by decide +kernel)) (XRk_fr f37.1.2.1 (by decide +kernel))), fun hp => ?_⟩
  exfalso
  rw [c1.2] at hp
  have := pfailR_lt z (f := 1) (p := absR H0) (by decide)
  omega
def g_237y_s_2 : vG := ([(1217, [0, 12], [1, 2], 0), (0, [12], [], 1), (44, [10, 11], [], 0), (0, [11], [], 53), (22, [10, 8, 9], [1], 0), (90, [10], [], 0), (91, [10], [], 53), (20, [9, 0], [1], 11), (23, [0], [1], 12), (90, [9], [], 0), (91, [9], [], 500), (20, [8, 0], [1], 5), (23, [0], [1], 12), (0, [8], [], 288), (43, [6, 7], [], 0), (0, [7], [], 49), (22, [6, 4, 5], [1], 0), (90, [6], [], 0), (91, [6], [], 53), (20, [5, 0], [1], 11), (23, [0], [1], 12), (90, [5], [], 0), (91, [5], [], 500), (20, [4, 0], [1], 5), (23, [0], [1], 12), (0, [4], [], 288), (30, [3], [], 0), (20, [3, 0], [1], 13), (23, [0], [1], 12), (90, [3], [], 0), (91, [3], [], 2), (30, [2], [], 0), (1216, [2, 0, 1], [0, 1], 0), (90, [2], [], 0), (91, [2], [], 1), (0, [1], [], 2), (6000, [0], [0], 0), (0, [0], [], 285)], (3000, [], [2], 93))
theorem c_237y_s_2 : vOkm T0 (eN e_237w L_237y (eAB A_237 B_237) mu_237 y_237 By_237 none) 1 g_237y_s_2 := vOk_inI fun ρ η f0 f1 f2 f3 f4 f5 f6 f7 f8 f9 f10 f11 f12 f13 f14 f15 f16 f17 f18 f19 f20 f21 f22 f23 f24 f25 f26 f27 f28 f29 f30 f31 f32 f33 f34 f35 f36 f37 => q_237y_2 (n0 := ρ 0) (n1 := ρ 1) (n2 := ρ 2) (n3 := ρ 3) (n4 := ρ 4) (n5 := ρ 5) (n6 := ρ 6) (n7 := ρ 7) (n8 := ρ 8) (n9 := ρ 9) (n10 := ρ 10) (n11 := ρ 11) (n12 := ρ 12) (H0 := η 0) (H1 := η 1) (H2 := η 2) f37 f36 f35 f34 f33 f32 f31 f30 f29 f28 f27 f26 f25 f24 f23 f22 f21 f20 f19 f18 f17 f16 f15 f14 f13 f12 f11 f10 f9 f8 f7 f6 f5 f4 f3 f2 f1 f0
theorem q_237y_3 {n0 n1 n2 n3 n4 n5 n6 n7 n8 n9 n10 n11 n12 n13 n14 n15 n16 n17 : Int} {H0 H1 H2 H3 : gH} (f0 : n0 = 285) (f1 : hWt T0 H0 ∧ preb_237 n0 H0) (f2 : n1 = 2) (f3 : n2 ≤ 1) (f4 : 0 ≤ n2) (f5 : (hLe T0 H0 H1 ∧ hFr s_216.2.2.2.2 H0 H1 ∧ ((0 : Int) = 0 → H1.length = H0.length) ∧ hWt T0 H1) ∧ postb_216 n2 n0 n1 H0 H1) (f6 : n2 = 0) (f7 : n3 ≤ 2) (f8 : 0 ≤ n3) (f9 : hK H1 (n0).toNat = 12) (f10 : n3 = hV H1 (n0).toNat 13) (f11 : n3 = 0) (f12 : n4 = 288) (f13 : hK H1 (n0).toNat = 12) (f14 : n4 = hV H1 (n0).toNat 5) (f15 : n5 ≤ 500) (f16 : 0 ≤ n5) (f17 : hK H1 (n0).toNat = 12) (f18 : n5 = hV H1 (n0).toNat 11) (f19 : n6 ≤ 53) (f20 : 0 ≤ n6) (f21 : n6 = hV H1 (n4).toNat (n5).toNat) (f22 : n7 = 49) (f23 : n7 ≤ n6) (f24 : n8 = 288) (f25 : hK H1 (n0).toNat = 12) (f26 : n8 = hV H1 (n0).toNat 5) (f27 : n9 ≤ 500) (f28 : 0 ≤ n9) (f29 : hK H1 (n0).toNat = 12) (f30 : n9 = hV H1 (n0).toNat 11) (f31 : n10 ≤ 53) (f32 : 0 ≤ n10) (f33 : n10 = hV H1 (n8).toNat (n9).toNat) (f34 : n11 = 53) (f35 : n10 ≤ n11) (f36 : n12 = 1) (f37 : n13 = 288) (f38 : hK H1 (n0).toNat = 12) (f39 : n13 = hV H1 (n0).toNat 5) (f40 : n14 ≤ 500) (f41 : 0 ≤ n14) (f42 : hK H1 (n0).toNat = 12) (f43 : n14 = hV H1 (n0).toNat 11) (f44 : n15 ≤ 53) (f45 : 0 ≤ n15) (f46 : n15 = hV H1 (n13).toNat (n14).toNat) (f47 : n16 = 49) (f48 : n17 = w32 (n15 - n16)) (f49 : (hLe T0 H1 H2 ∧ hFr s_234.2.2.2.2 H1 H2 ∧ ((0 : Int) = 0 → H2.length = H1.length) ∧ hWt T0 H2) ∧ postb_234 n0 n12 n17 H1 H2) (f50 : (hLe T0 H2 H3 ∧ hFr s_219.2.2.2.2 H2 H3 ∧ ((0 : Int) = 0 → H3.length = H2.length) ∧ hWt T0 H3) ∧ (postb_219 n0 H2 H3 ∧ nb_219 n0 H2 H3)) : yb_237 n0 H0 H3 := by
  unfold yb_237
  intro z
  have d10 := rdS (q := 285) f10 f0
  have d18 := rdS (q := 285) f18 f0
  have d21 := rdW (q := 288) f21 f12
  have d30 := rdS (q := 285) f30 f0
  have d33 := rdW (q := 288) f33 f24
  have d43 := rdS (q := 285) f43 f0
  have d46 := rdW (q := 288) f46 f37
  have q6 := f6
  have q11 := f11
  have q23 := f23
  have qc22 := f22
  have q35 := f35
  have qc34 := f34
  have kd : (vwR H0).1 (absR H0).1 = (vwR H0).1 (absR H0).1 := rfl
  have pp := PR_fr f5.1.2.1 (by decide +kernel) z
  have ii := f5.2
  unfold postb_216 at ii
  rw [f2] at ii
  have ic := f6
  have h13 : hV H1 285 13 = hV H0 285 13 := f5.1.2.1.1 285 13 (by decide +kernel)
  have h11 : hV H1 285 11 = hV H0 285 11 := f5.1.2.1.1 285 11 (by decide +kernel)
  have h288 : hV H1 288 = hV H0 288 := fRow f5.1.2.1 288 (by decide +kernel)
  have kk := kindR_at z (by omega)
  rw [h288, d30, h11] at d33
  rw [h288, d18, h11] at d21
  have kv := (km_var (k := n10)).mpr (by omega)
  rw [d33, ← kk] at kv
  have p0 := PR_fr f5.1.2.1 (by decide +kernel) z
  have v0 : vwR H1 = vwR H0 := p0.2.1
  have ah0 : absR H1 = (absR H0) := p0.1
  have i0 := f5.2
  unfold postb_216 at i0
  rw [f2] at i0
  have cm0 := f6
  have b0 := (isR_or (k := 2) p0.2.2.1 (by decide) i0).resolve_left (fun w => absurd (w.1.symm.trans cm0) (by decide))
  replace b0 := b0.2
  rw [v0, ah0, kmc_2] at b0
  have p1 := PR_fr f49.1.2.1 (by decide +kernel) p0.2.2.1
  have v1 : vwR H2 = vwR H0 := p1.2.1.trans v0
  have ah1 : absR H2 = (absR H0) := p1.1.trans ah0
  have c2 := f50.2.2 p1.2.2.1 (by rw [v1, ah1]; rw [kd]; omega)
  rw [v1, ah1, kd] at c2
  have v2 : vwR H3 = vwR H0 := (vwR_fr f50.1.2.1 (by decide +kernel)).trans v1
  have em := f49.2
  unfold postb_234 at em
  rw [f36] at em
  have em : EMr H1 H2 1 n17 := em
  have x0 : XRk H0 H1 := (XRk_fr f5.1.2.1 (by decide +kernel))
  have x1 : XRk H2 H3 := (XRk_fr f50.1.2.1 (by decide +kernel))
  have e15 : n15 = hV H0 288 (hV H0 285 11).toNat := by
    have hx : hV H1 288 = hV H0 288 := fRow f5.1.2.1 288 (by decide +kernel)
    have h1 : hV H1 285 11 = hV H0 285 11 := f5.1.2.1.1 285 11 (by decide +kernel)
    rw [d46, d43, hx, h1]
  have k9 : ((vwR H0).1 (absR H0).1) = km n15 := by
    rw [e15]
    exact kindR_at z (by omega)
  have kvar := (km_var (k := n15)).mpr (by omega)
  rw [← k9] at kvar
  have ws := f48
  rw [f47, w32_id (by omega) (by omega)] at ws
  have ev : n17 = ((vwR H0).1 (absR H0).1) - 45 := by
    have w := km_v9 (k := n15) (by omega) (by omega)
    omega
  refine ⟨KPc_tr (KPc_x x0) (KPc_tr (KPc_em em) (KPc_x x1)), fun hp => ⟨fun a q a0 hx => ?_, .inr kvar⟩⟩
  have es : xSt ((vwR H0).1 (absR H0).1) ((vwR H0).2.1 (absR H0).1) q = (q.1, q.2 ++ [(1, ((vwR H0).1 (absR H0).1) - 45)]) := by
    unfold xSt
    rw [if_neg (by omega), if_neg (by omega), if_neg (by omega), if_pos kvar.1]
  rw [es]
  have c := CODr_em a0 em (CODr_x x0 hx.1)
  rw [ev] at c
  exact ⟨CODr_x x1 c, WTr_eq ((f50.1.2.1.1 285 55 (by decide +kernel)).trans ((f49.1.2.1.1 285 55 (by decide +kernel)).trans (f5.1.2.1.1 285 55 (by decide +kernel)))) ((fRow f50.1.2.1 322 (by decide +kernel)).trans ((fRow f49.1.2.1 322 (by decide +kernel)).trans (fRow f5.1.2.1 322 (by decide +kernel)))) hx.2⟩
def g_237y_s_3 : vG := ([(1219, [0], [2, 3], 0), (1234, [0, 12, 17], [1, 2], 0), (2, [17, 15, 16], [], 0), (0, [16], [], 49), (22, [15, 13, 14], [1], 0), (90, [15], [], 0), (91, [15], [], 53), (20, [14, 0], [1], 11), (23, [0], [1], 12), (90, [14], [], 0), (91, [14], [], 500), (20, [13, 0], [1], 5), (23, [0], [1], 12), (0, [13], [], 288), (0, [12], [], 1), (45, [10, 11], [], 0), (0, [11], [], 53), (22, [10, 8, 9], [1], 0), (90, [10], [], 0), (91, [10], [], 53), (20, [9, 0], [1], 11), (23, [0], [1], 12), (90, [9], [], 0), (91, [9], [], 500), (20, [8, 0], [1], 5), (23, [0], [1], 12), (0, [8], [], 288), (43, [6, 7], [], 0), (0, [7], [], 49), (22, [6, 4, 5], [1], 0), (90, [6], [], 0), (91, [6], [], 53), (20, [5, 0], [1], 11), (23, [0], [1], 12), (90, [5], [], 0), (91, [5], [], 500), (20, [4, 0], [1], 5), (23, [0], [1], 12), (0, [4], [], 288), (30, [3], [], 0), (20, [3, 0], [1], 13), (23, [0], [1], 12), (90, [3], [], 0), (91, [3], [], 2), (30, [2], [], 0), (1216, [2, 0, 1], [0, 1], 0), (90, [2], [], 0), (91, [2], [], 1), (0, [1], [], 2), (6000, [0], [0], 0), (0, [0], [], 285)], (3000, [], [3], 93))
theorem c_237y_s_3 : vOkm T0 (eN e_237w L_237y (eAB A_237 B_237) mu_237 y_237 By_237 none) 1 g_237y_s_3 := vOk_inI fun ρ η f0 f1 f2 f3 f4 f5 f6 f7 f8 f9 f10 f11 f12 f13 f14 f15 f16 f17 f18 f19 f20 f21 f22 f23 f24 f25 f26 f27 f28 f29 f30 f31 f32 f33 f34 f35 f36 f37 f38 f39 f40 f41 f42 f43 f44 f45 f46 f47 f48 f49 f50 => q_237y_3 (n0 := ρ 0) (n1 := ρ 1) (n2 := ρ 2) (n3 := ρ 3) (n4 := ρ 4) (n5 := ρ 5) (n6 := ρ 6) (n7 := ρ 7) (n8 := ρ 8) (n9 := ρ 9) (n10 := ρ 10) (n11 := ρ 11) (n12 := ρ 12) (n13 := ρ 13) (n14 := ρ 14) (n15 := ρ 15) (n16 := ρ 16) (n17 := ρ 17) (H0 := η 0) (H1 := η 1) (H2 := η 2) (H3 := η 3) f50 f49 f48 f47 f46 f45 f44 f43 f42 f41 f40 f39 f38 f37 f36 f35 f34 f33 f32 f31 f30 f29 f28 f27 f26 f25 f24 f23 f22 f21 f20 f19 f18 f17 f16 f15 f14 f13 f12 f11 f10 f9 f8 f7 f6 f5 f4 f3 f2 f1 f0
theorem q_237y_4 {n0 n1 n2 n3 n4 n5 n6 : Int} {H0 H1 H2 H3 : gH} (f0 : n0 = 285) (f1 : hWt T0 H0 ∧ preb_237 n0 H0) (f2 : n1 = 2) (f3 : n2 ≤ 1) (f4 : 0 ≤ n2) (f5 : (hLe T0 H0 H1 ∧ hFr s_216.2.2.2.2 H0 H1 ∧ ((0 : Int) = 0 → H1.length = H0.length) ∧ hWt T0 H1) ∧ postb_216 n2 n0 n1 H0 H1) (f6 : n2 ≠ 0) (f7 : n3 = 0) (f8 : n4 = 290) (f9 : hK H1 (n0).toNat = 12) (f10 : n4 = hV H1 (n0).toNat 7) (f11 : n5 ≤ 500) (f12 : 0 ≤ n5) (f13 : hK H1 (n0).toNat = 12) (f14 : n5 = hV H1 (n0).toNat 11) (f15 : n6 ≤ 9999) (f16 : 0 ≤ n6) (f17 : n6 = hV H1 (n4).toNat (n5).toNat) (f18 : (hLe T0 H1 H2 ∧ hFr s_234.2.2.2.2 H1 H2 ∧ ((0 : Int) = 0 → H2.length = H1.length) ∧ hWt T0 H2) ∧ postb_234 n0 n3 n6 H1 H2) (f19 : (hLe T0 H2 H3 ∧ hFr s_219.2.2.2.2 H2 H3 ∧ ((0 : Int) = 0 → H3.length = H2.length) ∧ hWt T0 H3) ∧ (postb_219 n0 H2 H3 ∧ nb_219 n0 H2 H3)) : yb_237 n0 H0 H3 := by
  unfold yb_237
  intro z
  have d14 := rdS (q := 285) f14 f0
  have d17 := rdW (q := 290) f17 f8
  have q6 := f6
  have kd : (vwR H0).1 (absR H0).1 = (vwR H0).1 (absR H0).1 := rfl
  have pp := PR_fr f5.1.2.1 (by decide +kernel) z
  have ii := f5.2
  unfold postb_216 at ii
  rw [f2] at ii
  have ic := f6
  have kv : (vwR H0).1 (absR H0).1 = 3 := by
    have b := (isR_or (k := 2) pp.2.2.1 (by decide) ii).resolve_right (fun w => ic w.1)
    have b2 := b.2
    rw [pp.2.1, pp.1] at b2
    exact b2
  have p0 := PR_fr f5.1.2.1 (by decide +kernel) z
  have v0 : vwR H1 = vwR H0 := p0.2.1
  have ah0 : absR H1 = (absR H0) := p0.1
  have i0 := f5.2
  unfold postb_216 at i0
  rw [f2] at i0
  have cm0 := f6
  have b0 := (isR_or (k := 2) p0.2.2.1 (by decide) i0).resolve_right (fun w => cm0 w.1)
  replace b0 := b0.2
  rw [v0, ah0, kmc_2] at b0
  have p1 := PR_fr f18.1.2.1 (by decide +kernel) p0.2.2.1
  have v1 : vwR H2 = vwR H0 := p1.2.1.trans v0
  have ah1 : absR H2 = (absR H0) := p1.1.trans ah0
  have c2 := f19.2.2 p1.2.2.1 (by rw [v1, ah1]; rw [b0]; decide)
  rw [v1, ah1, b0] at c2
  have v2 : vwR H3 = vwR H0 := (vwR_fr f19.1.2.1 (by decide +kernel)).trans v1
  have em := f18.2
  unfold postb_234 at em
  rw [f7] at em
  have em : EMr H1 H2 0 n6 := em
  have x0 : XRk H0 H1 := (XRk_fr f5.1.2.1 (by decide +kernel))
  have x1 : XRk H2 H3 := (XRk_fr f19.1.2.1 (by decide +kernel))
  have hz : hV H0 285 13 = 0 := faultR_no z (kdR_pos kv (by decide))
  have k2 : hV H0 288 (hV H0 285 11).toNat = 2 := by
    have w := kindR_at z hz
    rw [kv] at w
    exact km_inj (w.symm.trans kmc_2.symm)
  have vv := valueR_at z hz k2
  have ev : n6 = ((vwR H0).2.1 (absR H0).1) := by
    rw [d17, d14, show hV H1 290 = hV H0 290 from fRow f5.1.2.1 290 (by decide +kernel), show hV H1 285 11 = hV H0 285 11 from f5.1.2.1.1 285 11 (by decide +kernel)]
    exact vv.symm
  refine ⟨KPc_tr (KPc_x x0) (KPc_tr (KPc_em em) (KPc_x x1)), fun hp => ⟨fun a q a0 hx => ?_, .inl ⟨kv, by omega, by omega⟩⟩⟩
  have es : xSt ((vwR H0).1 (absR H0).1) ((vwR H0).2.1 (absR H0).1) q = (q.1, q.2 ++ [(0, ((vwR H0).2.1 (absR H0).1))]) := by
    rw [kv]
    rfl
  rw [es]
  have c := CODr_em a0 em (CODr_x x0 hx.1)
  rw [ev] at c
  exact ⟨CODr_x x1 c, WTr_eq ((f19.1.2.1.1 285 55 (by decide +kernel)).trans ((f18.1.2.1.1 285 55 (by decide +kernel)).trans (f5.1.2.1.1 285 55 (by decide +kernel)))) ((fRow f19.1.2.1 322 (by decide +kernel)).trans ((fRow f18.1.2.1 322 (by decide +kernel)).trans (fRow f5.1.2.1 322 (by decide +kernel)))) hx.2⟩
def g_237y_s_4 : vG := ([(1219, [0], [2, 3], 0), (1234, [0, 3, 6], [1, 2], 0), (22, [6, 4, 5], [1], 0), (90, [6], [], 0), (91, [6], [], 9999), (20, [5, 0], [1], 11), (23, [0], [1], 12), (90, [5], [], 0), (91, [5], [], 500), (20, [4, 0], [1], 7), (23, [0], [1], 12), (0, [4], [], 290), (0, [3], [], 0), (31, [2], [], 0), (1216, [2, 0, 1], [0, 1], 0), (90, [2], [], 0), (91, [2], [], 1), (0, [1], [], 2), (6000, [0], [0], 0), (0, [0], [], 285)], (3000, [], [3], 93))
theorem c_237y_s_4 : vOkm T0 (eN e_237w L_237y (eAB A_237 B_237) mu_237 y_237 By_237 none) 1 g_237y_s_4 := vOk_inI fun ρ η f0 f1 f2 f3 f4 f5 f6 f7 f8 f9 f10 f11 f12 f13 f14 f15 f16 f17 f18 f19 => q_237y_4 (n0 := ρ 0) (n1 := ρ 1) (n2 := ρ 2) (n3 := ρ 3) (n4 := ρ 4) (n5 := ρ 5) (n6 := ρ 6) (H0 := η 0) (H1 := η 1) (H2 := η 2) (H3 := η 3) f19 f18 f17 f16 f15 f14 f13 f12 f11 f10 f9 f8 f7 f6 f5 f4 f3 f2 f1 f0
def p_237y_s : List vG := [g_237y_s_0,
  g_237y_s_1,
  g_237y_s_2,
  g_237y_s_3,
  g_237y_s_4]
theorem r_237y_s : vCovBO (eR0 e_237w L_237w cs_237 2000) p_237y_s = true := by decide +kernel
theorem o_237y : eOK e_237y L_237y cs_237 2000 (eAB (eAB A_237 B_237) By_237) mu_237 := eOK_ref (p1 := p_237y_s) o_237w (sub0 (sub0 (sub0 (sub0 trivial)))) r_237y_s (allC c_237y_s_0 (allC c_237y_s_1 (allC c_237y_s_2 (allC c_237y_s_3 (allC c_237y_s_4 allN))))) allN
theorem m_237y (d : Nat) : eC e_237y (d + 3) := eC_OK (d := d + 2) o_237y rfl ⟨m_216 (d + 1), ⟨m_217w (d + 1), ⟨m_219w d, ⟨m_234 (d + 1), trivial⟩⟩⟩⟩ rfl (.inl rfl) (by decide +kernel)
