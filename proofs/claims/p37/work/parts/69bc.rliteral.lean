/- MixStageModel.literal (Z)V, more fully still -/
theorem o_233 : eOK e_233 L_233 cs_233 2000 A_233 mu_233 := eOK_of (tp := false) (p0 := p_233_s) (fun z => nomatch z) r_233_s (allC c_233_s_0 allN) (allC (.inl ⟨p_233_2, r_233_2, fun q0 => (allC c_233_2_0 (allC c_233_2_1 (allC c_233_2_2 (allC c_233_2_3 (allC c_233_2_4 (allC c_233_2_5 (allC c_233_2_6 (allC c_233_2_7 (allC c_233_2_8 (allC c_233_2_9 (allC c_233_2_10 allN)))))))))))⟩) (allC (.inl ⟨p_233_85, r_233_85, fun q0 => (allC c_233_85_0 (allC c_233_85_1 (allC c_233_85_2 (allC c_233_85_3 (allC c_233_85_4 (allC c_233_85_5 (allC c_233_85_6 (allC c_233_85_7 (allC c_233_85_8 (allC c_233_85_9 (allC c_233_85_10 (allC c_233_85_11 (allC c_233_85_12 allN)))))))))))))⟩) allN))
theorem o_233w : eOK e_233w L_233w cs_233 2000 (eAB A_233 B_233) mu_233 := eOK_ref (p1 := p_233w_s) o_233 (sub0 (sub1 (sub1 (sub1 trivial)))) r_233w_s (allC c_233w_s_0 allN) (allC ⟨p_233w_2, r_233w_2, fun q0 => (allC c_233w_2_0 (allC c_233w_2_1 (allC c_233w_2_2 (allC c_233w_2_3 (allC c_233w_2_4 (allC c_233w_2_5 (allC c_233w_2_6 (allC c_233w_2_7 (allC c_233w_2_8 (allC c_233w_2_9 allN))))))))))⟩ (allC ⟨p_233w_85, r_233w_85, fun q0 => (allC c_233w_85_0 (allC c_233w_85_1 allN))⟩ allN))
def yb_233 (a0 a1 : Int) (h0 h : gH) : Prop := RI h0 → 0 ≤ hV h0 285 51 → 0 ≤ hV h0 285 44 → KPc h0 h ∧ KPl h0 h ∧ (0 ≤ (absR h).1 → hV h 285 44 = hV h0 285 44 + 1 ∧ LIr h (hV h0 285 51) (hV h 285 51) (hV h0 285 44).toNat (xLit (vwR h0) (decide (a1 = 1)) (absR h0)) ∧ GL (xLit (vwR h0) (decide (a1 = 1)) (absR h0)))
def y_233 : List Int → gH → gH → Prop := fun xs h0 h => match xs with
  | [a0, a1] => yb_233 a0 a1 h0 h
  | _ => True
noncomputable def e_233y : vE := eV e_233w y_233
noncomputable def L_233y : List vE := [e_216, e_217w, e_219w, e_236y]
def Byb_233_2 (a0 a1 x0 x1 x2 : Int) (h0 h : gH) : Prop := RI h0 → 0 ≤ hV h0 285 51 → 0 ≤ hV h0 285 44 → XRk h0 h ∧ YRs h0 h ∧ (0 ≤ (absR h).1 → (absR h0).1 ≤ (absR h).1 ∧ x2 = ((absR h).1 - (absR h0).1) % 2)
def Byb_233_85 (a0 a1 x0 x1 x2 x3 x4 : Int) (h0 h : gH) : Prop := RI h0 → 0 ≤ hV h0 285 51 → 0 ≤ hV h0 285 44 → KPc h0 h ∧ YRs h0 h ∧ (0 ≤ (absR h).1 → x3 = hV h0 285 51 ∧ x2 = ((xLitA (vwR h0) (absR h0)).1 - (absR h0).1) % 2 ∧ (absR h0).1 ≤ (xLitA (vwR h0) (absR h0)).1 ∧ CODr h x3 (xE (vwR h0) (xLitA (vwR h0) (absR h0)).1 (xLitB (vwR h0) (absR h0)).1) ∧ GE (xE (vwR h0) (xLitA (vwR h0) (absR h0)).1 (xLitB (vwR h0) (absR h0)).1) ∧ x4 = (vwR h0).1 (xLitB (vwR h0) (absR h0)).1 - 12)
def By_233 : Int → List Int → gH → gH → Prop := fun c xs h0 h => match c.toNat with
  | 2 => (match xs with
    | [a0, a1, x0, x1, x2] => Byb_233_2 a0 a1 x0 x1 x2 h0 h
    | _ => False)
  | 85 => (match xs with
    | [a0, a1, x0, x1, x2, x3, x4] => Byb_233_85 a0 a1 x0 x1 x2 x3 x4 h0 h
    | _ => False)
  | _ => True
theorem q_233y_0 {n0 n1 n2 : Int} {H0 : gH} (f0 : n0 ≤ 1) (f1 : 0 ≤ n0) (f2 : n1 = 285) (f3 : hWt T0 H0 ∧ preb_233 n1 n0 H0) (f4 : n2 = 0) : Byb_233_2 n1 n0 n1 n0 n2 H0 H0 := by
  unfold Byb_233_2
  intro z s0 l0
  exact ⟨XRk_rfl, YRs_rfl, fun hp => ⟨Int.le_refl _, by omega⟩⟩
def g_233y_s_0 : vG := ([(0, [2], [], 0), (6000, [0, 1], [0], 0), (0, [0], [], 285), (90, [1], [], 0), (91, [1], [], 1)], (4000, [0, 1, 2], [0], 2))
theorem c_233y_s_0 : vOkm T0 (eN e_233w L_233y (eAB A_233 B_233) mu_233 y_233 By_233 none) 2 g_233y_s_0 := vOk_inI fun ρ η f0 f1 f2 f3 f4 => q_233y_0 (n0 := ρ 1) (n1 := ρ 0) (n2 := ρ 2) (H0 := η 0) f4 f3 f2 f1 f0
def p_233y_s : List vG := [g_233y_s_0]
theorem r_233y_s : vCovBO (eR0 e_233w L_233w cs_233 2000) p_233y_s = true := by decide +kernel
theorem q_233y_1 {q0 : Nat} {n0 n1 n2 n3 n4 n5 n6 n7 n8 n9 n10 n11 n12 n13 n14 : Int} {H0 H1 H2 H3 : gH} (f0 : n0 ≤ 1) (f1 : 0 ≤ n0) (f2 : n1 ≤ 1) (f3 : 0 ≤ n1) (f4 : n2 = 285) (f5 : n3 ≤ 1) (f6 : 0 ≤ n3) (f7 : n4 = 285) (f8 : (hLe T0 H0 H1 ∧ hFr s_233.2.2.2.2 H0 H1 ∧ hWt T0 H1) ∧ (((Ab_233_2 n4 n3 n2 n1 n0 H0 H1 ∧ Bb_233_2 n4 n3 n2 n1 n0 H0 H1) ∧ Byb_233_2 n4 n3 n2 n1 n0 H0 H1) ∧ preb_233 n4 n3 H0) ∧ some q0 = some (mub_233_2 n4 n3 n2 n1 n0 H0 H1)) (f9 : n5 = 48) (f10 : n6 ≤ 1) (f11 : 0 ≤ n6) (f12 : (hLe T0 H1 H2 ∧ hFr s_216.2.2.2.2 H1 H2 ∧ ((0 : Int) = 0 → H2.length = H1.length) ∧ hWt T0 H2) ∧ postb_216 n6 n2 n5 H1 H2) (f13 : n6 = 0) (f14 : n7 ≤ 1200) (f15 : 0 ≤ n7) (f16 : hK H2 (n2).toNat = 12) (f17 : n7 = hV H2 (n2).toNat 51) (f18 : (hLe T0 H2 H3 ∧ hFr s_236.2.2.2.2 H2 H3 ∧ ((0 : Int) = 0 → H3.length = H2.length) ∧ hWt T0 H3) ∧ ((postb_236 n2 H2 H3 ∧ nb_236 n2 H2 H3) ∧ yb_236 n2 H2 H3)) (f19 : n8 ≤ 2) (f20 : 0 ≤ n8) (f21 : hK H3 (n2).toNat = 12) (f22 : n8 = hV H3 (n2).toNat 13) (f23 : n8 ≤ 0) (f24 : n9 = 288) (f25 : hK H3 (n2).toNat = 12) (f26 : n9 = hV H3 (n2).toNat 5) (f27 : n10 ≤ 500) (f28 : 0 ≤ n10) (f29 : hK H3 (n2).toNat = 12) (f30 : n10 = hV H3 (n2).toNat 11) (f31 : n11 ≤ 53) (f32 : 0 ≤ n11) (f33 : n11 = hV H3 (n9).toNat (n10).toNat) (f34 : n12 = 11) (f35 : n13 = w32 (n11 - n12)) (f36 : n14 ≤ 2) (f37 : 0 ≤ n14) (f38 : hK H3 (n2).toNat = 12) (f39 : n14 = hV H3 (n2).toNat 13) (f40 : n14 ≠ 0) : Byb_233_85 n4 n3 n2 n1 n0 n7 n13 H0 H3 := by
  unfold Byb_233_85
  intro z s0 l0
  have ga := f8.2.1.1.1.2
  unfold Bb_233_2 at ga
  obtain ⟨z1, ye⟩ := ga z
  have vz : vwR H1 = vwR H0 := vwR_fr f8.1.2.1 (by decide +kernel)
  have gy := f8.2.1.1.2
  unfold Byb_233_2 at gy
  obtain ⟨xk, yk, ky⟩ := gy z s0 l0
  have d17 := rdS (q := 285) f17 f4
  have d22 := rdS (q := 285) f22 f4
  have d30 := rdS (q := 285) f30 f4
  have d33 := rdW (q := 288) f33 f24
  have d39 := rdS (q := 285) f39 f4
  have q13 := f13
  have q23 := f23
  have q40 := f40
  have lo1 := z1.2.2.2.1
  have p0 := PR_fr f12.1.2.1 (by decide +kernel) z1
  have v0 : vwR H2 = vwR H0 := p0.2.1.trans vz
  have ah0 : absR H2 = (absR H1) := p0.1
  have i0 := f12.2
  unfold postb_216 at i0
  rw [f9] at i0
  have cm0 := f13
  have b0 := (isR_or (k := 48) p0.2.2.1 (by decide) i0).resolve_left (fun w => absurd (w.1.symm.trans cm0) (by decide))
  replace b0 := b0.2
  rw [v0, ah0, kmc_48] at b0
  have c1 := f18.2.1.2 p0.2.2.1
  rw [v0, ah0] at c1
  have v1 : vwR H3 = vwR H0 := (vwR_fr f18.1.2.1 (by decide +kernel)).trans v0
  have xb : XRk H1 H2 := (XRk_fr f12.1.2.1 (by decide +kernel))
  have sb : 0 ≤ hV H2 285 51 := by
    rw [xb.1, xk.1]
    exact s0
  have ex := f18.2.2
  unfold yb_236 at ex
  have ex := ex p0.2.2.1 sb
  rw [v0, ah0] at ex
  refine ⟨KPc_tr (KPc_x xk) (KPc_tr (KPc_x (XRk_fr f12.1.2.1 (by decide +kernel))) ex.1), YRs_tr yk (YRs_tr (YRs_fr f12.1.2.1 (by decide +kernel)) (YRs_fr f18.1.2.1 (by decide +kernel))), fun hp => ?_⟩
  exfalso
  have := absR_neg c1.1 (by omega)
  omega
def g_233y_2_0 : vG := ([(31, [14], [], 0), (20, [14, 2], [3], 13), (23, [2], [3], 12), (90, [14], [], 0), (91, [14], [], 2), (2, [13, 11, 12], [], 0), (0, [12], [], 11), (22, [11, 9, 10], [3], 0), (90, [11], [], 0), (91, [11], [], 53), (20, [10, 2], [3], 11), (23, [2], [3], 12), (90, [10], [], 0), (91, [10], [], 500), (20, [9, 2], [3], 5), (23, [2], [3], 12), (0, [9], [], 288), (35, [8], [], 0), (20, [8, 2], [3], 13), (23, [2], [3], 12), (90, [8], [], 0), (91, [8], [], 2), (1236, [2], [2, 3], 0), (20, [7, 2], [2], 51), (23, [2], [2], 12), (90, [7], [], 0), (91, [7], [], 1200), (30, [6], [], 0), (1216, [6, 2, 5], [1, 2], 0), (90, [6], [], 0), (91, [6], [], 1), (0, [5], [], 48), (5000, [0, 1, 2, 3, 4], [0, 1], 2), (0, [0], [], 285), (90, [1], [], 0), (91, [1], [], 1), (0, [2], [], 285), (90, [3], [], 0), (91, [3], [], 1), (90, [4], [], 0), (91, [4], [], 1)], (4000, [2, 3, 4, 7, 13], [3], 85))
theorem c_233y_2_0 {q0 : Nat} : vOkm T0 (eN e_233w L_233y (eAB A_233 B_233) mu_233 y_233 By_233 (some q0)) 2 g_233y_2_0 := vOk_inI fun ρ η f0 f1 f2 f3 f4 f5 f6 f7 f8 f9 f10 f11 f12 f13 f14 f15 f16 f17 f18 f19 f20 f21 f22 f23 f24 f25 f26 f27 f28 f29 f30 f31 f32 f33 f34 f35 f36 f37 f38 f39 f40 => q_233y_1 (q0 := q0) (n0 := ρ 4) (n1 := ρ 3) (n2 := ρ 2) (n3 := ρ 1) (n4 := ρ 0) (n5 := ρ 5) (n6 := ρ 6) (n7 := ρ 7) (n8 := ρ 8) (n9 := ρ 9) (n10 := ρ 10) (n11 := ρ 11) (n12 := ρ 12) (n13 := ρ 13) (n14 := ρ 14) (H0 := η 0) (H1 := η 1) (H2 := η 2) (H3 := η 3) f40 f39 f38 f37 f36 f35 f34 f33 f32 f31 f30 f29 f28 f27 f26 f25 f24 f23 f22 f21 f20 f19 f18 f17 f16 f15 f14 f13 f12 f11 f10 f9 f8 f7 f6 f5 f4 f3 f2 f1 f0
theorem q_233y_2 {q0 : Nat} {n0 n1 n2 n3 n4 n5 n6 n7 n8 n9 n10 n11 n12 n13 n14 n15 : Int} {H0 H1 H2 H3 H4 : gH} (f0 : n0 ≤ 1) (f1 : 0 ≤ n0) (f2 : n1 ≤ 1) (f3 : 0 ≤ n1) (f4 : n2 = 285) (f5 : n3 ≤ 1) (f6 : 0 ≤ n3) (f7 : n4 = 285) (f8 : (hLe T0 H0 H1 ∧ hFr s_233.2.2.2.2 H0 H1 ∧ hWt T0 H1) ∧ (((Ab_233_2 n4 n3 n2 n1 n0 H0 H1 ∧ Bb_233_2 n4 n3 n2 n1 n0 H0 H1) ∧ Byb_233_2 n4 n3 n2 n1 n0 H0 H1) ∧ preb_233 n4 n3 H0) ∧ some q0 = some (mub_233_2 n4 n3 n2 n1 n0 H0 H1)) (f9 : n5 = 48) (f10 : n6 ≤ 1) (f11 : 0 ≤ n6) (f12 : (hLe T0 H1 H2 ∧ hFr s_216.2.2.2.2 H1 H2 ∧ ((0 : Int) = 0 → H2.length = H1.length) ∧ hWt T0 H2) ∧ postb_216 n6 n2 n5 H1 H2) (f13 : n6 = 0) (f14 : n7 ≤ 1200) (f15 : 0 ≤ n7) (f16 : hK H2 (n2).toNat = 12) (f17 : n7 = hV H2 (n2).toNat 51) (f18 : (hLe T0 H2 H3 ∧ hFr s_236.2.2.2.2 H2 H3 ∧ ((0 : Int) = 0 → H3.length = H2.length) ∧ hWt T0 H3) ∧ ((postb_236 n2 H2 H3 ∧ nb_236 n2 H2 H3) ∧ yb_236 n2 H2 H3)) (f19 : n8 ≤ 2) (f20 : 0 ≤ n8) (f21 : hK H3 (n2).toNat = 12) (f22 : n8 = hV H3 (n2).toNat 13) (f23 : n8 ≤ 0) (f24 : n9 = 288) (f25 : hK H3 (n2).toNat = 12) (f26 : n9 = hV H3 (n2).toNat 5) (f27 : n10 ≤ 500) (f28 : 0 ≤ n10) (f29 : hK H3 (n2).toNat = 12) (f30 : n10 = hV H3 (n2).toNat 11) (f31 : n11 ≤ 53) (f32 : 0 ≤ n11) (f33 : n11 = hV H3 (n9).toNat (n10).toNat) (f34 : n12 = 11) (f35 : n13 = w32 (n11 - n12)) (f36 : n14 ≤ 2) (f37 : 0 ≤ n14) (f38 : hK H3 (n2).toNat = 12) (f39 : n14 = hV H3 (n2).toNat 13) (f40 : n14 = 0) (f41 : n13 < 0) (f42 : n15 = 1) (f43 : (hLe T0 H3 H4 ∧ hFr s_217.2.2.2.2 H3 H4 ∧ ((0 : Int) = 0 → H4.length = H3.length) ∧ hWt T0 H4) ∧ (postb_217 n2 n15 H3 H4 ∧ nb_217 n2 n15 H3 H4)) : Byb_233_85 n4 n3 n2 n1 n0 n7 n13 H0 H4 := by
  unfold Byb_233_85
  intro z s0 l0
  have ga := f8.2.1.1.1.2
  unfold Bb_233_2 at ga
  obtain ⟨z1, ye⟩ := ga z
  have vz : vwR H1 = vwR H0 := vwR_fr f8.1.2.1 (by decide +kernel)
  have gy := f8.2.1.1.2
  unfold Byb_233_2 at gy
  obtain ⟨xk, yk, ky⟩ := gy z s0 l0
  have d17 := rdS (q := 285) f17 f4
  have d22 := rdS (q := 285) f22 f4
  have d30 := rdS (q := 285) f30 f4
  have d33 := rdW (q := 288) f33 f24
  have d39 := rdS (q := 285) f39 f4
  have q13 := f13
  have q23 := f23
  have q40 := f40
  have q41 := f41
  have lo1 := z1.2.2.2.1
  have p0 := PR_fr f12.1.2.1 (by decide +kernel) z1
  have v0 : vwR H2 = vwR H0 := p0.2.1.trans vz
  have ah0 : absR H2 = (absR H1) := p0.1
  have i0 := f12.2
  unfold postb_216 at i0
  rw [f9] at i0
  have cm0 := f13
  have b0 := (isR_or (k := 48) p0.2.2.1 (by decide) i0).resolve_left (fun w => absurd (w.1.symm.trans cm0) (by decide))
  replace b0 := b0.2
  rw [v0, ah0, kmc_48] at b0
  have c1 := f18.2.1.2 p0.2.2.1
  rw [v0, ah0] at c1
  have v1 : vwR H3 = vwR H0 := (vwR_fr f18.1.2.1 (by decide +kernel)).trans v0
  have c2 := f43.2.2 c1.1
  try rw [f42] at c2
  rw [v1, c1.2] at c2
  have v2 : vwR H4 = vwR H0 := (vwR_fr f43.1.2.1 (by decide +kernel)).trans v1
  have xb : XRk H1 H2 := (XRk_fr f12.1.2.1 (by decide +kernel))
  have sb : 0 ≤ hV H2 285 51 := by
    rw [xb.1, xk.1]
    exact s0
  have ex := f18.2.2
  unfold yb_236 at ex
  have ex := ex p0.2.2.1 sb
  rw [v0, ah0] at ex
  refine ⟨KPc_tr (KPc_x xk) (KPc_tr (KPc_x (XRk_fr f12.1.2.1 (by decide +kernel))) (KPc_tr ex.1 (KPc_x (XRk_fr f43.1.2.1 (by decide +kernel))))), YRs_tr yk (YRs_tr (YRs_fr f12.1.2.1 (by decide +kernel)) (YRs_tr (YRs_fr f18.1.2.1 (by decide +kernel)) (YRs_fr f43.1.2.1 (by decide +kernel)))), fun hp => ?_⟩
  exfalso
  rw [c2.2] at hp
  have := pfailR_lt z (f := 1) (p := pExp (vwR H0) (absR H1)) (by decide)
  omega
def g_233y_2_1 : vG := ([(1217, [2, 15], [3, 4], 0), (0, [15], [], 1), (32, [13], [], 0), (30, [14], [], 0), (20, [14, 2], [3], 13), (23, [2], [3], 12), (90, [14], [], 0), (91, [14], [], 2), (2, [13, 11, 12], [], 0), (0, [12], [], 11), (22, [11, 9, 10], [3], 0), (90, [11], [], 0), (91, [11], [], 53), (20, [10, 2], [3], 11), (23, [2], [3], 12), (90, [10], [], 0), (91, [10], [], 500), (20, [9, 2], [3], 5), (23, [2], [3], 12), (0, [9], [], 288), (35, [8], [], 0), (20, [8, 2], [3], 13), (23, [2], [3], 12), (90, [8], [], 0), (91, [8], [], 2), (1236, [2], [2, 3], 0), (20, [7, 2], [2], 51), (23, [2], [2], 12), (90, [7], [], 0), (91, [7], [], 1200), (30, [6], [], 0), (1216, [6, 2, 5], [1, 2], 0), (90, [6], [], 0), (91, [6], [], 1), (0, [5], [], 48), (5000, [0, 1, 2, 3, 4], [0, 1], 2), (0, [0], [], 285), (90, [1], [], 0), (91, [1], [], 1), (0, [2], [], 285), (90, [3], [], 0), (91, [3], [], 1), (90, [4], [], 0), (91, [4], [], 1)], (4000, [2, 3, 4, 7, 13], [4], 85))
theorem c_233y_2_1 {q0 : Nat} : vOkm T0 (eN e_233w L_233y (eAB A_233 B_233) mu_233 y_233 By_233 (some q0)) 2 g_233y_2_1 := vOk_inI fun ρ η f0 f1 f2 f3 f4 f5 f6 f7 f8 f9 f10 f11 f12 f13 f14 f15 f16 f17 f18 f19 f20 f21 f22 f23 f24 f25 f26 f27 f28 f29 f30 f31 f32 f33 f34 f35 f36 f37 f38 f39 f40 f41 f42 f43 => q_233y_2 (q0 := q0) (n0 := ρ 4) (n1 := ρ 3) (n2 := ρ 2) (n3 := ρ 1) (n4 := ρ 0) (n5 := ρ 5) (n6 := ρ 6) (n7 := ρ 7) (n8 := ρ 8) (n9 := ρ 9) (n10 := ρ 10) (n11 := ρ 11) (n12 := ρ 12) (n13 := ρ 13) (n14 := ρ 14) (n15 := ρ 15) (H0 := η 0) (H1 := η 1) (H2 := η 2) (H3 := η 3) (H4 := η 4) f43 f42 f41 f40 f39 f38 f37 f36 f35 f34 f33 f32 f31 f30 f29 f28 f27 f26 f25 f24 f23 f22 f21 f20 f19 f18 f17 f16 f15 f14 f13 f12 f11 f10 f9 f8 f7 f6 f5 f4 f3 f2 f1 f0
theorem q_233y_3 {q0 : Nat} {n0 n1 n2 n3 n4 n5 n6 n7 n8 n9 n10 n11 n12 n13 n14 n15 : Int} {H0 H1 H2 H3 : gH} (f0 : n0 ≤ 1) (f1 : 0 ≤ n0) (f2 : n1 ≤ 1) (f3 : 0 ≤ n1) (f4 : n2 = 285) (f5 : n3 ≤ 1) (f6 : 0 ≤ n3) (f7 : n4 = 285) (f8 : (hLe T0 H0 H1 ∧ hFr s_233.2.2.2.2 H0 H1 ∧ hWt T0 H1) ∧ (((Ab_233_2 n4 n3 n2 n1 n0 H0 H1 ∧ Bb_233_2 n4 n3 n2 n1 n0 H0 H1) ∧ Byb_233_2 n4 n3 n2 n1 n0 H0 H1) ∧ preb_233 n4 n3 H0) ∧ some q0 = some (mub_233_2 n4 n3 n2 n1 n0 H0 H1)) (f9 : n5 = 48) (f10 : n6 ≤ 1) (f11 : 0 ≤ n6) (f12 : (hLe T0 H1 H2 ∧ hFr s_216.2.2.2.2 H1 H2 ∧ ((0 : Int) = 0 → H2.length = H1.length) ∧ hWt T0 H2) ∧ postb_216 n6 n2 n5 H1 H2) (f13 : n6 = 0) (f14 : n7 ≤ 1200) (f15 : 0 ≤ n7) (f16 : hK H2 (n2).toNat = 12) (f17 : n7 = hV H2 (n2).toNat 51) (f18 : (hLe T0 H2 H3 ∧ hFr s_236.2.2.2.2 H2 H3 ∧ ((0 : Int) = 0 → H3.length = H2.length) ∧ hWt T0 H3) ∧ ((postb_236 n2 H2 H3 ∧ nb_236 n2 H2 H3) ∧ yb_236 n2 H2 H3)) (f19 : n8 ≤ 2) (f20 : 0 ≤ n8) (f21 : hK H3 (n2).toNat = 12) (f22 : n8 = hV H3 (n2).toNat 13) (f23 : n8 ≤ 0) (f24 : n9 = 288) (f25 : hK H3 (n2).toNat = 12) (f26 : n9 = hV H3 (n2).toNat 5) (f27 : n10 ≤ 500) (f28 : 0 ≤ n10) (f29 : hK H3 (n2).toNat = 12) (f30 : n10 = hV H3 (n2).toNat 11) (f31 : n11 ≤ 53) (f32 : 0 ≤ n11) (f33 : n11 = hV H3 (n9).toNat (n10).toNat) (f34 : n12 = 11) (f35 : n13 = w32 (n11 - n12)) (f36 : n14 ≤ 2) (f37 : 0 ≤ n14) (f38 : hK H3 (n2).toNat = 12) (f39 : n14 = hV H3 (n2).toNat 13) (f40 : n14 = 0) (f41 : 0 ≤ n13) (f42 : n15 = 3) (f43 : n13 ≤ n15) : Byb_233_85 n4 n3 n2 n1 n0 n7 n13 H0 H3 := by
  unfold Byb_233_85
  intro z s0 l0
  have ga := f8.2.1.1.1.2
  unfold Bb_233_2 at ga
  obtain ⟨z1, ye⟩ := ga z
  have vz : vwR H1 = vwR H0 := vwR_fr f8.1.2.1 (by decide +kernel)
  have gy := f8.2.1.1.2
  unfold Byb_233_2 at gy
  obtain ⟨xk, yk, ky⟩ := gy z s0 l0
  have d17 := rdS (q := 285) f17 f4
  have d22 := rdS (q := 285) f22 f4
  have d30 := rdS (q := 285) f30 f4
  have d33 := rdW (q := 288) f33 f24
  have d39 := rdS (q := 285) f39 f4
  have q13 := f13
  have q23 := f23
  have q40 := f40
  have q41 := f41
  have q43 := f43
  have qc42 := f42
  have lo1 := z1.2.2.2.1
  have p0 := PR_fr f12.1.2.1 (by decide +kernel) z1
  have v0 : vwR H2 = vwR H0 := p0.2.1.trans vz
  have ah0 : absR H2 = (absR H1) := p0.1
  have i0 := f12.2
  unfold postb_216 at i0
  rw [f9] at i0
  have cm0 := f13
  have b0 := (isR_or (k := 48) p0.2.2.1 (by decide) i0).resolve_left (fun w => absurd (w.1.symm.trans cm0) (by decide))
  replace b0 := b0.2
  rw [v0, ah0, kmc_48] at b0
  have c1 := f18.2.1.2 p0.2.2.1
  rw [v0, ah0] at c1
  have v1 : vwR H3 = vwR H0 := (vwR_fr f18.1.2.1 (by decide +kernel)).trans v0
  have xb : XRk H1 H2 := (XRk_fr f12.1.2.1 (by decide +kernel))
  have sb : 0 ≤ hV H2 285 51 := by
    rw [xb.1, xk.1]
    exact s0
  have ex := f18.2.2
  unfold yb_236 at ex
  have ex := ex p0.2.2.1 sb
  rw [v0, ah0] at ex
  refine ⟨KPc_tr (KPc_x xk) (KPc_tr (KPc_x (XRk_fr f12.1.2.1 (by decide +kernel))) ex.1), YRs_tr yk (YRs_tr (YRs_fr f12.1.2.1 (by decide +kernel)) (YRs_fr f18.1.2.1 (by decide +kernel))), fun hp => ?_⟩
  rw [pNots_stop b0] at ye
  have eA : absR H1 = xLitA (vwR H0) (absR H0) := ye
  have eB : absR H3 = xLitB (vwR H0) (absR H0) := by
    rw [c1.2, eA]
    rfl
  obtain ⟨e1, e2, e3⟩ := ex.2 hp
  have hq := hp
  rw [c1.2] at hq
  have h1 := ((pExp_n2 (v := vwR H0) (absR_ok z1)).2 hq).1
  obtain ⟨k1, k2⟩ := ky h1
  have fz := faultR_no c1.1 hp
  have kk := kindR_at c1.1 fz
  rw [v1] at kk
  rw [d30] at d33
  rw [← d33] at kk
  have rg31 := f31
  have rg32 := f32
  have s11 : n13 = n11 - 11 := by
    have w := f35
    rw [f34] at w
    rw [w]
    exact w32_id (by omega) (by omega)
  have k9 := km_r9 (k := n11) (by omega) (by omega)
  have e51 : n7 = hV H0 285 51 := by
    rw [d17, xb.1, xk.1]
  have ea : absR H3 = pExp (vwR H0) (absR H1) := c1.2
  rw [xb.1, xk.1, ← e51] at e2
  rw [eA] at e2 e3 k1 k2
  rw [eB] at kk e2 e3
  exact ⟨e51, k2, k1, e2, e3, by omega⟩
def g_233y_2_2 : vG := ([(45, [13, 15], [], 0), (0, [15], [], 3), (33, [13], [], 0), (30, [14], [], 0), (20, [14, 2], [3], 13), (23, [2], [3], 12), (90, [14], [], 0), (91, [14], [], 2), (2, [13, 11, 12], [], 0), (0, [12], [], 11), (22, [11, 9, 10], [3], 0), (90, [11], [], 0), (91, [11], [], 53), (20, [10, 2], [3], 11), (23, [2], [3], 12), (90, [10], [], 0), (91, [10], [], 500), (20, [9, 2], [3], 5), (23, [2], [3], 12), (0, [9], [], 288), (35, [8], [], 0), (20, [8, 2], [3], 13), (23, [2], [3], 12), (90, [8], [], 0), (91, [8], [], 2), (1236, [2], [2, 3], 0), (20, [7, 2], [2], 51), (23, [2], [2], 12), (90, [7], [], 0), (91, [7], [], 1200), (30, [6], [], 0), (1216, [6, 2, 5], [1, 2], 0), (90, [6], [], 0), (91, [6], [], 1), (0, [5], [], 48), (5000, [0, 1, 2, 3, 4], [0, 1], 2), (0, [0], [], 285), (90, [1], [], 0), (91, [1], [], 1), (0, [2], [], 285), (90, [3], [], 0), (91, [3], [], 1), (90, [4], [], 0), (91, [4], [], 1)], (4000, [2, 3, 4, 7, 13], [3], 85))
theorem c_233y_2_2 {q0 : Nat} : vOkm T0 (eN e_233w L_233y (eAB A_233 B_233) mu_233 y_233 By_233 (some q0)) 2 g_233y_2_2 := vOk_inI fun ρ η f0 f1 f2 f3 f4 f5 f6 f7 f8 f9 f10 f11 f12 f13 f14 f15 f16 f17 f18 f19 f20 f21 f22 f23 f24 f25 f26 f27 f28 f29 f30 f31 f32 f33 f34 f35 f36 f37 f38 f39 f40 f41 f42 f43 => q_233y_3 (q0 := q0) (n0 := ρ 4) (n1 := ρ 3) (n2 := ρ 2) (n3 := ρ 1) (n4 := ρ 0) (n5 := ρ 5) (n6 := ρ 6) (n7 := ρ 7) (n8 := ρ 8) (n9 := ρ 9) (n10 := ρ 10) (n11 := ρ 11) (n12 := ρ 12) (n13 := ρ 13) (n14 := ρ 14) (n15 := ρ 15) (H0 := η 0) (H1 := η 1) (H2 := η 2) (H3 := η 3) f43 f42 f41 f40 f39 f38 f37 f36 f35 f34 f33 f32 f31 f30 f29 f28 f27 f26 f25 f24 f23 f22 f21 f20 f19 f18 f17 f16 f15 f14 f13 f12 f11 f10 f9 f8 f7 f6 f5 f4 f3 f2 f1 f0
theorem q_233y_4 {q0 : Nat} {n0 n1 n2 n3 n4 n5 n6 n7 n8 n9 n10 n11 n12 n13 n14 n15 n16 : Int} {H0 H1 H2 H3 H4 : gH} (f0 : n0 ≤ 1) (f1 : 0 ≤ n0) (f2 : n1 ≤ 1) (f3 : 0 ≤ n1) (f4 : n2 = 285) (f5 : n3 ≤ 1) (f6 : 0 ≤ n3) (f7 : n4 = 285) (f8 : (hLe T0 H0 H1 ∧ hFr s_233.2.2.2.2 H0 H1 ∧ hWt T0 H1) ∧ (((Ab_233_2 n4 n3 n2 n1 n0 H0 H1 ∧ Bb_233_2 n4 n3 n2 n1 n0 H0 H1) ∧ Byb_233_2 n4 n3 n2 n1 n0 H0 H1) ∧ preb_233 n4 n3 H0) ∧ some q0 = some (mub_233_2 n4 n3 n2 n1 n0 H0 H1)) (f9 : n5 = 48) (f10 : n6 ≤ 1) (f11 : 0 ≤ n6) (f12 : (hLe T0 H1 H2 ∧ hFr s_216.2.2.2.2 H1 H2 ∧ ((0 : Int) = 0 → H2.length = H1.length) ∧ hWt T0 H2) ∧ postb_216 n6 n2 n5 H1 H2) (f13 : n6 = 0) (f14 : n7 ≤ 1200) (f15 : 0 ≤ n7) (f16 : hK H2 (n2).toNat = 12) (f17 : n7 = hV H2 (n2).toNat 51) (f18 : (hLe T0 H2 H3 ∧ hFr s_236.2.2.2.2 H2 H3 ∧ ((0 : Int) = 0 → H3.length = H2.length) ∧ hWt T0 H3) ∧ ((postb_236 n2 H2 H3 ∧ nb_236 n2 H2 H3) ∧ yb_236 n2 H2 H3)) (f19 : n8 ≤ 2) (f20 : 0 ≤ n8) (f21 : hK H3 (n2).toNat = 12) (f22 : n8 = hV H3 (n2).toNat 13) (f23 : n8 ≤ 0) (f24 : n9 = 288) (f25 : hK H3 (n2).toNat = 12) (f26 : n9 = hV H3 (n2).toNat 5) (f27 : n10 ≤ 500) (f28 : 0 ≤ n10) (f29 : hK H3 (n2).toNat = 12) (f30 : n10 = hV H3 (n2).toNat 11) (f31 : n11 ≤ 53) (f32 : 0 ≤ n11) (f33 : n11 = hV H3 (n9).toNat (n10).toNat) (f34 : n12 = 11) (f35 : n13 = w32 (n11 - n12)) (f36 : n14 ≤ 2) (f37 : 0 ≤ n14) (f38 : hK H3 (n2).toNat = 12) (f39 : n14 = hV H3 (n2).toNat 13) (f40 : n14 = 0) (f41 : 0 ≤ n13) (f42 : n15 = 3) (f43 : n15 < n13) (f44 : n16 = 1) (f45 : (hLe T0 H3 H4 ∧ hFr s_217.2.2.2.2 H3 H4 ∧ ((0 : Int) = 0 → H4.length = H3.length) ∧ hWt T0 H4) ∧ (postb_217 n2 n16 H3 H4 ∧ nb_217 n2 n16 H3 H4)) : Byb_233_85 n4 n3 n2 n1 n0 n7 n13 H0 H4 := by
  unfold Byb_233_85
  intro z s0 l0
  have ga := f8.2.1.1.1.2
  unfold Bb_233_2 at ga
  obtain ⟨z1, ye⟩ := ga z
  have vz : vwR H1 = vwR H0 := vwR_fr f8.1.2.1 (by decide +kernel)
  have gy := f8.2.1.1.2
  unfold Byb_233_2 at gy
  obtain ⟨xk, yk, ky⟩ := gy z s0 l0
  have d17 := rdS (q := 285) f17 f4
  have d22 := rdS (q := 285) f22 f4
  have d30 := rdS (q := 285) f30 f4
  have d33 := rdW (q := 288) f33 f24
  have d39 := rdS (q := 285) f39 f4
  have q13 := f13
  have q23 := f23
  have q40 := f40
  have q41 := f41
  have q43 := f43
  have qc42 := f42
  have lo1 := z1.2.2.2.1
  have p0 := PR_fr f12.1.2.1 (by decide +kernel) z1
  have v0 : vwR H2 = vwR H0 := p0.2.1.trans vz
  have ah0 : absR H2 = (absR H1) := p0.1
  have i0 := f12.2
  unfold postb_216 at i0
  rw [f9] at i0
  have cm0 := f13
  have b0 := (isR_or (k := 48) p0.2.2.1 (by decide) i0).resolve_left (fun w => absurd (w.1.symm.trans cm0) (by decide))
  replace b0 := b0.2
  rw [v0, ah0, kmc_48] at b0
  have c1 := f18.2.1.2 p0.2.2.1
  rw [v0, ah0] at c1
  have v1 : vwR H3 = vwR H0 := (vwR_fr f18.1.2.1 (by decide +kernel)).trans v0
  have c2 := f45.2.2 c1.1
  try rw [f44] at c2
  rw [v1, c1.2] at c2
  have v2 : vwR H4 = vwR H0 := (vwR_fr f45.1.2.1 (by decide +kernel)).trans v1
  have xb : XRk H1 H2 := (XRk_fr f12.1.2.1 (by decide +kernel))
  have sb : 0 ≤ hV H2 285 51 := by
    rw [xb.1, xk.1]
    exact s0
  have ex := f18.2.2
  unfold yb_236 at ex
  have ex := ex p0.2.2.1 sb
  rw [v0, ah0] at ex
  refine ⟨KPc_tr (KPc_x xk) (KPc_tr (KPc_x (XRk_fr f12.1.2.1 (by decide +kernel))) (KPc_tr ex.1 (KPc_x (XRk_fr f45.1.2.1 (by decide +kernel))))), YRs_tr yk (YRs_tr (YRs_fr f12.1.2.1 (by decide +kernel)) (YRs_tr (YRs_fr f18.1.2.1 (by decide +kernel)) (YRs_fr f45.1.2.1 (by decide +kernel)))), fun hp => ?_⟩
  exfalso
  rw [c2.2] at hp
  have := pfailR_lt z (f := 1) (p := pExp (vwR H0) (absR H1)) (by decide)
  omega
def g_233y_2_3 : vG := ([(1217, [2, 16], [3, 4], 0), (0, [16], [], 1), (44, [13, 15], [], 0), (0, [15], [], 3), (33, [13], [], 0), (30, [14], [], 0), (20, [14, 2], [3], 13), (23, [2], [3], 12), (90, [14], [], 0), (91, [14], [], 2), (2, [13, 11, 12], [], 0), (0, [12], [], 11), (22, [11, 9, 10], [3], 0), (90, [11], [], 0), (91, [11], [], 53), (20, [10, 2], [3], 11), (23, [2], [3], 12), (90, [10], [], 0), (91, [10], [], 500), (20, [9, 2], [3], 5), (23, [2], [3], 12), (0, [9], [], 288), (35, [8], [], 0), (20, [8, 2], [3], 13), (23, [2], [3], 12), (90, [8], [], 0), (91, [8], [], 2), (1236, [2], [2, 3], 0), (20, [7, 2], [2], 51), (23, [2], [2], 12), (90, [7], [], 0), (91, [7], [], 1200), (30, [6], [], 0), (1216, [6, 2, 5], [1, 2], 0), (90, [6], [], 0), (91, [6], [], 1), (0, [5], [], 48), (5000, [0, 1, 2, 3, 4], [0, 1], 2), (0, [0], [], 285), (90, [1], [], 0), (91, [1], [], 1), (0, [2], [], 285), (90, [3], [], 0), (91, [3], [], 1), (90, [4], [], 0), (91, [4], [], 1)], (4000, [2, 3, 4, 7, 13], [4], 85))
theorem c_233y_2_3 {q0 : Nat} : vOkm T0 (eN e_233w L_233y (eAB A_233 B_233) mu_233 y_233 By_233 (some q0)) 2 g_233y_2_3 := vOk_inI fun ρ η f0 f1 f2 f3 f4 f5 f6 f7 f8 f9 f10 f11 f12 f13 f14 f15 f16 f17 f18 f19 f20 f21 f22 f23 f24 f25 f26 f27 f28 f29 f30 f31 f32 f33 f34 f35 f36 f37 f38 f39 f40 f41 f42 f43 f44 f45 => q_233y_4 (q0 := q0) (n0 := ρ 4) (n1 := ρ 3) (n2 := ρ 2) (n3 := ρ 1) (n4 := ρ 0) (n5 := ρ 5) (n6 := ρ 6) (n7 := ρ 7) (n8 := ρ 8) (n9 := ρ 9) (n10 := ρ 10) (n11 := ρ 11) (n12 := ρ 12) (n13 := ρ 13) (n14 := ρ 14) (n15 := ρ 15) (n16 := ρ 16) (H0 := η 0) (H1 := η 1) (H2 := η 2) (H3 := η 3) (H4 := η 4) f45 f44 f43 f42 f41 f40 f39 f38 f37 f36 f35 f34 f33 f32 f31 f30 f29 f28 f27 f26 f25 f24 f23 f22 f21 f20 f19 f18 f17 f16 f15 f14 f13 f12 f11 f10 f9 f8 f7 f6 f5 f4 f3 f2 f1 f0
theorem q_233y_5 {q0 : Nat} {n0 n1 n2 n3 n4 n5 n6 n7 n8 n9 n10 : Int} {H0 H1 H2 H3 : gH} (f0 : n0 ≤ 1) (f1 : 0 ≤ n0) (f2 : n1 ≤ 1) (f3 : 0 ≤ n1) (f4 : n2 = 285) (f5 : n3 ≤ 1) (f6 : 0 ≤ n3) (f7 : n4 = 285) (f8 : (hLe T0 H0 H1 ∧ hFr s_233.2.2.2.2 H0 H1 ∧ hWt T0 H1) ∧ (((Ab_233_2 n4 n3 n2 n1 n0 H0 H1 ∧ Bb_233_2 n4 n3 n2 n1 n0 H0 H1) ∧ Byb_233_2 n4 n3 n2 n1 n0 H0 H1) ∧ preb_233 n4 n3 H0) ∧ some q0 = some (mub_233_2 n4 n3 n2 n1 n0 H0 H1)) (f9 : n5 = 48) (f10 : n6 ≤ 1) (f11 : 0 ≤ n6) (f12 : (hLe T0 H1 H2 ∧ hFr s_216.2.2.2.2 H1 H2 ∧ ((0 : Int) = 0 → H2.length = H1.length) ∧ hWt T0 H2) ∧ postb_216 n6 n2 n5 H1 H2) (f13 : n6 = 0) (f14 : n7 ≤ 1200) (f15 : 0 ≤ n7) (f16 : hK H2 (n2).toNat = 12) (f17 : n7 = hV H2 (n2).toNat 51) (f18 : (hLe T0 H2 H3 ∧ hFr s_236.2.2.2.2 H2 H3 ∧ ((0 : Int) = 0 → H3.length = H2.length) ∧ hWt T0 H3) ∧ ((postb_236 n2 H2 H3 ∧ nb_236 n2 H2 H3) ∧ yb_236 n2 H2 H3)) (f19 : n8 ≤ 2) (f20 : 0 ≤ n8) (f21 : hK H3 (n2).toNat = 12) (f22 : n8 = hV H3 (n2).toNat 13) (f23 : 0 < n8) (f24 : n9 = 0) (f25 : n10 ≤ 2) (f26 : 0 ≤ n10) (f27 : hK H3 (n2).toNat = 12) (f28 : n10 = hV H3 (n2).toNat 13) (f29 : n10 ≠ 0) : Byb_233_85 n4 n3 n2 n1 n0 n7 n9 H0 H3 := by
  unfold Byb_233_85
  intro z s0 l0
  have ga := f8.2.1.1.1.2
  unfold Bb_233_2 at ga
  obtain ⟨z1, ye⟩ := ga z
  have vz : vwR H1 = vwR H0 := vwR_fr f8.1.2.1 (by decide +kernel)
  have gy := f8.2.1.1.2
  unfold Byb_233_2 at gy
  obtain ⟨xk, yk, ky⟩ := gy z s0 l0
  have d17 := rdS (q := 285) f17 f4
  have d22 := rdS (q := 285) f22 f4
  have d28 := rdS (q := 285) f28 f4
  have q13 := f13
  have q23 := f23
  have q29 := f29
  have lo1 := z1.2.2.2.1
  have p0 := PR_fr f12.1.2.1 (by decide +kernel) z1
  have v0 : vwR H2 = vwR H0 := p0.2.1.trans vz
  have ah0 : absR H2 = (absR H1) := p0.1
  have i0 := f12.2
  unfold postb_216 at i0
  rw [f9] at i0
  have cm0 := f13
  have b0 := (isR_or (k := 48) p0.2.2.1 (by decide) i0).resolve_left (fun w => absurd (w.1.symm.trans cm0) (by decide))
  replace b0 := b0.2
  rw [v0, ah0, kmc_48] at b0
  have c1 := f18.2.1.2 p0.2.2.1
  rw [v0, ah0] at c1
  have v1 : vwR H3 = vwR H0 := (vwR_fr f18.1.2.1 (by decide +kernel)).trans v0
  have xb : XRk H1 H2 := (XRk_fr f12.1.2.1 (by decide +kernel))
  have sb : 0 ≤ hV H2 285 51 := by
    rw [xb.1, xk.1]
    exact s0
  have ex := f18.2.2
  unfold yb_236 at ex
  have ex := ex p0.2.2.1 sb
  rw [v0, ah0] at ex
  refine ⟨KPc_tr (KPc_x xk) (KPc_tr (KPc_x (XRk_fr f12.1.2.1 (by decide +kernel))) ex.1), YRs_tr yk (YRs_tr (YRs_fr f12.1.2.1 (by decide +kernel)) (YRs_fr f18.1.2.1 (by decide +kernel))), fun hp => ?_⟩
  exfalso
  have := absR_neg c1.1 (by omega)
  omega
def g_233y_2_4 : vG := ([(31, [10], [], 0), (20, [10, 2], [3], 13), (23, [2], [3], 12), (90, [10], [], 0), (91, [10], [], 2), (0, [9], [], 0), (34, [8], [], 0), (20, [8, 2], [3], 13), (23, [2], [3], 12), (90, [8], [], 0), (91, [8], [], 2), (1236, [2], [2, 3], 0), (20, [7, 2], [2], 51), (23, [2], [2], 12), (90, [7], [], 0), (91, [7], [], 1200), (30, [6], [], 0), (1216, [6, 2, 5], [1, 2], 0), (90, [6], [], 0), (91, [6], [], 1), (0, [5], [], 48), (5000, [0, 1, 2, 3, 4], [0, 1], 2), (0, [0], [], 285), (90, [1], [], 0), (91, [1], [], 1), (0, [2], [], 285), (90, [3], [], 0), (91, [3], [], 1), (90, [4], [], 0), (91, [4], [], 1)], (4000, [2, 3, 4, 7, 9], [3], 85))
theorem c_233y_2_4 {q0 : Nat} : vOkm T0 (eN e_233w L_233y (eAB A_233 B_233) mu_233 y_233 By_233 (some q0)) 2 g_233y_2_4 := vOk_inI fun ρ η f0 f1 f2 f3 f4 f5 f6 f7 f8 f9 f10 f11 f12 f13 f14 f15 f16 f17 f18 f19 f20 f21 f22 f23 f24 f25 f26 f27 f28 f29 => q_233y_5 (q0 := q0) (n0 := ρ 4) (n1 := ρ 3) (n2 := ρ 2) (n3 := ρ 1) (n4 := ρ 0) (n5 := ρ 5) (n6 := ρ 6) (n7 := ρ 7) (n8 := ρ 8) (n9 := ρ 9) (n10 := ρ 10) (H0 := η 0) (H1 := η 1) (H2 := η 2) (H3 := η 3) f29 f28 f27 f26 f25 f24 f23 f22 f21 f20 f19 f18 f17 f16 f15 f14 f13 f12 f11 f10 f9 f8 f7 f6 f5 f4 f3 f2 f1 f0
theorem q_233y_6 {q0 : Nat} {n0 n1 n2 n3 n4 n5 n6 n7 n8 n9 n10 n11 : Int} {H0 H1 H2 H3 H4 : gH} (f0 : n0 ≤ 1) (f1 : 0 ≤ n0) (f2 : n1 ≤ 1) (f3 : 0 ≤ n1) (f4 : n2 = 285) (f5 : n3 ≤ 1) (f6 : 0 ≤ n3) (f7 : n4 = 285) (f8 : (hLe T0 H0 H1 ∧ hFr s_233.2.2.2.2 H0 H1 ∧ hWt T0 H1) ∧ (((Ab_233_2 n4 n3 n2 n1 n0 H0 H1 ∧ Bb_233_2 n4 n3 n2 n1 n0 H0 H1) ∧ Byb_233_2 n4 n3 n2 n1 n0 H0 H1) ∧ preb_233 n4 n3 H0) ∧ some q0 = some (mub_233_2 n4 n3 n2 n1 n0 H0 H1)) (f9 : n5 = 48) (f10 : n6 ≤ 1) (f11 : 0 ≤ n6) (f12 : (hLe T0 H1 H2 ∧ hFr s_216.2.2.2.2 H1 H2 ∧ ((0 : Int) = 0 → H2.length = H1.length) ∧ hWt T0 H2) ∧ postb_216 n6 n2 n5 H1 H2) (f13 : n6 = 0) (f14 : n7 ≤ 1200) (f15 : 0 ≤ n7) (f16 : hK H2 (n2).toNat = 12) (f17 : n7 = hV H2 (n2).toNat 51) (f18 : (hLe T0 H2 H3 ∧ hFr s_236.2.2.2.2 H2 H3 ∧ ((0 : Int) = 0 → H3.length = H2.length) ∧ hWt T0 H3) ∧ ((postb_236 n2 H2 H3 ∧ nb_236 n2 H2 H3) ∧ yb_236 n2 H2 H3)) (f19 : n8 ≤ 2) (f20 : 0 ≤ n8) (f21 : hK H3 (n2).toNat = 12) (f22 : n8 = hV H3 (n2).toNat 13) (f23 : 0 < n8) (f24 : n9 = 0) (f25 : n10 ≤ 2) (f26 : 0 ≤ n10) (f27 : hK H3 (n2).toNat = 12) (f28 : n10 = hV H3 (n2).toNat 13) (f29 : n10 = 0) (f30 : n9 < 0) (f31 : n11 = 1) (f32 : (hLe T0 H3 H4 ∧ hFr s_217.2.2.2.2 H3 H4 ∧ ((0 : Int) = 0 → H4.length = H3.length) ∧ hWt T0 H4) ∧ (postb_217 n2 n11 H3 H4 ∧ nb_217 n2 n11 H3 H4)) : Byb_233_85 n4 n3 n2 n1 n0 n7 n9 H0 H4 := by
  unfold Byb_233_85
  intro z s0 l0
  exfalso
  have dd := f30
  have dc24 := f24
  omega
def g_233y_2_5 : vG := ([(1217, [2, 11], [3, 4], 0), (0, [11], [], 1), (32, [9], [], 0), (30, [10], [], 0), (20, [10, 2], [3], 13), (23, [2], [3], 12), (90, [10], [], 0), (91, [10], [], 2), (0, [9], [], 0), (34, [8], [], 0), (20, [8, 2], [3], 13), (23, [2], [3], 12), (90, [8], [], 0), (91, [8], [], 2), (1236, [2], [2, 3], 0), (20, [7, 2], [2], 51), (23, [2], [2], 12), (90, [7], [], 0), (91, [7], [], 1200), (30, [6], [], 0), (1216, [6, 2, 5], [1, 2], 0), (90, [6], [], 0), (91, [6], [], 1), (0, [5], [], 48), (5000, [0, 1, 2, 3, 4], [0, 1], 2), (0, [0], [], 285), (90, [1], [], 0), (91, [1], [], 1), (0, [2], [], 285), (90, [3], [], 0), (91, [3], [], 1), (90, [4], [], 0), (91, [4], [], 1)], (4000, [2, 3, 4, 7, 9], [4], 85))
theorem c_233y_2_5 {q0 : Nat} : vOkm T0 (eN e_233w L_233y (eAB A_233 B_233) mu_233 y_233 By_233 (some q0)) 2 g_233y_2_5 := vOk_inI fun ρ η f0 f1 f2 f3 f4 f5 f6 f7 f8 f9 f10 f11 f12 f13 f14 f15 f16 f17 f18 f19 f20 f21 f22 f23 f24 f25 f26 f27 f28 f29 f30 f31 f32 => q_233y_6 (q0 := q0) (n0 := ρ 4) (n1 := ρ 3) (n2 := ρ 2) (n3 := ρ 1) (n4 := ρ 0) (n5 := ρ 5) (n6 := ρ 6) (n7 := ρ 7) (n8 := ρ 8) (n9 := ρ 9) (n10 := ρ 10) (n11 := ρ 11) (H0 := η 0) (H1 := η 1) (H2 := η 2) (H3 := η 3) (H4 := η 4) f32 f31 f30 f29 f28 f27 f26 f25 f24 f23 f22 f21 f20 f19 f18 f17 f16 f15 f14 f13 f12 f11 f10 f9 f8 f7 f6 f5 f4 f3 f2 f1 f0
theorem q_233y_7 {q0 : Nat} {n0 n1 n2 n3 n4 n5 n6 n7 n8 n9 n10 n11 : Int} {H0 H1 H2 H3 : gH} (f0 : n0 ≤ 1) (f1 : 0 ≤ n0) (f2 : n1 ≤ 1) (f3 : 0 ≤ n1) (f4 : n2 = 285) (f5 : n3 ≤ 1) (f6 : 0 ≤ n3) (f7 : n4 = 285) (f8 : (hLe T0 H0 H1 ∧ hFr s_233.2.2.2.2 H0 H1 ∧ hWt T0 H1) ∧ (((Ab_233_2 n4 n3 n2 n1 n0 H0 H1 ∧ Bb_233_2 n4 n3 n2 n1 n0 H0 H1) ∧ Byb_233_2 n4 n3 n2 n1 n0 H0 H1) ∧ preb_233 n4 n3 H0) ∧ some q0 = some (mub_233_2 n4 n3 n2 n1 n0 H0 H1)) (f9 : n5 = 48) (f10 : n6 ≤ 1) (f11 : 0 ≤ n6) (f12 : (hLe T0 H1 H2 ∧ hFr s_216.2.2.2.2 H1 H2 ∧ ((0 : Int) = 0 → H2.length = H1.length) ∧ hWt T0 H2) ∧ postb_216 n6 n2 n5 H1 H2) (f13 : n6 = 0) (f14 : n7 ≤ 1200) (f15 : 0 ≤ n7) (f16 : hK H2 (n2).toNat = 12) (f17 : n7 = hV H2 (n2).toNat 51) (f18 : (hLe T0 H2 H3 ∧ hFr s_236.2.2.2.2 H2 H3 ∧ ((0 : Int) = 0 → H3.length = H2.length) ∧ hWt T0 H3) ∧ ((postb_236 n2 H2 H3 ∧ nb_236 n2 H2 H3) ∧ yb_236 n2 H2 H3)) (f19 : n8 ≤ 2) (f20 : 0 ≤ n8) (f21 : hK H3 (n2).toNat = 12) (f22 : n8 = hV H3 (n2).toNat 13) (f23 : 0 < n8) (f24 : n9 = 0) (f25 : n10 ≤ 2) (f26 : 0 ≤ n10) (f27 : hK H3 (n2).toNat = 12) (f28 : n10 = hV H3 (n2).toNat 13) (f29 : n10 = 0) (f30 : 0 ≤ n9) (f31 : n11 = 3) (f32 : n9 ≤ n11) : Byb_233_85 n4 n3 n2 n1 n0 n7 n9 H0 H3 := by
  unfold Byb_233_85
  intro z s0 l0
  have ga := f8.2.1.1.1.2
  unfold Bb_233_2 at ga
  obtain ⟨z1, ye⟩ := ga z
  have vz : vwR H1 = vwR H0 := vwR_fr f8.1.2.1 (by decide +kernel)
  have gy := f8.2.1.1.2
  unfold Byb_233_2 at gy
  obtain ⟨xk, yk, ky⟩ := gy z s0 l0
  have d17 := rdS (q := 285) f17 f4
  have d22 := rdS (q := 285) f22 f4
  have d28 := rdS (q := 285) f28 f4
  have q13 := f13
  have q23 := f23
  have q29 := f29
  have q30 := f30
  have q32 := f32
  have qc24 := f24
  have qc31 := f31
  have lo1 := z1.2.2.2.1
  have p0 := PR_fr f12.1.2.1 (by decide +kernel) z1
  have v0 : vwR H2 = vwR H0 := p0.2.1.trans vz
  have ah0 : absR H2 = (absR H1) := p0.1
  have i0 := f12.2
  unfold postb_216 at i0
  rw [f9] at i0
  have cm0 := f13
  have b0 := (isR_or (k := 48) p0.2.2.1 (by decide) i0).resolve_left (fun w => absurd (w.1.symm.trans cm0) (by decide))
  replace b0 := b0.2
  rw [v0, ah0, kmc_48] at b0
  have c1 := f18.2.1.2 p0.2.2.1
  rw [v0, ah0] at c1
  have v1 : vwR H3 = vwR H0 := (vwR_fr f18.1.2.1 (by decide +kernel)).trans v0
  have xb : XRk H1 H2 := (XRk_fr f12.1.2.1 (by decide +kernel))
  have sb : 0 ≤ hV H2 285 51 := by
    rw [xb.1, xk.1]
    exact s0
  have ex := f18.2.2
  unfold yb_236 at ex
  have ex := ex p0.2.2.1 sb
  rw [v0, ah0] at ex
  refine ⟨KPc_tr (KPc_x xk) (KPc_tr (KPc_x (XRk_fr f12.1.2.1 (by decide +kernel))) ex.1), YRs_tr yk (YRs_tr (YRs_fr f12.1.2.1 (by decide +kernel)) (YRs_fr f18.1.2.1 (by decide +kernel))), fun hp => ?_⟩
  exfalso
  have := absR_neg c1.1 (by omega)
  omega
def g_233y_2_6 : vG := ([(45, [9, 11], [], 0), (0, [11], [], 3), (33, [9], [], 0), (30, [10], [], 0), (20, [10, 2], [3], 13), (23, [2], [3], 12), (90, [10], [], 0), (91, [10], [], 2), (0, [9], [], 0), (34, [8], [], 0), (20, [8, 2], [3], 13), (23, [2], [3], 12), (90, [8], [], 0), (91, [8], [], 2), (1236, [2], [2, 3], 0), (20, [7, 2], [2], 51), (23, [2], [2], 12), (90, [7], [], 0), (91, [7], [], 1200), (30, [6], [], 0), (1216, [6, 2, 5], [1, 2], 0), (90, [6], [], 0), (91, [6], [], 1), (0, [5], [], 48), (5000, [0, 1, 2, 3, 4], [0, 1], 2), (0, [0], [], 285), (90, [1], [], 0), (91, [1], [], 1), (0, [2], [], 285), (90, [3], [], 0), (91, [3], [], 1), (90, [4], [], 0), (91, [4], [], 1)], (4000, [2, 3, 4, 7, 9], [3], 85))
theorem c_233y_2_6 {q0 : Nat} : vOkm T0 (eN e_233w L_233y (eAB A_233 B_233) mu_233 y_233 By_233 (some q0)) 2 g_233y_2_6 := vOk_inI fun ρ η f0 f1 f2 f3 f4 f5 f6 f7 f8 f9 f10 f11 f12 f13 f14 f15 f16 f17 f18 f19 f20 f21 f22 f23 f24 f25 f26 f27 f28 f29 f30 f31 f32 => q_233y_7 (q0 := q0) (n0 := ρ 4) (n1 := ρ 3) (n2 := ρ 2) (n3 := ρ 1) (n4 := ρ 0) (n5 := ρ 5) (n6 := ρ 6) (n7 := ρ 7) (n8 := ρ 8) (n9 := ρ 9) (n10 := ρ 10) (n11 := ρ 11) (H0 := η 0) (H1 := η 1) (H2 := η 2) (H3 := η 3) f32 f31 f30 f29 f28 f27 f26 f25 f24 f23 f22 f21 f20 f19 f18 f17 f16 f15 f14 f13 f12 f11 f10 f9 f8 f7 f6 f5 f4 f3 f2 f1 f0
theorem q_233y_8 {q0 : Nat} {n0 n1 n2 n3 n4 n5 n6 n7 n8 n9 n10 n11 n12 : Int} {H0 H1 H2 H3 H4 : gH} (f0 : n0 ≤ 1) (f1 : 0 ≤ n0) (f2 : n1 ≤ 1) (f3 : 0 ≤ n1) (f4 : n2 = 285) (f5 : n3 ≤ 1) (f6 : 0 ≤ n3) (f7 : n4 = 285) (f8 : (hLe T0 H0 H1 ∧ hFr s_233.2.2.2.2 H0 H1 ∧ hWt T0 H1) ∧ (((Ab_233_2 n4 n3 n2 n1 n0 H0 H1 ∧ Bb_233_2 n4 n3 n2 n1 n0 H0 H1) ∧ Byb_233_2 n4 n3 n2 n1 n0 H0 H1) ∧ preb_233 n4 n3 H0) ∧ some q0 = some (mub_233_2 n4 n3 n2 n1 n0 H0 H1)) (f9 : n5 = 48) (f10 : n6 ≤ 1) (f11 : 0 ≤ n6) (f12 : (hLe T0 H1 H2 ∧ hFr s_216.2.2.2.2 H1 H2 ∧ ((0 : Int) = 0 → H2.length = H1.length) ∧ hWt T0 H2) ∧ postb_216 n6 n2 n5 H1 H2) (f13 : n6 = 0) (f14 : n7 ≤ 1200) (f15 : 0 ≤ n7) (f16 : hK H2 (n2).toNat = 12) (f17 : n7 = hV H2 (n2).toNat 51) (f18 : (hLe T0 H2 H3 ∧ hFr s_236.2.2.2.2 H2 H3 ∧ ((0 : Int) = 0 → H3.length = H2.length) ∧ hWt T0 H3) ∧ ((postb_236 n2 H2 H3 ∧ nb_236 n2 H2 H3) ∧ yb_236 n2 H2 H3)) (f19 : n8 ≤ 2) (f20 : 0 ≤ n8) (f21 : hK H3 (n2).toNat = 12) (f22 : n8 = hV H3 (n2).toNat 13) (f23 : 0 < n8) (f24 : n9 = 0) (f25 : n10 ≤ 2) (f26 : 0 ≤ n10) (f27 : hK H3 (n2).toNat = 12) (f28 : n10 = hV H3 (n2).toNat 13) (f29 : n10 = 0) (f30 : 0 ≤ n9) (f31 : n11 = 3) (f32 : n11 < n9) (f33 : n12 = 1) (f34 : (hLe T0 H3 H4 ∧ hFr s_217.2.2.2.2 H3 H4 ∧ ((0 : Int) = 0 → H4.length = H3.length) ∧ hWt T0 H4) ∧ (postb_217 n2 n12 H3 H4 ∧ nb_217 n2 n12 H3 H4)) : Byb_233_85 n4 n3 n2 n1 n0 n7 n9 H0 H4 := by
  unfold Byb_233_85
  intro z s0 l0
  exfalso
  have dd := f32
  have dc24 := f24
  have dc31 := f31
  omega
def g_233y_2_7 : vG := ([(1217, [2, 12], [3, 4], 0), (0, [12], [], 1), (44, [9, 11], [], 0), (0, [11], [], 3), (33, [9], [], 0), (30, [10], [], 0), (20, [10, 2], [3], 13), (23, [2], [3], 12), (90, [10], [], 0), (91, [10], [], 2), (0, [9], [], 0), (34, [8], [], 0), (20, [8, 2], [3], 13), (23, [2], [3], 12), (90, [8], [], 0), (91, [8], [], 2), (1236, [2], [2, 3], 0), (20, [7, 2], [2], 51), (23, [2], [2], 12), (90, [7], [], 0), (91, [7], [], 1200), (30, [6], [], 0), (1216, [6, 2, 5], [1, 2], 0), (90, [6], [], 0), (91, [6], [], 1), (0, [5], [], 48), (5000, [0, 1, 2, 3, 4], [0, 1], 2), (0, [0], [], 285), (90, [1], [], 0), (91, [1], [], 1), (0, [2], [], 285), (90, [3], [], 0), (91, [3], [], 1), (90, [4], [], 0), (91, [4], [], 1)], (4000, [2, 3, 4, 7, 9], [4], 85))
theorem c_233y_2_7 {q0 : Nat} : vOkm T0 (eN e_233w L_233y (eAB A_233 B_233) mu_233 y_233 By_233 (some q0)) 2 g_233y_2_7 := vOk_inI fun ρ η f0 f1 f2 f3 f4 f5 f6 f7 f8 f9 f10 f11 f12 f13 f14 f15 f16 f17 f18 f19 f20 f21 f22 f23 f24 f25 f26 f27 f28 f29 f30 f31 f32 f33 f34 => q_233y_8 (q0 := q0) (n0 := ρ 4) (n1 := ρ 3) (n2 := ρ 2) (n3 := ρ 1) (n4 := ρ 0) (n5 := ρ 5) (n6 := ρ 6) (n7 := ρ 7) (n8 := ρ 8) (n9 := ρ 9) (n10 := ρ 10) (n11 := ρ 11) (n12 := ρ 12) (H0 := η 0) (H1 := η 1) (H2 := η 2) (H3 := η 3) (H4 := η 4) f34 f33 f32 f31 f30 f29 f28 f27 f26 f25 f24 f23 f22 f21 f20 f19 f18 f17 f16 f15 f14 f13 f12 f11 f10 f9 f8 f7 f6 f5 f4 f3 f2 f1 f0
theorem q_233y_9 {q0 : Nat} {n0 n1 n2 n3 n4 n5 n6 n7 : Int} {H0 H1 H2 H3 : gH} (f0 : n0 ≤ 1) (f1 : 0 ≤ n0) (f2 : n1 ≤ 1) (f3 : 0 ≤ n1) (f4 : n2 = 285) (f5 : n3 ≤ 1) (f6 : 0 ≤ n3) (f7 : n4 = 285) (f8 : (hLe T0 H0 H1 ∧ hFr s_233.2.2.2.2 H0 H1 ∧ hWt T0 H1) ∧ (((Ab_233_2 n4 n3 n2 n1 n0 H0 H1 ∧ Bb_233_2 n4 n3 n2 n1 n0 H0 H1) ∧ Byb_233_2 n4 n3 n2 n1 n0 H0 H1) ∧ preb_233 n4 n3 H0) ∧ some q0 = some (mub_233_2 n4 n3 n2 n1 n0 H0 H1)) (f9 : n5 = 48) (f10 : n6 ≤ 1) (f11 : 0 ≤ n6) (f12 : (hLe T0 H1 H2 ∧ hFr s_216.2.2.2.2 H1 H2 ∧ ((0 : Int) = 0 → H2.length = H1.length) ∧ hWt T0 H2) ∧ postb_216 n6 n2 n5 H1 H2) (f13 : n6 ≠ 0) (f14 : n0 ≠ 0) (f15 : n7 = 0) (f16 : (hLe T0 H2 H3 ∧ hFr s_219.2.2.2.2 H2 H3 ∧ ((0 : Int) = 0 → H3.length = H2.length) ∧ hWt T0 H3) ∧ (postb_219 n2 H2 H3 ∧ nb_219 n2 H2 H3)) : Byb_233_2 n4 n3 n2 n1 n7 H0 H3 := by
  unfold Byb_233_2
  intro z s0 l0
  have ga := f8.2.1.1.1.2
  unfold Bb_233_2 at ga
  obtain ⟨z1, ye⟩ := ga z
  have vz : vwR H1 = vwR H0 := vwR_fr f8.1.2.1 (by decide +kernel)
  have gy := f8.2.1.1.2
  unfold Byb_233_2 at gy
  obtain ⟨xk, yk, ky⟩ := gy z s0 l0
  have q13 := f13
  have q14 := f14
  have lo1 := z1.2.2.2.1
  have p0 := PR_fr f12.1.2.1 (by decide +kernel) z1
  have v0 : vwR H2 = vwR H0 := p0.2.1.trans vz
  have ah0 : absR H2 = (absR H1) := p0.1
  have i0 := f12.2
  unfold postb_216 at i0
  rw [f9] at i0
  have cm0 := f13
  have b0 := (isR_or (k := 48) p0.2.2.1 (by decide) i0).resolve_right (fun w => cm0 w.1)
  replace b0 := b0.2
  rw [v0, ah0, kmc_48] at b0
  have c1 := f16.2.2 p0.2.2.1 (by rw [v0, ah0]; rw [b0]; decide)
  rw [v0, ah0, b0] at c1
  have v1 : vwR H3 = vwR H0 := (vwR_fr f16.1.2.1 (by decide +kernel)).trans v0
  refine ⟨XRk_tr xk (XRk_tr (XRk_fr f12.1.2.1 (by decide +kernel)) (XRk_fr f16.1.2.1 (by decide +kernel))), YRs_tr yk (YRs_tr (YRs_fr f12.1.2.1 (by decide +kernel)) (YRs_fr f16.1.2.1 (by decide +kernel))), fun hp => ?_⟩
  rw [c1.2] at hp ⊢
  have pn := ptkR_next z hp
  have h1 := (pt1R_kind z hp).1
  obtain ⟨k1, k2⟩ := ky h1
  have pn : (ptk (vwR H0) 44 (absR H1)).1 = (absR H1).1 + 1 := pn
  omega
def g_233y_2_8 : vG := ([(1219, [2], [2, 3], 0), (0, [7], [], 0), (31, [4], [], 0), (31, [6], [], 0), (1216, [6, 2, 5], [1, 2], 0), (90, [6], [], 0), (91, [6], [], 1), (0, [5], [], 48), (5000, [0, 1, 2, 3, 4], [0, 1], 2), (0, [0], [], 285), (90, [1], [], 0), (91, [1], [], 1), (0, [2], [], 285), (90, [3], [], 0), (91, [3], [], 1), (90, [4], [], 0), (91, [4], [], 1)], (4000, [2, 3, 7], [3], 2))
theorem c_233y_2_8 {q0 : Nat} : vOkm T0 (eN e_233w L_233y (eAB A_233 B_233) mu_233 y_233 By_233 (some q0)) 2 g_233y_2_8 := vOk_inI fun ρ η f0 f1 f2 f3 f4 f5 f6 f7 f8 f9 f10 f11 f12 f13 f14 f15 f16 => q_233y_9 (q0 := q0) (n0 := ρ 4) (n1 := ρ 3) (n2 := ρ 2) (n3 := ρ 1) (n4 := ρ 0) (n5 := ρ 5) (n6 := ρ 6) (n7 := ρ 7) (H0 := η 0) (H1 := η 1) (H2 := η 2) (H3 := η 3) f16 f15 f14 f13 f12 f11 f10 f9 f8 f7 f6 f5 f4 f3 f2 f1 f0
theorem q_233y_10 {q0 : Nat} {n0 n1 n2 n3 n4 n5 n6 n7 : Int} {H0 H1 H2 H3 : gH} (f0 : n0 ≤ 1) (f1 : 0 ≤ n0) (f2 : n1 ≤ 1) (f3 : 0 ≤ n1) (f4 : n2 = 285) (f5 : n3 ≤ 1) (f6 : 0 ≤ n3) (f7 : n4 = 285) (f8 : (hLe T0 H0 H1 ∧ hFr s_233.2.2.2.2 H0 H1 ∧ hWt T0 H1) ∧ (((Ab_233_2 n4 n3 n2 n1 n0 H0 H1 ∧ Bb_233_2 n4 n3 n2 n1 n0 H0 H1) ∧ Byb_233_2 n4 n3 n2 n1 n0 H0 H1) ∧ preb_233 n4 n3 H0) ∧ some q0 = some (mub_233_2 n4 n3 n2 n1 n0 H0 H1)) (f9 : n5 = 48) (f10 : n6 ≤ 1) (f11 : 0 ≤ n6) (f12 : (hLe T0 H1 H2 ∧ hFr s_216.2.2.2.2 H1 H2 ∧ ((0 : Int) = 0 → H2.length = H1.length) ∧ hWt T0 H2) ∧ postb_216 n6 n2 n5 H1 H2) (f13 : n6 ≠ 0) (f14 : n0 = 0) (f15 : n7 = 1) (f16 : (hLe T0 H2 H3 ∧ hFr s_219.2.2.2.2 H2 H3 ∧ ((0 : Int) = 0 → H3.length = H2.length) ∧ hWt T0 H3) ∧ (postb_219 n2 H2 H3 ∧ nb_219 n2 H2 H3)) : Byb_233_2 n4 n3 n2 n1 n7 H0 H3 := by
  unfold Byb_233_2
  intro z s0 l0
  have ga := f8.2.1.1.1.2
  unfold Bb_233_2 at ga
  obtain ⟨z1, ye⟩ := ga z
  have vz : vwR H1 = vwR H0 := vwR_fr f8.1.2.1 (by decide +kernel)
  have gy := f8.2.1.1.2
  unfold Byb_233_2 at gy
  obtain ⟨xk, yk, ky⟩ := gy z s0 l0
  have q13 := f13
  have q14 := f14
  have lo1 := z1.2.2.2.1
  have p0 := PR_fr f12.1.2.1 (by decide +kernel) z1
  have v0 : vwR H2 = vwR H0 := p0.2.1.trans vz
  have ah0 : absR H2 = (absR H1) := p0.1
  have i0 := f12.2
  unfold postb_216 at i0
  rw [f9] at i0
  have cm0 := f13
  have b0 := (isR_or (k := 48) p0.2.2.1 (by decide) i0).resolve_right (fun w => cm0 w.1)
  replace b0 := b0.2
  rw [v0, ah0, kmc_48] at b0
  have c1 := f16.2.2 p0.2.2.1 (by rw [v0, ah0]; rw [b0]; decide)
  rw [v0, ah0, b0] at c1
  have v1 : vwR H3 = vwR H0 := (vwR_fr f16.1.2.1 (by decide +kernel)).trans v0
  refine ⟨XRk_tr xk (XRk_tr (XRk_fr f12.1.2.1 (by decide +kernel)) (XRk_fr f16.1.2.1 (by decide +kernel))), YRs_tr yk (YRs_tr (YRs_fr f12.1.2.1 (by decide +kernel)) (YRs_fr f16.1.2.1 (by decide +kernel))), fun hp => ?_⟩
  rw [c1.2] at hp ⊢
  have pn := ptkR_next z hp
  have h1 := (pt1R_kind z hp).1
  obtain ⟨k1, k2⟩ := ky h1
  have pn : (ptk (vwR H0) 44 (absR H1)).1 = (absR H1).1 + 1 := pn
  omega
def g_233y_2_9 : vG := ([(1219, [2], [2, 3], 0), (0, [7], [], 1), (30, [4], [], 0), (31, [6], [], 0), (1216, [6, 2, 5], [1, 2], 0), (90, [6], [], 0), (91, [6], [], 1), (0, [5], [], 48), (5000, [0, 1, 2, 3, 4], [0, 1], 2), (0, [0], [], 285), (90, [1], [], 0), (91, [1], [], 1), (0, [2], [], 285), (90, [3], [], 0), (91, [3], [], 1), (90, [4], [], 0), (91, [4], [], 1)], (4000, [2, 3, 7], [3], 2))
theorem c_233y_2_9 {q0 : Nat} : vOkm T0 (eN e_233w L_233y (eAB A_233 B_233) mu_233 y_233 By_233 (some q0)) 2 g_233y_2_9 := vOk_inI fun ρ η f0 f1 f2 f3 f4 f5 f6 f7 f8 f9 f10 f11 f12 f13 f14 f15 f16 => q_233y_10 (q0 := q0) (n0 := ρ 4) (n1 := ρ 3) (n2 := ρ 2) (n3 := ρ 1) (n4 := ρ 0) (n5 := ρ 5) (n6 := ρ 6) (n7 := ρ 7) (H0 := η 0) (H1 := η 1) (H2 := η 2) (H3 := η 3) f16 f15 f14 f13 f12 f11 f10 f9 f8 f7 f6 f5 f4 f3 f2 f1 f0
def p_233y_2 : List vG := [g_233y_2_0,
  g_233y_2_1,
  g_233y_2_2,
  g_233y_2_3,
  g_233y_2_4,
  g_233y_2_5,
  g_233y_2_6,
  g_233y_2_7,
  g_233y_2_8,
  g_233y_2_9]
theorem r_233y_2 : vCovBO (eRc e_233w L_233w cs_233 2000 (2, [(0, (3, 12, 285, 0)), (1, (0, 0, 1, 0)), (2, (0, 0, 1, 0))])) p_233y_2 = true := by decide +kernel
theorem q_233y_11 {q0 : Nat} {n0 n1 n2 n3 n4 n5 n6 n7 n8 n9 n10 n11 n12 n13 n14 n15 n16 n17 n18 n19 n20 n21 n22 n23 n24 n25 n26 n27 : Int} {H0 H1 H2 H3 H4 H5 H6 H7 H8 H9 H10 : gH} (f0 : n0 ≤ 2147483647) (f1 : (-2147483648) ≤ n0) (f2 : n1 ≤ 1200) (f3 : 0 ≤ n1) (f4 : n2 ≤ 1) (f5 : 0 ≤ n2) (f6 : n3 ≤ 1) (f7 : 0 ≤ n3) (f8 : n4 = 285) (f9 : n5 ≤ 1) (f10 : 0 ≤ n5) (f11 : n6 = 285) (f12 : (hLe T0 H0 H1 ∧ hFr s_233.2.2.2.2 H0 H1 ∧ hWt T0 H1) ∧ (((Ab_233_85 n6 n5 n4 n3 n2 n1 n0 H0 H1 ∧ Bb_233_85 n6 n5 n4 n3 n2 n1 n0 H0 H1) ∧ Byb_233_85 n6 n5 n4 n3 n2 n1 n0 H0 H1) ∧ preb_233 n6 n5 H0) ∧ some q0 = some (mub_233_85 n6 n5 n4 n3 n2 n1 n0 H0 H1)) (f13 : (hLe T0 H1 H2 ∧ hFr s_219.2.2.2.2 H1 H2 ∧ ((0 : Int) = 0 → H2.length = H1.length) ∧ hWt T0 H2) ∧ (postb_219 n4 H1 H2 ∧ nb_219 n4 H1 H2)) (f14 : n7 ≤ 1200) (f15 : 0 ≤ n7) (f16 : hK H2 (n4).toNat = 12) (f17 : n7 = hV H2 (n4).toNat 51) (f18 : (hLe T0 H2 H3 ∧ hFr s_236.2.2.2.2 H2 H3 ∧ ((0 : Int) = 0 → H3.length = H2.length) ∧ hWt T0 H3) ∧ ((postb_236 n4 H2 H3 ∧ nb_236 n4 H2 H3) ∧ yb_236 n4 H2 H3)) (f19 : n8 ≤ 2) (f20 : 0 ≤ n8) (f21 : hK H3 (n4).toNat = 12) (f22 : n8 = hV H3 (n4).toNat 13) (f23 : n8 ≤ 0) (f24 : n9 = 314) (f25 : hK H3 (n4).toNat = 12) (f26 : n9 = hV H3 (n4).toNat 45) (f27 : n10 ≤ 400) (f28 : 0 ≤ n10) (f29 : hK H3 (n4).toNat = 12) (f30 : n10 = hV H3 (n4).toNat 44) (f31 : hK H3 (n9).toNat = 340) (f32 : hUpd H4 H3 n9 n10 n0) (f33 : n11 = 315) (f34 : hK H4 (n4).toNat = 12) (f35 : n11 = hV H4 (n4).toNat 46) (f36 : n12 ≤ 400) (f37 : 0 ≤ n12) (f38 : hK H4 (n4).toNat = 12) (f39 : n12 = hV H4 (n4).toNat 44) (f40 : n13 = o32 (fun x _ => x &&& 1) n2 0) (f41 : hK H4 (n11).toNat = 351) (f42 : hUpd H5 H4 n11 n12 n13) (f43 : n14 = 316) (f44 : hK H5 (n4).toNat = 12) (f45 : n14 = hV H5 (n4).toNat 47) (f46 : n15 ≤ 400) (f47 : 0 ≤ n15) (f48 : hK H5 (n4).toNat = 12) (f49 : n15 = hV H5 (n4).toNat 44) (f50 : n16 = o32 (fun x _ => x &&& 1) n3 0) (f51 : hK H5 (n14).toNat = 359) (f52 : hUpd H6 H5 n14 n15 n16) (f53 : n17 = 317) (f54 : hK H6 (n4).toNat = 12) (f55 : n17 = hV H6 (n4).toNat 48) (f56 : n18 ≤ 400) (f57 : 0 ≤ n18) (f58 : hK H6 (n4).toNat = 12) (f59 : n18 = hV H6 (n4).toNat 44) (f60 : hK H6 (n17).toNat = 364) (f61 : hUpd H7 H6 n17 n18 n1) (f62 : n19 = 318) (f63 : hK H7 (n4).toNat = 12) (f64 : n19 = hV H7 (n4).toNat 49) (f65 : n20 ≤ 400) (f66 : 0 ≤ n20) (f67 : hK H7 (n4).toNat = 12) (f68 : n20 = hV H7 (n4).toNat 44) (f69 : hK H7 (n19).toNat = 372) (f70 : hUpd H8 H7 n19 n20 n7) (f71 : n21 = 319) (f72 : hK H8 (n4).toNat = 12) (f73 : n21 = hV H8 (n4).toNat 50) (f74 : n22 ≤ 400) (f75 : 0 ≤ n22) (f76 : hK H8 (n4).toNat = 12) (f77 : n22 = hV H8 (n4).toNat 44) (f78 : n23 ≤ 1200) (f79 : 0 ≤ n23) (f80 : hK H8 (n4).toNat = 12) (f81 : n23 = hV H8 (n4).toNat 51) (f82 : hK H8 (n21).toNat = 380) (f83 : hUpd H9 H8 n21 n22 n23) (f84 : n24 ≤ 400) (f85 : 0 ≤ n24) (f86 : hK H9 (n4).toNat = 12) (f87 : n24 = hV H9 (n4).toNat 44) (f88 : n25 = 1) (f89 : n26 = w32 (n24 + n25)) (f90 : hK H9 (n4).toNat = 12) (f91 : n27 = 44) (f92 : hUpd H10 H9 n4 n27 n26) : yb_233 n6 n5 H0 H10 := by
  unfold yb_233
  intro z s0 l0
  have ga := f12.2.1.1.1.2
  unfold Bb_233_85 at ga
  obtain ⟨z1, ye⟩ := ga z
  have vz : vwR H1 = vwR H0 := vwR_fr f12.1.2.1 (by decide +kernel)
  have d17 := rdS (q := 285) f17 f8
  have d22 := rdS (q := 285) f22 f8
  have d30 := rdS (q := 285) f30 f8
  have d39 := rdS (q := 285) f39 f8
  have d49 := rdS (q := 285) f49 f8
  have d59 := rdS (q := 285) f59 f8
  have d68 := rdS (q := 285) f68 f8
  have d77 := rdS (q := 285) f77 f8
  have d81 := rdS (q := 285) f81 f8
  have d87 := rdS (q := 285) f87 f8
  have q23 := f23
  have nz : ¬ (vwR H1).1 (absR H1).1 = 0 := by
    rw [vz]
    rcases ye with ⟨w, a, b⟩ | ⟨w, _⟩
    · rw [w]
      omega
    · rw [w, vwR_ok H0 _ (pfailR_lt z (by decide))]
      decide
  have c0 := f13.2.2 z1 nz
  rw [vz] at c0
  have v0 : vwR H2 = vwR H0 := (vwR_fr f13.1.2.1 (by decide +kernel)).trans vz
  have e0 : absR H2 = pRel (vwR H0) (pExp (vwR H0) (pNots (vwR H0) (502 - (absR H0).1).toNat (absR H0))) := by
    rw [c0.2]
    unfold pRel
    rcases ye with ⟨w, a, b⟩ | ⟨w, n⟩
    · rw [w, if_pos ⟨a, b⟩]
    · rw [w, if_neg n, ptk_neg (pfailR_lt z (by decide)) pfail_ok]
  have c60 := f18.2.1.2 c0.1
  rw [v0, e0] at c60
  have v60 : vwR H3 = vwR H0 := (vwR_fr f18.1.2.1 (by decide +kernel)).trans v0
  have p61 := PR_row (q := 314) f32 f24 (by decide) c60.1
  have v61 : vwR H4 = vwR H0 := p61.2.1.trans v60
  have ah61 : absR H4 = (pExp (vwR H0) (pRel (vwR H0) (pExp (vwR H0) (pNots (vwR H0) (502 - (absR H0).1).toNat (absR H0))))) := p61.1.trans c60.2
  have p62 := PR_row (q := 315) f42 f33 (by decide) p61.2.2.1
  have v62 : vwR H5 = vwR H0 := p62.2.1.trans v61
  have ah62 : absR H5 = (pExp (vwR H0) (pRel (vwR H0) (pExp (vwR H0) (pNots (vwR H0) (502 - (absR H0).1).toNat (absR H0))))) := p62.1.trans ah61
  have p63 := PR_row (q := 316) f52 f43 (by decide) p62.2.2.1
  have v63 : vwR H6 = vwR H0 := p63.2.1.trans v62
  have ah63 : absR H6 = (pExp (vwR H0) (pRel (vwR H0) (pExp (vwR H0) (pNots (vwR H0) (502 - (absR H0).1).toNat (absR H0))))) := p63.1.trans ah62
  have p64 := PR_row (q := 317) f61 f53 (by decide) p63.2.2.1
  have v64 : vwR H7 = vwR H0 := p64.2.1.trans v63
  have ah64 : absR H7 = (pExp (vwR H0) (pRel (vwR H0) (pExp (vwR H0) (pNots (vwR H0) (502 - (absR H0).1).toNat (absR H0))))) := p64.1.trans ah63
  have p65 := PR_row (q := 318) f70 f62 (by decide) p64.2.2.1
  have v65 : vwR H8 = vwR H0 := p65.2.1.trans v64
  have ah65 : absR H8 = (pExp (vwR H0) (pRel (vwR H0) (pExp (vwR H0) (pNots (vwR H0) (502 - (absR H0).1).toNat (absR H0))))) := p65.1.trans ah64
  have p66 := PR_row (q := 319) f83 f71 (by decide) p65.2.2.1
  have v66 : vwR H9 = vwR H0 := p66.2.1.trans v65
  have ah66 : absR H9 = (pExp (vwR H0) (pRel (vwR H0) (pExp (vwR H0) (pNots (vwR H0) (502 - (absR H0).1).toNat (absR H0))))) := p66.1.trans ah65
  have p67 := PR_slot (s := 44) f92 f8 f91 (by decide) p66.2.2.1
  have v67 : vwR H10 = vwR H0 := p67.2.1.trans v66
  have ah67 : absR H10 = (pExp (vwR H0) (pRel (vwR H0) (pExp (vwR H0) (pNots (vwR H0) (502 - (absR H0).1).toNat (absR H0))))) := p67.1.trans ah66
  have gy := f12.2.1.1.2
  unfold Byb_233_85 at gy
  obtain ⟨kc, yk, ky⟩ := gy z s0 l0
  have xb : XRk H1 H2 := (XRk_fr f13.1.2.1 (by decide +kernel))
  have sb : 0 ≤ hV H2 285 51 := by
    rw [xb.1]
    have := kc.1
    omega
  have ex := f18.2.2
  unfold yb_236 at ex
  have ex := ex c0.1 sb
  rw [v0, e0] at ex
  have xg : XRk H3 H10 := (XRk_tr (XRk_up f32 (.inr (by rw [f24]; decide))) (XRk_tr (XRk_up f42 (.inr (by rw [f33]; decide))) (XRk_tr (XRk_up f52 (.inr (by rw [f43]; decide))) (XRk_tr (XRk_up f61 (.inr (by rw [f53]; decide))) (XRk_tr (XRk_up f70 (.inr (by rw [f62]; decide))) (XRk_tr (XRk_up f83 (.inr (by rw [f71]; decide))) (XRk_up f92 (.inl (by rw [f8, f91]; decide)))))))))
  have ya : YRs H1 H3 := (YRs_tr (YRs_fr f13.1.2.1 (by decide +kernel)) (YRs_fr f18.1.2.1 (by decide +kernel)))
  have h44 : hV H10 285 44 = n26 := uSame f92 285 44 (by rw [f8]; rfl) (by rw [f91]; rfl)
  have e44_30 : n10 = hV H3 285 44 := by rw [d30, show hV H3 285 44 = hV H3 285 44 from rfl]
  have e44_39 : n12 = hV H3 285 44 := by rw [d39, show hV H4 285 44 = hV H3 285 44 from uPlace f32 285 44 (by rw [f24]; decide)]
  have e44_49 : n15 = hV H3 285 44 := by rw [d49, show hV H5 285 44 = hV H3 285 44 from (uPlace f42 285 44 (by rw [f33]; decide)).trans (uPlace f32 285 44 (by rw [f24]; decide))]
  have e44_59 : n18 = hV H3 285 44 := by rw [d59, show hV H6 285 44 = hV H3 285 44 from (uPlace f52 285 44 (by rw [f43]; decide)).trans ((uPlace f42 285 44 (by rw [f33]; decide)).trans (uPlace f32 285 44 (by rw [f24]; decide)))]
  have e44_68 : n20 = hV H3 285 44 := by rw [d68, show hV H7 285 44 = hV H3 285 44 from (uPlace f61 285 44 (by rw [f53]; decide)).trans ((uPlace f52 285 44 (by rw [f43]; decide)).trans ((uPlace f42 285 44 (by rw [f33]; decide)).trans (uPlace f32 285 44 (by rw [f24]; decide))))]
  have e44_77 : n22 = hV H3 285 44 := by rw [d77, show hV H8 285 44 = hV H3 285 44 from (uPlace f70 285 44 (by rw [f62]; decide)).trans ((uPlace f61 285 44 (by rw [f53]; decide)).trans ((uPlace f52 285 44 (by rw [f43]; decide)).trans ((uPlace f42 285 44 (by rw [f33]; decide)).trans (uPlace f32 285 44 (by rw [f24]; decide)))))]
  have e44_87 : n24 = hV H3 285 44 := by rw [d87, show hV H9 285 44 = hV H3 285 44 from (uPlace f83 285 44 (by rw [f71]; decide)).trans ((uPlace f70 285 44 (by rw [f62]; decide)).trans ((uPlace f61 285 44 (by rw [f53]; decide)).trans ((uPlace f52 285 44 (by rw [f43]; decide)).trans ((uPlace f42 285 44 (by rw [f33]; decide)).trans (uPlace f32 285 44 (by rw [f24]; decide))))))]
  have rg27 := f27
  have rg28 := f28
  have rg36 := f36
  have rg37 := f37
  have rg46 := f46
  have rg47 := f47
  have rg56 := f56
  have rg57 := f57
  have rg65 := f65
  have rg66 := f66
  have rg74 := f74
  have rg75 := f75
  have rg84 := f84
  have rg85 := f85
  have s89 : n26 = n24 + 1 := by
    have q := f89
    rw [f88] at q
    rw [q]
    exact w32_id (by omega) (by omega)
  have f44 : hV H10 285 44 = hV H3 285 44 + 1 := by omega
  have r314 : hV H10 314 = uF (hV H3 314) (hV H3 285 44) n0 := by
    have w : hV H10 314 = uF (hV H3 314) n10 n0 := (uRowNe f92 314 (by rw [f8]; decide)).trans ((uRowNe f83 314 (by rw [f71]; decide)).trans ((uRowNe f70 314 (by rw [f62]; decide)).trans ((uRowNe f61 314 (by rw [f53]; decide)).trans ((uRowNe f52 314 (by rw [f43]; decide)).trans ((uRowNe f42 314 (by rw [f33]; decide)).trans ((uRowQ f32 314 f24).trans (congrArg (fun g => uF g n10 n0) rfl)))))))
    rw [w, show n10 = hV H3 285 44 by omega]
  have r315 : hV H10 315 = uF (hV H3 315) (hV H3 285 44) n13 := by
    have w : hV H10 315 = uF (hV H3 315) n12 n13 := (uRowNe f92 315 (by rw [f8]; decide)).trans ((uRowNe f83 315 (by rw [f71]; decide)).trans ((uRowNe f70 315 (by rw [f62]; decide)).trans ((uRowNe f61 315 (by rw [f53]; decide)).trans ((uRowNe f52 315 (by rw [f43]; decide)).trans ((uRowQ f42 315 f33).trans (congrArg (fun g => uF g n12 n13) ((uRowNe f32 315 (by rw [f24]; decide)).trans rfl)))))))
    rw [w, show n12 = hV H3 285 44 by omega]
  have r316 : hV H10 316 = uF (hV H3 316) (hV H3 285 44) n16 := by
    have w : hV H10 316 = uF (hV H3 316) n15 n16 := (uRowNe f92 316 (by rw [f8]; decide)).trans ((uRowNe f83 316 (by rw [f71]; decide)).trans ((uRowNe f70 316 (by rw [f62]; decide)).trans ((uRowNe f61 316 (by rw [f53]; decide)).trans ((uRowQ f52 316 f43).trans (congrArg (fun g => uF g n15 n16) ((uRowNe f42 316 (by rw [f33]; decide)).trans ((uRowNe f32 316 (by rw [f24]; decide)).trans rfl)))))))
    rw [w, show n15 = hV H3 285 44 by omega]
  have r317 : hV H10 317 = uF (hV H3 317) (hV H3 285 44) n1 := by
    have w : hV H10 317 = uF (hV H3 317) n18 n1 := (uRowNe f92 317 (by rw [f8]; decide)).trans ((uRowNe f83 317 (by rw [f71]; decide)).trans ((uRowNe f70 317 (by rw [f62]; decide)).trans ((uRowQ f61 317 f53).trans (congrArg (fun g => uF g n18 n1) ((uRowNe f52 317 (by rw [f43]; decide)).trans ((uRowNe f42 317 (by rw [f33]; decide)).trans ((uRowNe f32 317 (by rw [f24]; decide)).trans rfl)))))))
    rw [w, show n18 = hV H3 285 44 by omega]
  have r318 : hV H10 318 = uF (hV H3 318) (hV H3 285 44) n7 := by
    have w : hV H10 318 = uF (hV H3 318) n20 n7 := (uRowNe f92 318 (by rw [f8]; decide)).trans ((uRowNe f83 318 (by rw [f71]; decide)).trans ((uRowQ f70 318 f62).trans (congrArg (fun g => uF g n20 n7) ((uRowNe f61 318 (by rw [f53]; decide)).trans ((uRowNe f52 318 (by rw [f43]; decide)).trans ((uRowNe f42 318 (by rw [f33]; decide)).trans ((uRowNe f32 318 (by rw [f24]; decide)).trans rfl)))))))
    rw [w, show n20 = hV H3 285 44 by omega]
  have r319 : hV H10 319 = uF (hV H3 319) (hV H3 285 44) n23 := by
    have w : hV H10 319 = uF (hV H3 319) n22 n23 := (uRowNe f92 319 (by rw [f8]; decide)).trans ((uRowQ f83 319 f71).trans (congrArg (fun g => uF g n22 n23) ((uRowNe f70 319 (by rw [f62]; decide)).trans ((uRowNe f61 319 (by rw [f53]; decide)).trans ((uRowNe f52 319 (by rw [f43]; decide)).trans ((uRowNe f42 319 (by rw [f33]; decide)).trans ((uRowNe f32 319 (by rw [f24]; decide)).trans rfl)))))))
    rw [w, show n22 = hV H3 285 44 by omega]
  have kl : KPl H3 H10 := KPl_one f44 (row6 ⟨_, r314⟩ ⟨_, r315⟩ ⟨_, r316⟩ ⟨_, r317⟩ ⟨_, r318⟩ ⟨_, r319⟩)
  refine ⟨KPc_tr kc (KPc_tr (KPc_x (XRk_fr f13.1.2.1 (by decide +kernel))) (KPc_tr ex.1 (KPc_tr (KPc_x (XRk_up f32 (.inr (by rw [f24]; decide)))) (KPc_tr (KPc_x (XRk_up f42 (.inr (by rw [f33]; decide)))) (KPc_tr (KPc_x (XRk_up f52 (.inr (by rw [f43]; decide)))) (KPc_tr (KPc_x (XRk_up f61 (.inr (by rw [f53]; decide)))) (KPc_tr (KPc_x (XRk_up f70 (.inr (by rw [f62]; decide)))) (KPc_tr (KPc_x (XRk_up f83 (.inr (by rw [f71]; decide)))) (KPc_x (XRk_up f92 (.inl (by rw [f8, f91]; decide)))))))))))), KPl_tr (KPl_y (YRs_tr yk ya)) kl, fun hp => ?_⟩
  have aH : absR H10 = pLit (vwR H0) (absR H0) := ah67
  have yH : absR H10 = absR H3 := (ah67).trans (c60.2).symm
  have hx_ := hp
  rw [yH] at hx_
  obtain ⟨e1, e2, e3⟩ := ex.2 hx_
  have eN : absR H2 = xLitC (vwR H0) (absR H0) := e0
  have hN : 0 ≤ (absR H2).1 := by
    have w := hp
    rw [aH] at w
    rw [eN]
    exact ((pExp_n2 (v := vwR H0) (p := xLitC (vwR H0) (absR H0)) (by rw [← eN]; exact absR_ok c0.1)).2 w).1
  have h1 : 0 ≤ (absR H1).1 := by
    have w := hN
    rw [c0.2] at w
    exact (pt1R_kind z w).1
  obtain ⟨y1, y2, y3, y4, y5, y6⟩ := ky h1
  have yB : absR H1 = xLitB (vwR H0) (absR H0) ∧ 12 ≤ (vwR H0).1 (xLitB (vwR H0) (absR H0)).1 ∧ (vwR H0).1 (xLitB (vwR H0) (absR H0)).1 ≤ 15 := by
    rcases ye with w | ⟨w, _⟩
    · exact w
    · exfalso
      have := pfailR_lt z (f := 1) (p := pExp (vwR H0) (pNots (vwR H0) (502 - (absR H0).1).toNat (absR H0))) (by decide)
      rw [w] at h1
      omega
  have ec : absR H2 = absR H2 := rfl
  have eX : absR H3 = pLit (vwR H0) (absR H0) := yH.symm.trans aH
  have e2 : CODr H3 (hV H2 285 51) (xE (vwR H0) (xLitC (vwR H0) (absR H0)).1 (pLit (vwR H0) (absR H0)).1) := by
    have w := e2
    rw [eX] at w
    exact w
  have e3 : GE (xE (vwR H0) (xLitC (vwR H0) (absR H0)).1 (pLit (vwR H0) (absR H0)).1) := by
    have w := e3
    rw [eX] at w
    exact w
  have aa := f12.2.1.1.1.1
  unfold Ab_233_85 at aa
  have ea := aa.1
  clear aa
  have l44 : hV H3 285 44 = hV H0 285 44 := ya.1.trans yk.1
  have at_ : ∀ (F : Nat → Int) (x : Int), uF F (hV H3 285 44) x (hV H0 285 44).toNat = x := fun F x => by rw [uF_at, if_pos (by omega)]
  have b315 : n13 = n2 := b1_in f40 (by omega) (by omega)
  have b316 : n16 = n3 := b1_in f50 (by omega) (by omega)
  have e7 : n7 = hV H2 285 51 := d17
  rw [← e7] at e2
  have r51 : n23 = hV H10 285 51 := by rw [d81, show hV H8 285 51 = hV H3 285 51 from (uPlace f70 285 51 (by rw [f62]; decide)).trans ((uPlace f61 285 51 (by rw [f53]; decide)).trans ((uPlace f52 285 51 (by rw [f43]; decide)).trans ((uPlace f42 285 51 (by rw [f33]; decide)).trans (uPlace f32 285 51 (by rw [f24]; decide))))), xg.1]
  have lr := LIr_of (v := vwR H0) (p := absR H0) (x2 := n2) (x3 := n1) (x4 := n0) (a1 := n5) (n7 := n7) (l := (hV H0 285 44).toNat) (by omega) y4 xb e7 ex.1 e2 xg (by rw [r314, at_]) (by rw [r315, at_]; omega) (by rw [r316, at_]; omega) (by rw [r317, at_]) (by rw [r318, at_]) (by rw [r319, at_]; exact r51) y2 y6 (by omega)
  rw [y1] at lr
  refine ⟨by omega, lr, ?_, ?_, y5, e3⟩
  · show 0 ≤ (vwR H0).1 (xLitB (vwR H0) (absR H0)).1 - 12
    omega
  · show (vwR H0).1 (xLitB (vwR H0) (absR H0)).1 - 12 ≤ 3
    omega
def g_233y_85_0 : vG := ([(80, [2, 27, 26], [10, 9], 0), (0, [27], [], 44), (23, [2], [9], 12), (1, [26, 24, 25], [], 0), (0, [25], [], 1), (20, [24, 2], [9], 44), (23, [2], [9], 12), (90, [24], [], 0), (91, [24], [], 400), (80, [21, 22, 23], [9, 8], 0), (23, [21], [8], 380), (20, [23, 2], [8], 51), (23, [2], [8], 12), (90, [23], [], 0), (91, [23], [], 1200), (20, [22, 2], [8], 44), (23, [2], [8], 12), (90, [22], [], 0), (91, [22], [], 400), (20, [21, 2], [8], 50), (23, [2], [8], 12), (0, [21], [], 319), (80, [19, 20, 7], [8, 7], 0), (23, [19], [7], 372), (20, [20, 2], [7], 44), (23, [2], [7], 12), (90, [20], [], 0), (91, [20], [], 400), (20, [19, 2], [7], 49), (23, [2], [7], 12), (0, [19], [], 318), (80, [17, 18, 5], [7, 6], 0), (23, [17], [6], 364), (20, [18, 2], [6], 44), (23, [2], [6], 12), (90, [18], [], 0), (91, [18], [], 400), (20, [17, 2], [6], 48), (23, [2], [6], 12), (0, [17], [], 317), (80, [14, 15, 16], [6, 5], 0), (23, [14], [5], 359), (16, [16, 3], [], 0), (20, [15, 2], [5], 44), (23, [2], [5], 12), (90, [15], [], 0), (91, [15], [], 400), (20, [14, 2], [5], 47), (23, [2], [5], 12), (0, [14], [], 316), (80, [11, 12, 13], [5, 4], 0), (23, [11], [4], 351), (16, [13, 4], [], 0), (20, [12, 2], [4], 44), (23, [2], [4], 12), (90, [12], [], 0), (91, [12], [], 400), (20, [11, 2], [4], 46), (23, [2], [4], 12), (0, [11], [], 315), (80, [9, 10, 6], [4, 3], 0), (23, [9], [3], 340), (20, [10, 2], [3], 44), (23, [2], [3], 12), (90, [10], [], 0), (91, [10], [], 400), (20, [9, 2], [3], 45), (23, [2], [3], 12), (0, [9], [], 314), (35, [8], [], 0), (20, [8, 2], [3], 13), (23, [2], [3], 12), (90, [8], [], 0), (91, [8], [], 2), (1236, [2], [2, 3], 0), (20, [7, 2], [2], 51), (23, [2], [2], 12), (90, [7], [], 0), (91, [7], [], 1200), (1219, [2], [1, 2], 0), (5000, [0, 1, 2, 3, 4, 5, 6], [0, 1], 85), (0, [0], [], 285), (90, [1], [], 0), (91, [1], [], 1), (0, [2], [], 285), (90, [3], [], 0), (91, [3], [], 1), (90, [4], [], 0), (91, [4], [], 1), (90, [5], [], 0), (91, [5], [], 1200), (90, [6], [], -2147483648), (91, [6], [], 2147483647)], (3000, [], [10], 182))
theorem c_233y_85_0 {q0 : Nat} : vOkm T0 (eN e_233w L_233y (eAB A_233 B_233) mu_233 y_233 By_233 (some q0)) 2 g_233y_85_0 := vOk_inI fun ρ η f0 f1 f2 f3 f4 f5 f6 f7 f8 f9 f10 f11 f12 f13 f14 f15 f16 f17 f18 f19 f20 f21 f22 f23 f24 f25 f26 f27 f28 f29 f30 f31 f32 f33 f34 f35 f36 f37 f38 f39 f40 f41 f42 f43 f44 f45 f46 f47 f48 f49 f50 f51 f52 f53 f54 f55 f56 f57 f58 f59 f60 f61 f62 f63 f64 f65 f66 f67 f68 f69 f70 f71 f72 f73 f74 f75 f76 f77 f78 f79 f80 f81 f82 f83 f84 f85 f86 f87 f88 f89 f90 f91 f92 => q_233y_11 (q0 := q0) (n0 := ρ 6) (n1 := ρ 5) (n2 := ρ 4) (n3 := ρ 3) (n4 := ρ 2) (n5 := ρ 1) (n6 := ρ 0) (n7 := ρ 7) (n8 := ρ 8) (n9 := ρ 9) (n10 := ρ 10) (n11 := ρ 11) (n12 := ρ 12) (n13 := ρ 13) (n14 := ρ 14) (n15 := ρ 15) (n16 := ρ 16) (n17 := ρ 17) (n18 := ρ 18) (n19 := ρ 19) (n20 := ρ 20) (n21 := ρ 21) (n22 := ρ 22) (n23 := ρ 23) (n24 := ρ 24) (n25 := ρ 25) (n26 := ρ 26) (n27 := ρ 27) (H0 := η 0) (H1 := η 1) (H2 := η 2) (H3 := η 3) (H4 := η 4) (H5 := η 5) (H6 := η 6) (H7 := η 7) (H8 := η 8) (H9 := η 9) (H10 := η 10) f92 f91 f90 f89 f88 f87 f86 f85 f84 f83 f82 f81 f80 f79 f78 f77 f76 f75 f74 f73 f72 f71 f70 f69 f68 f67 f66 f65 f64 f63 f62 f61 f60 f59 f58 f57 f56 f55 f54 f53 f52 f51 f50 f49 f48 f47 f46 f45 f44 f43 f42 f41 f40 f39 f38 f37 f36 f35 f34 f33 f32 f31 f30 f29 f28 f27 f26 f25 f24 f23 f22 f21 f20 f19 f18 f17 f16 f15 f14 f13 f12 f11 f10 f9 f8 f7 f6 f5 f4 f3 f2 f1 f0
theorem q_233y_12 {q0 : Nat} {n0 n1 n2 n3 n4 n5 n6 n7 n8 : Int} {H0 H1 H2 H3 : gH} (f0 : n0 ≤ 2147483647) (f1 : (-2147483648) ≤ n0) (f2 : n1 ≤ 1200) (f3 : 0 ≤ n1) (f4 : n2 ≤ 1) (f5 : 0 ≤ n2) (f6 : n3 ≤ 1) (f7 : 0 ≤ n3) (f8 : n4 = 285) (f9 : n5 ≤ 1) (f10 : 0 ≤ n5) (f11 : n6 = 285) (f12 : (hLe T0 H0 H1 ∧ hFr s_233.2.2.2.2 H0 H1 ∧ hWt T0 H1) ∧ (((Ab_233_85 n6 n5 n4 n3 n2 n1 n0 H0 H1 ∧ Bb_233_85 n6 n5 n4 n3 n2 n1 n0 H0 H1) ∧ Byb_233_85 n6 n5 n4 n3 n2 n1 n0 H0 H1) ∧ preb_233 n6 n5 H0) ∧ some q0 = some (mub_233_85 n6 n5 n4 n3 n2 n1 n0 H0 H1)) (f13 : (hLe T0 H1 H2 ∧ hFr s_219.2.2.2.2 H1 H2 ∧ ((0 : Int) = 0 → H2.length = H1.length) ∧ hWt T0 H2) ∧ (postb_219 n4 H1 H2 ∧ nb_219 n4 H1 H2)) (f14 : n7 ≤ 1200) (f15 : 0 ≤ n7) (f16 : hK H2 (n4).toNat = 12) (f17 : n7 = hV H2 (n4).toNat 51) (f18 : (hLe T0 H2 H3 ∧ hFr s_236.2.2.2.2 H2 H3 ∧ ((0 : Int) = 0 → H3.length = H2.length) ∧ hWt T0 H3) ∧ ((postb_236 n4 H2 H3 ∧ nb_236 n4 H2 H3) ∧ yb_236 n4 H2 H3)) (f19 : n8 ≤ 2) (f20 : 0 ≤ n8) (f21 : hK H3 (n4).toNat = 12) (f22 : n8 = hV H3 (n4).toNat 13) (f23 : 0 < n8) : yb_233 n6 n5 H0 H3 := by
  unfold yb_233
  intro z s0 l0
  have ga := f12.2.1.1.1.2
  unfold Bb_233_85 at ga
  obtain ⟨z1, ye⟩ := ga z
  have vz : vwR H1 = vwR H0 := vwR_fr f12.1.2.1 (by decide +kernel)
  have d17 := rdS (q := 285) f17 f8
  have d22 := rdS (q := 285) f22 f8
  have q23 := f23
  have nz : ¬ (vwR H1).1 (absR H1).1 = 0 := by
    rw [vz]
    rcases ye with ⟨w, a, b⟩ | ⟨w, _⟩
    · rw [w]
      omega
    · rw [w, vwR_ok H0 _ (pfailR_lt z (by decide))]
      decide
  have c0 := f13.2.2 z1 nz
  rw [vz] at c0
  have v0 : vwR H2 = vwR H0 := (vwR_fr f13.1.2.1 (by decide +kernel)).trans vz
  have e0 : absR H2 = pRel (vwR H0) (pExp (vwR H0) (pNots (vwR H0) (502 - (absR H0).1).toNat (absR H0))) := by
    rw [c0.2]
    unfold pRel
    rcases ye with ⟨w, a, b⟩ | ⟨w, n⟩
    · rw [w, if_pos ⟨a, b⟩]
    · rw [w, if_neg n, ptk_neg (pfailR_lt z (by decide)) pfail_ok]
  have c60 := f18.2.1.2 c0.1
  rw [v0, e0] at c60
  have v60 : vwR H3 = vwR H0 := (vwR_fr f18.1.2.1 (by decide +kernel)).trans v0
  have gy := f12.2.1.1.2
  unfold Byb_233_85 at gy
  obtain ⟨kc, yk, ky⟩ := gy z s0 l0
  have xb : XRk H1 H2 := (XRk_fr f13.1.2.1 (by decide +kernel))
  have sb : 0 ≤ hV H2 285 51 := by
    rw [xb.1]
    have := kc.1
    omega
  have ex := f18.2.2
  unfold yb_236 at ex
  have ex := ex c0.1 sb
  rw [v0, e0] at ex
  refine ⟨KPc_tr kc (KPc_tr (KPc_x (XRk_fr f13.1.2.1 (by decide +kernel))) ex.1), KPl_y (YRs_tr yk (YRs_tr (YRs_fr f13.1.2.1 (by decide +kernel)) (YRs_fr f18.1.2.1 (by decide +kernel)))), fun hp => ?_⟩
  exfalso
  have := absR_neg c60.1 (by omega)
  omega
def g_233y_85_1 : vG := ([(34, [8], [], 0), (20, [8, 2], [3], 13), (23, [2], [3], 12), (90, [8], [], 0), (91, [8], [], 2), (1236, [2], [2, 3], 0), (20, [7, 2], [2], 51), (23, [2], [2], 12), (90, [7], [], 0), (91, [7], [], 1200), (1219, [2], [1, 2], 0), (5000, [0, 1, 2, 3, 4, 5, 6], [0, 1], 85), (0, [0], [], 285), (90, [1], [], 0), (91, [1], [], 1), (0, [2], [], 285), (90, [3], [], 0), (91, [3], [], 1), (90, [4], [], 0), (91, [4], [], 1), (90, [5], [], 0), (91, [5], [], 1200), (90, [6], [], -2147483648), (91, [6], [], 2147483647)], (3000, [], [3], 106))
theorem c_233y_85_1 {q0 : Nat} : vOkm T0 (eN e_233w L_233y (eAB A_233 B_233) mu_233 y_233 By_233 (some q0)) 2 g_233y_85_1 := vOk_inI fun ρ η f0 f1 f2 f3 f4 f5 f6 f7 f8 f9 f10 f11 f12 f13 f14 f15 f16 f17 f18 f19 f20 f21 f22 f23 => q_233y_12 (q0 := q0) (n0 := ρ 6) (n1 := ρ 5) (n2 := ρ 4) (n3 := ρ 3) (n4 := ρ 2) (n5 := ρ 1) (n6 := ρ 0) (n7 := ρ 7) (n8 := ρ 8) (H0 := η 0) (H1 := η 1) (H2 := η 2) (H3 := η 3) f23 f22 f21 f20 f19 f18 f17 f16 f15 f14 f13 f12 f11 f10 f9 f8 f7 f6 f5 f4 f3 f2 f1 f0
def p_233y_85 : List vG := [g_233y_85_0,
  g_233y_85_1]
theorem r_233y_85 : vCovBO (eRc e_233w L_233w cs_233 2000 (85, [(0, (3, 12, 285, 0)), (1, (0, 0, 1, 0)), (2, (0, 0, 1, 0)), (3, (0, 0, 1200, 0)), (4, (0, -2147483648, 2147483647, 0))])) p_233y_85 = true := by decide +kernel
theorem o_233y : eOK e_233y L_233y cs_233 2000 (eAB (eAB A_233 B_233) By_233) mu_233 := eOK_ref (p1 := p_233y_s) o_233w (sub0 (sub0 (sub0 (sub1 trivial)))) r_233y_s (allC c_233y_s_0 allN) (allC ⟨p_233y_2, r_233y_2, fun q0 => (allC c_233y_2_0 (allC c_233y_2_1 (allC c_233y_2_2 (allC c_233y_2_3 (allC c_233y_2_4 (allC c_233y_2_5 (allC c_233y_2_6 (allC c_233y_2_7 (allC c_233y_2_8 (allC c_233y_2_9 allN))))))))))⟩ (allC ⟨p_233y_85, r_233y_85, fun q0 => (allC c_233y_85_0 (allC c_233y_85_1 allN))⟩ allN))
theorem m_233y (d : Nat) : eC e_233y (d + 5) := eC_OK (d := d + 4) o_233y rfl ⟨m_216 (d + 3), ⟨m_217w (d + 3), ⟨m_219w (d + 2), ⟨m_236y d, trivial⟩⟩⟩⟩ rfl (.inl rfl) (by decide +kernel)
