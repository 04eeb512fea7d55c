/-! CONTRACTS of methods told more fully. -/
/- MixStageModel.number (II)I, more fully still -/
theorem o_223 : eOK e_223 L_223 cs_223 2000 A_223 mu_223 := eOK_of (tp := false) (p0 := p_223_s) (fun z => nomatch z) r_223_s (allC c_223_s_0 (allC c_223_s_1 (allC c_223_s_2 (allC c_223_s_3 (allC c_223_s_4 (allC c_223_s_5 (allC c_223_s_6 (allC c_223_s_7 allN)))))))) allN
theorem o_223w : eOK e_223w L_223w cs_223 2000 (eAB A_223 B_223) mu_223 := eOK_ref (p1 := p_223w_s) o_223 (sub0 (sub1 (sub1 trivial))) r_223w_s (allC c_223w_s_0 (allC c_223w_s_1 (allC c_223w_s_2 (allC c_223w_s_3 (allC c_223w_s_4 (allC c_223w_s_5 (allC c_223w_s_6 (allC c_223w_s_7 allN)))))))) allN
def yb_223 (r a0 a1 a2 : Int) (h0 h : gH) : Prop := RI h0 → hV h 285 13 = 0 → r = tvl (vwR h0) (absR h0)
def y_223 : List Int → gH → gH → Prop := fun xs h0 h => match xs with
  | [r, a0, a1, a2] => yb_223 r a0 a1 a2 h0 h
  | _ => True
noncomputable def e_223y : vE := eV e_223w y_223
noncomputable def L_223y : List vE := [e_216, e_218w, e_220w]
def By_223 : Int → List Int → gH → gH → Prop := fun c xs h0 h => True
theorem q_223y_0 {n0 n1 n2 n3 n4 n5 n6 n7 n8 : Int} {H0 H1 H2 : gH} (f0 : n0 ≤ 9999) (f1 : 0 ≤ n0) (f2 : n1 ≤ 9999) (f3 : 0 ≤ n1) (f4 : n2 = 285) (f5 : hWt T0 H0 ∧ True) (f6 : n3 ≤ 500) (f7 : 0 ≤ n3) (f8 : hK H0 (n2).toNat = 12) (f9 : n3 = hV H0 (n2).toNat 11) (f10 : n4 = 2) (f11 : n5 ≤ 1) (f12 : 0 ≤ n5) (f13 : (hLe T0 H0 H1 ∧ hFr s_216.2.2.2.2 H0 H1 ∧ ((0 : Int) = 0 → H1.length = H0.length) ∧ hWt T0 H1) ∧ postb_216 n5 n2 n4 H0 H1) (f14 : n5 = 0) (f15 : n6 = 0) (f16 : n7 = 2) (f17 : (hLe T0 H1 H2 ∧ hFr s_220.2.2.2.2 H1 H2 ∧ ((0 : Int) = 0 → H2.length = H1.length) ∧ hWt T0 H2) ∧ (postb_220 n2 n7 H1 H2 ∧ nb_220 n2 n7 H1 H2)) (f18 : n8 ≤ 2) (f19 : 0 ≤ n8) (f20 : hK H2 (n2).toNat = 12) (f21 : n8 = hV H2 (n2).toNat 13) (f22 : n8 ≠ 0) : yb_223 n6 n2 n1 n0 H0 H2 := by
  unfold yb_223
  intro z hf
  have d9 := rdS (q := 285) f9 f4
  have d21 := rdS (q := 285) f21 f4
  have p := PR_fr f13.1.2.1 (by decide +kernel) z
  have q := f13.2
  unfold postb_216 at q
  have b1 := f13.1.2.2.2 285 13 _ _ rW_13
  rw [f10] at q
  have cm := f14
  have e22 := f22
  exfalso
  omega
def g_223y_s_0 : vG := ([(31, [8], [], 0), (20, [8, 0], [2], 13), (23, [0], [2], 12), (90, [8], [], 0), (91, [8], [], 2), (1220, [0, 7], [1, 2], 0), (0, [7], [], 2), (0, [6], [], 0), (30, [5], [], 0), (1216, [5, 0, 4], [0, 1], 0), (90, [5], [], 0), (91, [5], [], 1), (0, [4], [], 2), (20, [3, 0], [0], 11), (23, [0], [0], 12), (90, [3], [], 0), (91, [3], [], 500), (6000, [0, 1, 2], [0], 0), (0, [0], [], 285), (90, [1], [], 0), (91, [1], [], 9999), (90, [2], [], 0), (91, [2], [], 9999)], (3000, [6], [2], 60))
theorem c_223y_s_0 : vOkm T0 (eN e_223w L_223y (eAB A_223 B_223) mu_223 y_223 By_223 none) 3 g_223y_s_0 := vOk_inI fun ρ η f0 f1 f2 f3 f4 f5 f6 f7 f8 f9 f10 f11 f12 f13 f14 f15 f16 f17 f18 f19 f20 f21 f22 => q_223y_0 (n0 := ρ 2) (n1 := ρ 1) (n2 := ρ 0) (n3 := ρ 3) (n4 := ρ 4) (n5 := ρ 5) (n6 := ρ 6) (n7 := ρ 7) (n8 := ρ 8) (H0 := η 0) (H1 := η 1) (H2 := η 2) f22 f21 f20 f19 f18 f17 f16 f15 f14 f13 f12 f11 f10 f9 f8 f7 f6 f5 f4 f3 f2 f1 f0
theorem q_223y_1 {n0 n1 n2 n3 n4 n5 n6 n7 n8 n9 : Int} {H0 H1 H2 H3 : gH} (f0 : n0 ≤ 9999) (f1 : 0 ≤ n0) (f2 : n1 ≤ 9999) (f3 : 0 ≤ n1) (f4 : n2 = 285) (f5 : hWt T0 H0 ∧ True) (f6 : n3 ≤ 500) (f7 : 0 ≤ n3) (f8 : hK H0 (n2).toNat = 12) (f9 : n3 = hV H0 (n2).toNat 11) (f10 : n4 = 2) (f11 : n5 ≤ 1) (f12 : 0 ≤ n5) (f13 : (hLe T0 H0 H1 ∧ hFr s_216.2.2.2.2 H0 H1 ∧ ((0 : Int) = 0 → H1.length = H0.length) ∧ hWt T0 H1) ∧ postb_216 n5 n2 n4 H0 H1) (f14 : n5 = 0) (f15 : n6 = 0) (f16 : n7 = 2) (f17 : (hLe T0 H1 H2 ∧ hFr s_220.2.2.2.2 H1 H2 ∧ ((0 : Int) = 0 → H2.length = H1.length) ∧ hWt T0 H2) ∧ (postb_220 n2 n7 H1 H2 ∧ nb_220 n2 n7 H1 H2)) (f18 : n8 ≤ 2) (f19 : 0 ≤ n8) (f20 : hK H2 (n2).toNat = 12) (f21 : n8 = hV H2 (n2).toNat 13) (f22 : n8 = 0) (f23 : n6 < n1) (f24 : n9 = 5) (f25 : (hLe T0 H2 H3 ∧ hFr s_218.2.2.2.2 H2 H3 ∧ ((0 : Int) = 0 → H3.length = H2.length) ∧ hWt T0 H3) ∧ (postb_218 n2 n9 n3 H2 H3 ∧ nb_218 n2 n9 n3 H2 H3)) : yb_223 n6 n2 n1 n0 H0 H3 := by
  unfold yb_223
  intro z hf
  have d9 := rdS (q := 285) f9 f4
  have d21 := rdS (q := 285) f21 f4
  have p := PR_fr f13.1.2.1 (by decide +kernel) z
  have q := f13.2
  unfold postb_216 at q
  have b1 := f13.1.2.2.2 285 13 _ _ rW_13
  rw [f10] at q
  have cm := f14
  have e22 := f22
  have c := f17.2.2 p.2.2.1 (by rw [f16]; decide)
  rw [f16, p.1, p.2.1, kmc_2] at c
  have no := isR_no (k := 2) p.2.2.1 (by decide) (by omega)
  rw [p.1, p.2.1] at no
  exfalso
  have hp := absR_pos c.1 (by omega)
  rw [c.2] at hp
  exact no (pt1R_kind z hp.2).2
def g_223y_s_1 : vG := ([(1218, [0, 9, 3], [2, 3], 0), (0, [9], [], 5), (42, [6, 1], [], 0), (30, [8], [], 0), (20, [8, 0], [2], 13), (23, [0], [2], 12), (90, [8], [], 0), (91, [8], [], 2), (1220, [0, 7], [1, 2], 0), (0, [7], [], 2), (0, [6], [], 0), (30, [5], [], 0), (1216, [5, 0, 4], [0, 1], 0), (90, [5], [], 0), (91, [5], [], 1), (0, [4], [], 2), (20, [3, 0], [0], 11), (23, [0], [0], 12), (90, [3], [], 0), (91, [3], [], 500), (6000, [0, 1, 2], [0], 0), (0, [0], [], 285), (90, [1], [], 0), (91, [1], [], 9999), (90, [2], [], 0), (91, [2], [], 9999)], (3000, [6], [3], 60))
theorem c_223y_s_1 : vOkm T0 (eN e_223w L_223y (eAB A_223 B_223) mu_223 y_223 By_223 none) 3 g_223y_s_1 := vOk_inI fun ρ η f0 f1 f2 f3 f4 f5 f6 f7 f8 f9 f10 f11 f12 f13 f14 f15 f16 f17 f18 f19 f20 f21 f22 f23 f24 f25 => q_223y_1 (n0 := ρ 2) (n1 := ρ 1) (n2 := ρ 0) (n3 := ρ 3) (n4 := ρ 4) (n5 := ρ 5) (n6 := ρ 6) (n7 := ρ 7) (n8 := ρ 8) (n9 := ρ 9) (H0 := η 0) (H1 := η 1) (H2 := η 2) (H3 := η 3) f25 f24 f23 f22 f21 f20 f19 f18 f17 f16 f15 f14 f13 f12 f11 f10 f9 f8 f7 f6 f5 f4 f3 f2 f1 f0
theorem q_223y_2 {n0 n1 n2 n3 n4 n5 n6 n7 n8 : Int} {H0 H1 H2 : gH} (f0 : n0 ≤ 9999) (f1 : 0 ≤ n0) (f2 : n1 ≤ 9999) (f3 : 0 ≤ n1) (f4 : n2 = 285) (f5 : hWt T0 H0 ∧ True) (f6 : n3 ≤ 500) (f7 : 0 ≤ n3) (f8 : hK H0 (n2).toNat = 12) (f9 : n3 = hV H0 (n2).toNat 11) (f10 : n4 = 2) (f11 : n5 ≤ 1) (f12 : 0 ≤ n5) (f13 : (hLe T0 H0 H1 ∧ hFr s_216.2.2.2.2 H0 H1 ∧ ((0 : Int) = 0 → H1.length = H0.length) ∧ hWt T0 H1) ∧ postb_216 n5 n2 n4 H0 H1) (f14 : n5 = 0) (f15 : n6 = 0) (f16 : n7 = 2) (f17 : (hLe T0 H1 H2 ∧ hFr s_220.2.2.2.2 H1 H2 ∧ ((0 : Int) = 0 → H2.length = H1.length) ∧ hWt T0 H2) ∧ (postb_220 n2 n7 H1 H2 ∧ nb_220 n2 n7 H1 H2)) (f18 : n8 ≤ 2) (f19 : 0 ≤ n8) (f20 : hK H2 (n2).toNat = 12) (f21 : n8 = hV H2 (n2).toNat 13) (f22 : n8 = 0) (f23 : n1 ≤ n6) (f24 : n6 ≤ n0) : yb_223 n6 n2 n1 n0 H0 H2 := by
  unfold yb_223
  intro z hf
  have d9 := rdS (q := 285) f9 f4
  have d21 := rdS (q := 285) f21 f4
  have p := PR_fr f13.1.2.1 (by decide +kernel) z
  have q := f13.2
  unfold postb_216 at q
  have b1 := f13.1.2.2.2 285 13 _ _ rW_13
  rw [f10] at q
  have cm := f14
  have e22 := f22
  have c := f17.2.2 p.2.2.1 (by rw [f16]; decide)
  rw [f16, p.1, p.2.1, kmc_2] at c
  have no := isR_no (k := 2) p.2.2.1 (by decide) (by omega)
  rw [p.1, p.2.1] at no
  exfalso
  have hp := absR_pos c.1 (by omega)
  rw [c.2] at hp
  exact no (pt1R_kind z hp.2).2
def g_223y_s_2 : vG := ([(45, [6, 2], [], 0), (43, [6, 1], [], 0), (30, [8], [], 0), (20, [8, 0], [2], 13), (23, [0], [2], 12), (90, [8], [], 0), (91, [8], [], 2), (1220, [0, 7], [1, 2], 0), (0, [7], [], 2), (0, [6], [], 0), (30, [5], [], 0), (1216, [5, 0, 4], [0, 1], 0), (90, [5], [], 0), (91, [5], [], 1), (0, [4], [], 2), (20, [3, 0], [0], 11), (23, [0], [0], 12), (90, [3], [], 0), (91, [3], [], 500), (6000, [0, 1, 2], [0], 0), (0, [0], [], 285), (90, [1], [], 0), (91, [1], [], 9999), (90, [2], [], 0), (91, [2], [], 9999)], (3000, [6], [2], 60))
theorem c_223y_s_2 : vOkm T0 (eN e_223w L_223y (eAB A_223 B_223) mu_223 y_223 By_223 none) 3 g_223y_s_2 := vOk_inI fun ρ η f0 f1 f2 f3 f4 f5 f6 f7 f8 f9 f10 f11 f12 f13 f14 f15 f16 f17 f18 f19 f20 f21 f22 f23 f24 => q_223y_2 (n0 := ρ 2) (n1 := ρ 1) (n2 := ρ 0) (n3 := ρ 3) (n4 := ρ 4) (n5 := ρ 5) (n6 := ρ 6) (n7 := ρ 7) (n8 := ρ 8) (H0 := η 0) (H1 := η 1) (H2 := η 2) f24 f23 f22 f21 f20 f19 f18 f17 f16 f15 f14 f13 f12 f11 f10 f9 f8 f7 f6 f5 f4 f3 f2 f1 f0
theorem q_223y_3 {n0 n1 n2 n3 n4 n5 n6 n7 n8 n9 : Int} {H0 H1 H2 H3 : gH} (f0 : n0 ≤ 9999) (f1 : 0 ≤ n0) (f2 : n1 ≤ 9999) (f3 : 0 ≤ n1) (f4 : n2 = 285) (f5 : hWt T0 H0 ∧ True) (f6 : n3 ≤ 500) (f7 : 0 ≤ n3) (f8 : hK H0 (n2).toNat = 12) (f9 : n3 = hV H0 (n2).toNat 11) (f10 : n4 = 2) (f11 : n5 ≤ 1) (f12 : 0 ≤ n5) (f13 : (hLe T0 H0 H1 ∧ hFr s_216.2.2.2.2 H0 H1 ∧ ((0 : Int) = 0 → H1.length = H0.length) ∧ hWt T0 H1) ∧ postb_216 n5 n2 n4 H0 H1) (f14 : n5 = 0) (f15 : n6 = 0) (f16 : n7 = 2) (f17 : (hLe T0 H1 H2 ∧ hFr s_220.2.2.2.2 H1 H2 ∧ ((0 : Int) = 0 → H2.length = H1.length) ∧ hWt T0 H2) ∧ (postb_220 n2 n7 H1 H2 ∧ nb_220 n2 n7 H1 H2)) (f18 : n8 ≤ 2) (f19 : 0 ≤ n8) (f20 : hK H2 (n2).toNat = 12) (f21 : n8 = hV H2 (n2).toNat 13) (f22 : n8 = 0) (f23 : n1 ≤ n6) (f24 : n0 < n6) (f25 : n9 = 5) (f26 : (hLe T0 H2 H3 ∧ hFr s_218.2.2.2.2 H2 H3 ∧ ((0 : Int) = 0 → H3.length = H2.length) ∧ hWt T0 H3) ∧ (postb_218 n2 n9 n3 H2 H3 ∧ nb_218 n2 n9 n3 H2 H3)) : yb_223 n6 n2 n1 n0 H0 H3 := by
  exfalso
  clear f0 f2 f3 f4 f5 f6 f7 f8 f9 f10 f11 f12 f13 f14 f16 f17 f18 f19 f20 f21 f22 f23 f25 f26
  omega
def g_223y_s_3 : vG := ([(1218, [0, 9, 3], [2, 3], 0), (0, [9], [], 5), (44, [6, 2], [], 0), (43, [6, 1], [], 0), (30, [8], [], 0), (20, [8, 0], [2], 13), (23, [0], [2], 12), (90, [8], [], 0), (91, [8], [], 2), (1220, [0, 7], [1, 2], 0), (0, [7], [], 2), (0, [6], [], 0), (30, [5], [], 0), (1216, [5, 0, 4], [0, 1], 0), (90, [5], [], 0), (91, [5], [], 1), (0, [4], [], 2), (20, [3, 0], [0], 11), (23, [0], [0], 12), (90, [3], [], 0), (91, [3], [], 500), (6000, [0, 1, 2], [0], 0), (0, [0], [], 285), (90, [1], [], 0), (91, [1], [], 9999), (90, [2], [], 0), (91, [2], [], 9999)], (3000, [6], [3], 60))
theorem c_223y_s_3 : vOkm T0 (eN e_223w L_223y (eAB A_223 B_223) mu_223 y_223 By_223 none) 3 g_223y_s_3 := vOk_inI fun ρ η f0 f1 f2 f3 f4 f5 f6 f7 f8 f9 f10 f11 f12 f13 f14 f15 f16 f17 f18 f19 f20 f21 f22 f23 f24 f25 f26 => q_223y_3 (n0 := ρ 2) (n1 := ρ 1) (n2 := ρ 0) (n3 := ρ 3) (n4 := ρ 4) (n5 := ρ 5) (n6 := ρ 6) (n7 := ρ 7) (n8 := ρ 8) (n9 := ρ 9) (H0 := η 0) (H1 := η 1) (H2 := η 2) (H3 := η 3) f26 f25 f24 f23 f22 f21 f20 f19 f18 f17 f16 f15 f14 f13 f12 f11 f10 f9 f8 f7 f6 f5 f4 f3 f2 f1 f0
theorem q_223y_4 {n0 n1 n2 n3 n4 n5 n6 n7 n8 n9 n10 : Int} {H0 H1 H2 : gH} (f0 : n0 ≤ 9999) (f1 : 0 ≤ n0) (f2 : n1 ≤ 9999) (f3 : 0 ≤ n1) (f4 : n2 = 285) (f5 : hWt T0 H0 ∧ True) (f6 : n3 ≤ 500) (f7 : 0 ≤ n3) (f8 : hK H0 (n2).toNat = 12) (f9 : n3 = hV H0 (n2).toNat 11) (f10 : n4 = 2) (f11 : n5 ≤ 1) (f12 : 0 ≤ n5) (f13 : (hLe T0 H0 H1 ∧ hFr s_216.2.2.2.2 H0 H1 ∧ ((0 : Int) = 0 → H1.length = H0.length) ∧ hWt T0 H1) ∧ postb_216 n5 n2 n4 H0 H1) (f14 : n5 ≠ 0) (f15 : n6 = 290) (f16 : hK H1 (n2).toNat = 12) (f17 : n6 = hV H1 (n2).toNat 7) (f18 : n7 ≤ 500) (f19 : 0 ≤ n7) (f20 : hK H1 (n2).toNat = 12) (f21 : n7 = hV H1 (n2).toNat 11) (f22 : n8 ≤ 9999) (f23 : 0 ≤ n8) (f24 : n8 = hV H1 (n6).toNat (n7).toNat) (f25 : n9 = 2) (f26 : (hLe T0 H1 H2 ∧ hFr s_220.2.2.2.2 H1 H2 ∧ ((0 : Int) = 0 → H2.length = H1.length) ∧ hWt T0 H2) ∧ (postb_220 n2 n9 H1 H2 ∧ nb_220 n2 n9 H1 H2)) (f27 : n10 ≤ 2) (f28 : 0 ≤ n10) (f29 : hK H2 (n2).toNat = 12) (f30 : n10 = hV H2 (n2).toNat 13) (f31 : n10 ≠ 0) : yb_223 n8 n2 n1 n0 H0 H2 := by
  unfold yb_223
  intro z hf
  have d9 := rdS (q := 285) f9 f4
  have d21 := rdS (q := 285) f21 f4
  have d24 := rdW (q := 290) f24 f15
  have d30 := rdS (q := 285) f30 f4
  have p := PR_fr f13.1.2.1 (by decide +kernel) z
  have q := f13.2
  unfold postb_216 at q
  have b1 := f13.1.2.2.2 285 13 _ _ rW_13
  rw [f10] at q
  have cm := f14
  have e31 := f31
  exfalso
  omega
def g_223y_s_4 : vG := ([(31, [10], [], 0), (20, [10, 0], [2], 13), (23, [0], [2], 12), (90, [10], [], 0), (91, [10], [], 2), (1220, [0, 9], [1, 2], 0), (0, [9], [], 2), (22, [8, 6, 7], [1], 0), (90, [8], [], 0), (91, [8], [], 9999), (20, [7, 0], [1], 11), (23, [0], [1], 12), (90, [7], [], 0), (91, [7], [], 500), (20, [6, 0], [1], 7), (23, [0], [1], 12), (0, [6], [], 290), (31, [5], [], 0), (1216, [5, 0, 4], [0, 1], 0), (90, [5], [], 0), (91, [5], [], 1), (0, [4], [], 2), (20, [3, 0], [0], 11), (23, [0], [0], 12), (90, [3], [], 0), (91, [3], [], 500), (6000, [0, 1, 2], [0], 0), (0, [0], [], 285), (90, [1], [], 0), (91, [1], [], 9999), (90, [2], [], 0), (91, [2], [], 9999)], (3000, [8], [2], 60))
theorem c_223y_s_4 : vOkm T0 (eN e_223w L_223y (eAB A_223 B_223) mu_223 y_223 By_223 none) 3 g_223y_s_4 := vOk_inI fun ρ η f0 f1 f2 f3 f4 f5 f6 f7 f8 f9 f10 f11 f12 f13 f14 f15 f16 f17 f18 f19 f20 f21 f22 f23 f24 f25 f26 f27 f28 f29 f30 f31 => q_223y_4 (n0 := ρ 2) (n1 := ρ 1) (n2 := ρ 0) (n3 := ρ 3) (n4 := ρ 4) (n5 := ρ 5) (n6 := ρ 6) (n7 := ρ 7) (n8 := ρ 8) (n9 := ρ 9) (n10 := ρ 10) (H0 := η 0) (H1 := η 1) (H2 := η 2) f31 f30 f29 f28 f27 f26 f25 f24 f23 f22 f21 f20 f19 f18 f17 f16 f15 f14 f13 f12 f11 f10 f9 f8 f7 f6 f5 f4 f3 f2 f1 f0
theorem q_223y_5 {n0 n1 n2 n3 n4 n5 n6 n7 n8 n9 n10 n11 : Int} {H0 H1 H2 H3 : gH} (f0 : n0 ≤ 9999) (f1 : 0 ≤ n0) (f2 : n1 ≤ 9999) (f3 : 0 ≤ n1) (f4 : n2 = 285) (f5 : hWt T0 H0 ∧ True) (f6 : n3 ≤ 500) (f7 : 0 ≤ n3) (f8 : hK H0 (n2).toNat = 12) (f9 : n3 = hV H0 (n2).toNat 11) (f10 : n4 = 2) (f11 : n5 ≤ 1) (f12 : 0 ≤ n5) (f13 : (hLe T0 H0 H1 ∧ hFr s_216.2.2.2.2 H0 H1 ∧ ((0 : Int) = 0 → H1.length = H0.length) ∧ hWt T0 H1) ∧ postb_216 n5 n2 n4 H0 H1) (f14 : n5 ≠ 0) (f15 : n6 = 290) (f16 : hK H1 (n2).toNat = 12) (f17 : n6 = hV H1 (n2).toNat 7) (f18 : n7 ≤ 500) (f19 : 0 ≤ n7) (f20 : hK H1 (n2).toNat = 12) (f21 : n7 = hV H1 (n2).toNat 11) (f22 : n8 ≤ 9999) (f23 : 0 ≤ n8) (f24 : n8 = hV H1 (n6).toNat (n7).toNat) (f25 : n9 = 2) (f26 : (hLe T0 H1 H2 ∧ hFr s_220.2.2.2.2 H1 H2 ∧ ((0 : Int) = 0 → H2.length = H1.length) ∧ hWt T0 H2) ∧ (postb_220 n2 n9 H1 H2 ∧ nb_220 n2 n9 H1 H2)) (f27 : n10 ≤ 2) (f28 : 0 ≤ n10) (f29 : hK H2 (n2).toNat = 12) (f30 : n10 = hV H2 (n2).toNat 13) (f31 : n10 = 0) (f32 : n8 < n1) (f33 : n11 = 5) (f34 : (hLe T0 H2 H3 ∧ hFr s_218.2.2.2.2 H2 H3 ∧ ((0 : Int) = 0 → H3.length = H2.length) ∧ hWt T0 H3) ∧ (postb_218 n2 n11 n3 H2 H3 ∧ nb_218 n2 n11 n3 H2 H3)) : yb_223 n8 n2 n1 n0 H0 H3 := by
  unfold yb_223
  intro z hf
  have d9 := rdS (q := 285) f9 f4
  have d21 := rdS (q := 285) f21 f4
  have d24 := rdW (q := 290) f24 f15
  have d30 := rdS (q := 285) f30 f4
  have p := PR_fr f13.1.2.1 (by decide +kernel) z
  have q := f13.2
  unfold postb_216 at q
  have b1 := f13.1.2.2.2 285 13 _ _ rW_13
  rw [f10] at q
  have cm := f14
  have e31 := f31
  have c := f26.2.2 p.2.2.1 (by rw [f25]; decide)
  rw [f25, p.1, p.2.1, kmc_2] at c
  have vv := valueR_at p.2.2.1 (by omega) (by omega)
  rw [p.1, p.2.1] at vv
  rw [d21, ← vv] at d24
  exact d24
def g_223y_s_5 : vG := ([(1218, [0, 11, 3], [2, 3], 0), (0, [11], [], 5), (42, [8, 1], [], 0), (30, [10], [], 0), (20, [10, 0], [2], 13), (23, [0], [2], 12), (90, [10], [], 0), (91, [10], [], 2), (1220, [0, 9], [1, 2], 0), (0, [9], [], 2), (22, [8, 6, 7], [1], 0), (90, [8], [], 0), (91, [8], [], 9999), (20, [7, 0], [1], 11), (23, [0], [1], 12), (90, [7], [], 0), (91, [7], [], 500), (20, [6, 0], [1], 7), (23, [0], [1], 12), (0, [6], [], 290), (31, [5], [], 0), (1216, [5, 0, 4], [0, 1], 0), (90, [5], [], 0), (91, [5], [], 1), (0, [4], [], 2), (20, [3, 0], [0], 11), (23, [0], [0], 12), (90, [3], [], 0), (91, [3], [], 500), (6000, [0, 1, 2], [0], 0), (0, [0], [], 285), (90, [1], [], 0), (91, [1], [], 9999), (90, [2], [], 0), (91, [2], [], 9999)], (3000, [8], [3], 60))
theorem c_223y_s_5 : vOkm T0 (eN e_223w L_223y (eAB A_223 B_223) mu_223 y_223 By_223 none) 3 g_223y_s_5 := vOk_inI fun ρ η f0 f1 f2 f3 f4 f5 f6 f7 f8 f9 f10 f11 f12 f13 f14 f15 f16 f17 f18 f19 f20 f21 f22 f23 f24 f25 f26 f27 f28 f29 f30 f31 f32 f33 f34 => q_223y_5 (n0 := ρ 2) (n1 := ρ 1) (n2 := ρ 0) (n3 := ρ 3) (n4 := ρ 4) (n5 := ρ 5) (n6 := ρ 6) (n7 := ρ 7) (n8 := ρ 8) (n9 := ρ 9) (n10 := ρ 10) (n11 := ρ 11) (H0 := η 0) (H1 := η 1) (H2 := η 2) (H3 := η 3) f34 f33 f32 f31 f30 f29 f28 f27 f26 f25 f24 f23 f22 f21 f20 f19 f18 f17 f16 f15 f14 f13 f12 f11 f10 f9 f8 f7 f6 f5 f4 f3 f2 f1 f0
theorem q_223y_6 {n0 n1 n2 n3 n4 n5 n6 n7 n8 n9 n10 : Int} {H0 H1 H2 : gH} (f0 : n0 ≤ 9999) (f1 : 0 ≤ n0) (f2 : n1 ≤ 9999) (f3 : 0 ≤ n1) (f4 : n2 = 285) (f5 : hWt T0 H0 ∧ True) (f6 : n3 ≤ 500) (f7 : 0 ≤ n3) (f8 : hK H0 (n2).toNat = 12) (f9 : n3 = hV H0 (n2).toNat 11) (f10 : n4 = 2) (f11 : n5 ≤ 1) (f12 : 0 ≤ n5) (f13 : (hLe T0 H0 H1 ∧ hFr s_216.2.2.2.2 H0 H1 ∧ ((0 : Int) = 0 → H1.length = H0.length) ∧ hWt T0 H1) ∧ postb_216 n5 n2 n4 H0 H1) (f14 : n5 ≠ 0) (f15 : n6 = 290) (f16 : hK H1 (n2).toNat = 12) (f17 : n6 = hV H1 (n2).toNat 7) (f18 : n7 ≤ 500) (f19 : 0 ≤ n7) (f20 : hK H1 (n2).toNat = 12) (f21 : n7 = hV H1 (n2).toNat 11) (f22 : n8 ≤ 9999) (f23 : 0 ≤ n8) (f24 : n8 = hV H1 (n6).toNat (n7).toNat) (f25 : n9 = 2) (f26 : (hLe T0 H1 H2 ∧ hFr s_220.2.2.2.2 H1 H2 ∧ ((0 : Int) = 0 → H2.length = H1.length) ∧ hWt T0 H2) ∧ (postb_220 n2 n9 H1 H2 ∧ nb_220 n2 n9 H1 H2)) (f27 : n10 ≤ 2) (f28 : 0 ≤ n10) (f29 : hK H2 (n2).toNat = 12) (f30 : n10 = hV H2 (n2).toNat 13) (f31 : n10 = 0) (f32 : n1 ≤ n8) (f33 : n8 ≤ n0) : yb_223 n8 n2 n1 n0 H0 H2 := by
  unfold yb_223
  intro z hf
  have d9 := rdS (q := 285) f9 f4
  have d21 := rdS (q := 285) f21 f4
  have d24 := rdW (q := 290) f24 f15
  have d30 := rdS (q := 285) f30 f4
  have p := PR_fr f13.1.2.1 (by decide +kernel) z
  have q := f13.2
  unfold postb_216 at q
  have b1 := f13.1.2.2.2 285 13 _ _ rW_13
  rw [f10] at q
  have cm := f14
  have e31 := f31
  have c := f26.2.2 p.2.2.1 (by rw [f25]; decide)
  rw [f25, p.1, p.2.1, kmc_2] at c
  have vv := valueR_at p.2.2.1 (by omega) (by omega)
  rw [p.1, p.2.1] at vv
  rw [d21, ← vv] at d24
  exact d24
def g_223y_s_6 : vG := ([(45, [8, 2], [], 0), (43, [8, 1], [], 0), (30, [10], [], 0), (20, [10, 0], [2], 13), (23, [0], [2], 12), (90, [10], [], 0), (91, [10], [], 2), (1220, [0, 9], [1, 2], 0), (0, [9], [], 2), (22, [8, 6, 7], [1], 0), (90, [8], [], 0), (91, [8], [], 9999), (20, [7, 0], [1], 11), (23, [0], [1], 12), (90, [7], [], 0), (91, [7], [], 500), (20, [6, 0], [1], 7), (23, [0], [1], 12), (0, [6], [], 290), (31, [5], [], 0), (1216, [5, 0, 4], [0, 1], 0), (90, [5], [], 0), (91, [5], [], 1), (0, [4], [], 2), (20, [3, 0], [0], 11), (23, [0], [0], 12), (90, [3], [], 0), (91, [3], [], 500), (6000, [0, 1, 2], [0], 0), (0, [0], [], 285), (90, [1], [], 0), (91, [1], [], 9999), (90, [2], [], 0), (91, [2], [], 9999)], (3000, [8], [2], 60))
theorem c_223y_s_6 : vOkm T0 (eN e_223w L_223y (eAB A_223 B_223) mu_223 y_223 By_223 none) 3 g_223y_s_6 := vOk_inI fun ρ η f0 f1 f2 f3 f4 f5 f6 f7 f8 f9 f10 f11 f12 f13 f14 f15 f16 f17 f18 f19 f20 f21 f22 f23 f24 f25 f26 f27 f28 f29 f30 f31 f32 f33 => q_223y_6 (n0 := ρ 2) (n1 := ρ 1) (n2 := ρ 0) (n3 := ρ 3) (n4 := ρ 4) (n5 := ρ 5) (n6 := ρ 6) (n7 := ρ 7) (n8 := ρ 8) (n9 := ρ 9) (n10 := ρ 10) (H0 := η 0) (H1 := η 1) (H2 := η 2) f33 f32 f31 f30 f29 f28 f27 f26 f25 f24 f23 f22 f21 f20 f19 f18 f17 f16 f15 f14 f13 f12 f11 f10 f9 f8 f7 f6 f5 f4 f3 f2 f1 f0
theorem q_223y_7 {n0 n1 n2 n3 n4 n5 n6 n7 n8 n9 n10 n11 : Int} {H0 H1 H2 H3 : gH} (f0 : n0 ≤ 9999) (f1 : 0 ≤ n0) (f2 : n1 ≤ 9999) (f3 : 0 ≤ n1) (f4 : n2 = 285) (f5 : hWt T0 H0 ∧ True) (f6 : n3 ≤ 500) (f7 : 0 ≤ n3) (f8 : hK H0 (n2).toNat = 12) (f9 : n3 = hV H0 (n2).toNat 11) (f10 : n4 = 2) (f11 : n5 ≤ 1) (f12 : 0 ≤ n5) (f13 : (hLe T0 H0 H1 ∧ hFr s_216.2.2.2.2 H0 H1 ∧ ((0 : Int) = 0 → H1.length = H0.length) ∧ hWt T0 H1) ∧ postb_216 n5 n2 n4 H0 H1) (f14 : n5 ≠ 0) (f15 : n6 = 290) (f16 : hK H1 (n2).toNat = 12) (f17 : n6 = hV H1 (n2).toNat 7) (f18 : n7 ≤ 500) (f19 : 0 ≤ n7) (f20 : hK H1 (n2).toNat = 12) (f21 : n7 = hV H1 (n2).toNat 11) (f22 : n8 ≤ 9999) (f23 : 0 ≤ n8) (f24 : n8 = hV H1 (n6).toNat (n7).toNat) (f25 : n9 = 2) (f26 : (hLe T0 H1 H2 ∧ hFr s_220.2.2.2.2 H1 H2 ∧ ((0 : Int) = 0 → H2.length = H1.length) ∧ hWt T0 H2) ∧ (postb_220 n2 n9 H1 H2 ∧ nb_220 n2 n9 H1 H2)) (f27 : n10 ≤ 2) (f28 : 0 ≤ n10) (f29 : hK H2 (n2).toNat = 12) (f30 : n10 = hV H2 (n2).toNat 13) (f31 : n10 = 0) (f32 : n1 ≤ n8) (f33 : n0 < n8) (f34 : n11 = 5) (f35 : (hLe T0 H2 H3 ∧ hFr s_218.2.2.2.2 H2 H3 ∧ ((0 : Int) = 0 → H3.length = H2.length) ∧ hWt T0 H3) ∧ (postb_218 n2 n11 n3 H2 H3 ∧ nb_218 n2 n11 n3 H2 H3)) : yb_223 n8 n2 n1 n0 H0 H3 := by
  unfold yb_223
  intro z hf
  have d9 := rdS (q := 285) f9 f4
  have d21 := rdS (q := 285) f21 f4
  have d24 := rdW (q := 290) f24 f15
  have d30 := rdS (q := 285) f30 f4
  have p := PR_fr f13.1.2.1 (by decide +kernel) z
  have q := f13.2
  unfold postb_216 at q
  have b1 := f13.1.2.2.2 285 13 _ _ rW_13
  rw [f10] at q
  have cm := f14
  have e31 := f31
  have c := f26.2.2 p.2.2.1 (by rw [f25]; decide)
  rw [f25, p.1, p.2.1, kmc_2] at c
  have vv := valueR_at p.2.2.1 (by omega) (by omega)
  rw [p.1, p.2.1] at vv
  rw [d21, ← vv] at d24
  exact d24
def g_223y_s_7 : vG := ([(1218, [0, 11, 3], [2, 3], 0), (0, [11], [], 5), (44, [8, 2], [], 0), (43, [8, 1], [], 0), (30, [10], [], 0), (20, [10, 0], [2], 13), (23, [0], [2], 12), (90, [10], [], 0), (91, [10], [], 2), (1220, [0, 9], [1, 2], 0), (0, [9], [], 2), (22, [8, 6, 7], [1], 0), (90, [8], [], 0), (91, [8], [], 9999), (20, [7, 0], [1], 11), (23, [0], [1], 12), (90, [7], [], 0), (91, [7], [], 500), (20, [6, 0], [1], 7), (23, [0], [1], 12), (0, [6], [], 290), (31, [5], [], 0), (1216, [5, 0, 4], [0, 1], 0), (90, [5], [], 0), (91, [5], [], 1), (0, [4], [], 2), (20, [3, 0], [0], 11), (23, [0], [0], 12), (90, [3], [], 0), (91, [3], [], 500), (6000, [0, 1, 2], [0], 0), (0, [0], [], 285), (90, [1], [], 0), (91, [1], [], 9999), (90, [2], [], 0), (91, [2], [], 9999)], (3000, [8], [3], 60))
theorem c_223y_s_7 : vOkm T0 (eN e_223w L_223y (eAB A_223 B_223) mu_223 y_223 By_223 none) 3 g_223y_s_7 := vOk_inI fun ρ η f0 f1 f2 f3 f4 f5 f6 f7 f8 f9 f10 f11 f12 f13 f14 f15 f16 f17 f18 f19 f20 f21 f22 f23 f24 f25 f26 f27 f28 f29 f30 f31 f32 f33 f34 f35 => q_223y_7 (n0 := ρ 2) (n1 := ρ 1) (n2 := ρ 0) (n3 := ρ 3) (n4 := ρ 4) (n5 := ρ 5) (n6 := ρ 6) (n7 := ρ 7) (n8 := ρ 8) (n9 := ρ 9) (n10 := ρ 10) (n11 := ρ 11) (H0 := η 0) (H1 := η 1) (H2 := η 2) (H3 := η 3) f35 f34 f33 f32 f31 f30 f29 f28 f27 f26 f25 f24 f23 f22 f21 f20 f19 f18 f17 f16 f15 f14 f13 f12 f11 f10 f9 f8 f7 f6 f5 f4 f3 f2 f1 f0
def p_223y_s : List vG := [g_223y_s_0,
  g_223y_s_1,
  g_223y_s_2,
  g_223y_s_3,
  g_223y_s_4,
  g_223y_s_5,
  g_223y_s_6,
  g_223y_s_7]
theorem r_223y_s : vCovBO (eR0 e_223w L_223w cs_223 2000) p_223y_s = true := by decide +kernel
theorem o_223y : eOK e_223y L_223y cs_223 2000 (eAB (eAB A_223 B_223) By_223) mu_223 := eOK_ref (p1 := p_223y_s) o_223w (sub0 (sub0 (sub0 trivial))) r_223y_s (allC c_223y_s_0 (allC c_223y_s_1 (allC c_223y_s_2 (allC c_223y_s_3 (allC c_223y_s_4 (allC c_223y_s_5 (allC c_223y_s_6 (allC c_223y_s_7 allN)))))))) allN
theorem m_223y (d : Nat) : eC e_223y (d + 4) := eC_OK (d := d + 3) o_223y rfl ⟨m_216 (d + 2), ⟨m_218w (d + 2), ⟨m_220w d, trivial⟩⟩⟩ rfl (.inr pre0_ok) (by decide +kernel)
/- MixStageModel.tellTime (IZ)V, more fully still -/
theorem o_229 : eOK e_229 L_229 cs_229 2000 A_229 mu_229 := eOK_of (tp := false) (p0 := p_229_s) (fun z => nomatch z) r_229_s (allC c_229_s_0 (allC c_229_s_1 (allC c_229_s_2 (allC c_229_s_3 (allC c_229_s_4 (allC c_229_s_5 (allC c_229_s_6 (allC c_229_s_7 (allC c_229_s_8 (allC c_229_s_9 (allC c_229_s_10 (allC c_229_s_11 (allC c_229_s_12 (allC c_229_s_13 (allC c_229_s_14 allN))))))))))))))) (allC (.inl ⟨p_229_88, r_229_88, fun q0 => (allC c_229_88_0 (allC c_229_88_1 allN))⟩) allN)
theorem o_229w : eOK e_229w L_229w cs_229 2000 (eAB A_229 B_229) mu_229 := eOK_ref (p1 := p_229w_s) o_229 (sub0 (sub1 (sub1 trivial))) r_229w_s (allC c_229w_s_0 (allC c_229w_s_1 (allC c_229w_s_2 (allC c_229w_s_3 (allC c_229w_s_4 (allC c_229w_s_5 (allC c_229w_s_6 allN))))))) (allC ⟨p_229w_88, r_229w_88, fun q0 => (allC c_229w_88_0 (allC c_229w_88_1 allN))⟩ allN)
def yb_229 (a0 a1 a2 : Int) (h0 h : gH) : Prop := RI h0 → hV h 298 = hV h0 298 ∧ hV h 299 = hV h0 299 ∧ hV h 300 = hV h0 300 ∧ hV h 305 = hV h0 305 ∧ (a2 = 0 → hV h 303 = hV h0 303 ∧ hV h 304 = hV h0 304 ∧ ∃ x y : Int, hV h 301 = uF (hV h0 301) a1 x ∧ hV h 302 = uF (hV h0 302) a1 y ∧ (hV h 285 13 = 0 → x = mkA (vwR h0) (absR h0) ∧ y = frA (vwR h0) (absR h0))) ∧ (¬ a2 = 0 → hV h 301 = hV h0 301 ∧ hV h 302 = hV h0 302 ∧ ∃ x y : Int, hV h 303 = uF (hV h0 303) a1 x ∧ hV h 304 = uF (hV h0 304) a1 y ∧ (hV h 285 13 = 0 → x = mkA (vwR h0) (absR h0) ∧ y = frA (vwR h0) (absR h0)))
def y_229 : List Int → gH → gH → Prop := fun xs h0 h => match xs with
  | [a0, a1, a2] => yb_229 a0 a1 a2 h0 h
  | _ => True
noncomputable def e_229y : vE := eV e_229w y_229
noncomputable def L_229y : List vE := [e_216, e_219w, e_223y]
def Byb_229_88 (a0 a1 a2 x0 x1 x2 x3 x4 : Int) (h0 h : gH) : Prop := RI h0 → CR8 h0 h ∧ (hV h 285 13 = 0 → x3 = mkA (vwR h0) (absR h0) ∧ x4 = frA (vwR h0) (absR h0))
def By_229 : Int → List Int → gH → gH → Prop := fun c xs h0 h => match c.toNat with
  | 88 => (match xs with
    | [a0, a1, a2, x0, x1, x2, x3, x4] => Byb_229_88 a0 a1 a2 x0 x1 x2 x3 x4 h0 h
    | _ => False)
  | _ => True
theorem q_229y_0 {n0 n1 n2 n3 n4 n5 n6 n7 n8 n9 : Int} {H0 H1 H2 : gH} (f0 : n0 ≤ 1) (f1 : 0 ≤ n0) (f2 : n1 ≤ 1007) (f3 : 0 ≤ n1) (f4 : n2 = 285) (f5 : hWt T0 H0 ∧ preb_229 n2 n1 n0 H0) (f6 : n3 = (-1)) (f7 : n4 = 0) (f8 : n5 = 41) (f9 : n6 ≤ 1) (f10 : 0 ≤ n6) (f11 : (hLe T0 H0 H1 ∧ hFr s_216.2.2.2.2 H0 H1 ∧ ((0 : Int) = 0 → H1.length = H0.length) ∧ hWt T0 H1) ∧ postb_216 n6 n2 n5 H0 H1) (f12 : n6 = 0) (f13 : n7 = 0) (f14 : n8 = 60) (f15 : n9 ≤ 9999) (f16 : 0 ≤ n9) (f17 : (hLe T0 H1 H2 ∧ hFr s_223.2.2.2.2 H1 H2 ∧ ((0 : Int) = 0 → H2.length = H1.length) ∧ hWt T0 H2) ∧ ((postb_223 n9 n2 n7 n8 H1 H2 ∧ nb_223 n9 n2 n7 n8 H1 H2) ∧ yb_223 n9 n2 n7 n8 H1 H2)) : Byb_229_88 n2 n1 n0 n2 n1 n0 n3 n9 H0 H2 := by
  unfold Byb_229_88
  intro z
  have p0 := PR_fr f11.1.2.1 (by decide +kernel) z
  have v0 : vwR H1 = vwR H0 := p0.2.1
  have ah0 : absR H1 = (absR H0) := p0.1
  have i0 := f11.2
  unfold postb_216 at i0
  rw [f8] at i0
  have cm0 := f12
  have b0 := (isR_or (k := 41) p0.2.2.1 (by decide) i0).resolve_left (fun w => absurd (w.1.symm.trans cm0) (by decide))
  replace b0 := b0.2
  rw [v0, ah0, kmc_41] at b0
  have c1 := f17.2.1.2 p0.2.2.1
  try rw [f13] at c1
  try rw [f14] at c1
  rw [v0, ah0] at c1
  have v1 : vwR H2 = vwR H0 := (vwR_fr f17.1.2.1 (by decide +kernel)).trans v0
  refine ⟨(CR8_tr (CR8_fr f11.1.2.1 (by decide +kernel)) (CR8_fr f17.1.2.1 (by decide +kernel))), fun hf => ?_⟩
  have hzH1 := fzR p0.2.2.1 c1.1 ah0 c1.2 (fun n k => pnm_neg n k) hf
  have hzH0 := fzR z p0.2.2.1 rfl ah0 (fun _ _ => rfl) hzH1.1
  have tv17 := f17.2.2
  unfold yb_223 at tv17
  have tv17 := tv17 p0.2.2.1 hf
  rw [v0, ah0] at tv17
  exact ⟨f6.trans (mkA_int b0).1.symm, tv17.trans (mkA_int b0).2.symm⟩
def g_229y_s_0 : vG := ([(1223, [9, 0, 7, 8], [1, 2], 0), (90, [9], [], 0), (91, [9], [], 9999), (0, [8], [], 60), (0, [7], [], 0), (30, [6], [], 0), (1216, [6, 0, 5], [0, 1], 0), (90, [6], [], 0), (91, [6], [], 1), (0, [5], [], 41), (0, [4], [], 0), (0, [3], [], -1), (6000, [0, 1, 2], [0], 0), (0, [0], [], 285), (90, [1], [], 0), (91, [1], [], 1007), (90, [2], [], 0), (91, [2], [], 1)], (4000, [0, 1, 2, 3, 9], [2], 88))
theorem c_229y_s_0 : vOkm T0 (eN e_229w L_229y (eAB A_229 B_229) mu_229 y_229 By_229 none) 3 g_229y_s_0 := vOk_inI fun ρ η f0 f1 f2 f3 f4 f5 f6 f7 f8 f9 f10 f11 f12 f13 f14 f15 f16 f17 => q_229y_0 (n0 := ρ 2) (n1 := ρ 1) (n2 := ρ 0) (n3 := ρ 3) (n4 := ρ 4) (n5 := ρ 5) (n6 := ρ 6) (n7 := ρ 7) (n8 := ρ 8) (n9 := ρ 9) (H0 := η 0) (H1 := η 1) (H2 := η 2) f17 f16 f15 f14 f13 f12 f11 f10 f9 f8 f7 f6 f5 f4 f3 f2 f1 f0
theorem q_229y_1 {n0 n1 n2 n3 n4 n5 n6 n7 n8 n9 n10 n11 n12 n13 n14 n15 n16 n17 n18 : Int} {H0 H1 H2 H3 H4 H5 H6 H7 : gH} (f0 : n0 ≤ 1) (f1 : 0 ≤ n0) (f2 : n1 ≤ 1007) (f3 : 0 ≤ n1) (f4 : n2 = 285) (f5 : hWt T0 H0 ∧ preb_229 n2 n1 n0 H0) (f6 : n3 = (-1)) (f7 : n4 = 0) (f8 : n5 = 41) (f9 : n6 ≤ 1) (f10 : 0 ≤ n6) (f11 : (hLe T0 H0 H1 ∧ hFr s_216.2.2.2.2 H0 H1 ∧ ((0 : Int) = 0 → H1.length = H0.length) ∧ hWt T0 H1) ∧ postb_216 n6 n2 n5 H0 H1) (f12 : n6 ≠ 0) (f13 : (hLe T0 H1 H2 ∧ hFr s_219.2.2.2.2 H1 H2 ∧ ((0 : Int) = 0 → H2.length = H1.length) ∧ hWt T0 H2) ∧ (postb_219 n2 H1 H2 ∧ nb_219 n2 H1 H2)) (f14 : n7 = 0) (f15 : n8 = 7) (f16 : n9 ≤ 9999) (f17 : 0 ≤ n9) (f18 : (hLe T0 H2 H3 ∧ hFr s_223.2.2.2.2 H2 H3 ∧ ((0 : Int) = 0 → H3.length = H2.length) ∧ hWt T0 H3) ∧ ((postb_223 n9 n2 n7 n8 H2 H3 ∧ nb_223 n9 n2 n7 n8 H2 H3) ∧ yb_223 n9 n2 n7 n8 H2 H3)) (f19 : n10 = 9) (f20 : n11 ≤ 1) (f21 : 0 ≤ n11) (f22 : (hLe T0 H3 H4 ∧ hFr s_216.2.2.2.2 H3 H4 ∧ ((0 : Int) = 0 → H4.length = H3.length) ∧ hWt T0 H4) ∧ postb_216 n11 n2 n10 H3 H4) (f23 : n11 = 0) (f24 : n12 = 1) (f25 : n13 = 8) (f26 : n14 ≤ 1) (f27 : 0 ≤ n14) (f28 : (hLe T0 H4 H5 ∧ hFr s_216.2.2.2.2 H4 H5 ∧ ((0 : Int) = 0 → H5.length = H4.length) ∧ hWt T0 H5) ∧ postb_216 n14 n2 n13 H4 H5) (f29 : n14 ≠ 0) (f30 : (hLe T0 H5 H6 ∧ hFr s_219.2.2.2.2 H5 H6 ∧ ((0 : Int) = 0 → H6.length = H5.length) ∧ hWt T0 H6) ∧ (postb_219 n2 H5 H6 ∧ nb_219 n2 H5 H6)) (f31 : n15 = 0) (f32 : n16 = 60) (f33 : n17 ≤ 9999) (f34 : 0 ≤ n17) (f35 : (hLe T0 H6 H7 ∧ hFr s_223.2.2.2.2 H6 H7 ∧ ((0 : Int) = 0 → H7.length = H6.length) ∧ hWt T0 H7) ∧ ((postb_223 n17 n2 n15 n16 H6 H7 ∧ nb_223 n17 n2 n15 n16 H6 H7) ∧ yb_223 n17 n2 n15 n16 H6 H7)) (f36 : n18 = w32 (n12 * n17)) : Byb_229_88 n2 n1 n0 n2 n1 n0 n9 n18 H0 H7 := by
  unfold Byb_229_88
  intro z
  have p0 := PR_fr f11.1.2.1 (by decide +kernel) z
  have v0 : vwR H1 = vwR H0 := p0.2.1
  have ah0 : absR H1 = (absR H0) := p0.1
  have i0 := f11.2
  unfold postb_216 at i0
  rw [f8] at i0
  have cm0 := f12
  have b0 := (isR_or (k := 41) p0.2.2.1 (by decide) i0).resolve_right (fun w => cm0 w.1)
  replace b0 := b0.2
  rw [v0, ah0, kmc_41] at b0
  have c1 := f13.2.2 p0.2.2.1 (by rw [v0, ah0]; rw [b0]; decide)
  rw [v0, ah0, b0] at c1
  have v1 : vwR H2 = vwR H0 := (vwR_fr f13.1.2.1 (by decide +kernel)).trans v0
  have c2 := f18.2.1.2 c1.1
  try rw [f14] at c2
  try rw [f15] at c2
  rw [v1, c1.2] at c2
  have v2 : vwR H3 = vwR H0 := (vwR_fr f18.1.2.1 (by decide +kernel)).trans v1
  have p3 := PR_fr f22.1.2.1 (by decide +kernel) c2.1
  have v3 : vwR H4 = vwR H0 := p3.2.1.trans v2
  have ah3 : absR H4 = (pnm (vwR H0) 0 7 (ptk (vwR H0) 37 (absR H0))) := p3.1.trans c2.2
  have i3 := f22.2
  unfold postb_216 at i3
  rw [f19] at i3
  have cm3 := f23
  have b3 := (isR_or (k := 9) p3.2.2.1 (by decide) i3).resolve_left (fun w => absurd (w.1.symm.trans cm3) (by decide))
  replace b3 := b3.2
  rw [v3, ah3, kmc_9] at b3
  have p4 := PR_fr f28.1.2.1 (by decide +kernel) p3.2.2.1
  have v4 : vwR H5 = vwR H0 := p4.2.1.trans v3
  have ah4 : absR H5 = (pnm (vwR H0) 0 7 (ptk (vwR H0) 37 (absR H0))) := p4.1.trans ah3
  have i4 := f28.2
  unfold postb_216 at i4
  rw [f25] at i4
  have cm4 := f29
  have b4 := (isR_or (k := 8) p4.2.2.1 (by decide) i4).resolve_right (fun w => cm4 w.1)
  replace b4 := b4.2
  rw [v4, ah4, kmc_8] at b4
  have c5 := f30.2.2 p4.2.2.1 (by rw [v4, ah4]; rw [b4]; decide)
  rw [v4, ah4, b4] at c5
  have v5 : vwR H6 = vwR H0 := (vwR_fr f30.1.2.1 (by decide +kernel)).trans v4
  have c6 := f35.2.1.2 c5.1
  try rw [f31] at c6
  try rw [f32] at c6
  rw [v5, c5.2] at c6
  have v6 : vwR H7 = vwR H0 := (vwR_fr f35.1.2.1 (by decide +kernel)).trans v5
  refine ⟨(CR8_tr (CR8_fr f11.1.2.1 (by decide +kernel)) (CR8_tr (CR8_fr f13.1.2.1 (by decide +kernel)) (CR8_tr (CR8_fr f18.1.2.1 (by decide +kernel)) (CR8_tr (CR8_fr f22.1.2.1 (by decide +kernel)) (CR8_tr (CR8_fr f28.1.2.1 (by decide +kernel)) (CR8_tr (CR8_fr f30.1.2.1 (by decide +kernel)) (CR8_fr f35.1.2.1 (by decide +kernel)))))))), fun hf => ?_⟩
  have hzH6 := fzR c5.1 c6.1 c5.2 c6.2 (fun n k => pnm_neg n k) hf
  have hzH5 := fzR p4.2.2.1 c5.1 ah4 c5.2 (fun n k => ptk_neg n k) hzH6.1
  have hzH4 := fzR p3.2.2.1 p4.2.2.1 ah3 ah4 (fun _ _ => rfl) hzH5.1
  have hzH3 := fzR c2.1 p3.2.2.1 c2.2 ah3 (fun _ _ => rfl) hzH4.1
  have hzH2 := fzR c1.1 c2.1 c1.2 c2.2 (fun n k => pnm_neg n k) hzH3.1
  have hzH1 := fzR p0.2.2.1 c1.1 ah0 c1.2 (fun n k => ptk_neg n k) hzH2.1
  have hzH0 := fzR z p0.2.2.1 rfl ah0 (fun _ _ => rfl) hzH1.1
  have tv18 := f18.2.2
  unfold yb_223 at tv18
  have tv18 := tv18 c1.1 hzH3.1
  rw [v1, c1.2] at tv18
  have tv35 := f35.2.2
  unfold yb_223 at tv35
  have tv35 := tv35 c5.1 hf
  rw [v5, c5.2] at tv35
  have k37 : (vwR H0).1 (absR H0).1 = 37 := b0
  refine ⟨(tv18).trans (mkA_mark k37).symm, ?_⟩
  rw [frA_plus k37 b4]
  have wv := f36
  rw [f24] at wv
  rw [← tv35]
  rw [w32_id (by omega) (by omega)] at wv
  omega
def g_229y_s_1 : vG := ([(3, [18, 12, 17], [], 0), (1223, [17, 0, 15, 16], [6, 7], 0), (90, [17], [], 0), (91, [17], [], 9999), (0, [16], [], 60), (0, [15], [], 0), (1219, [0], [5, 6], 0), (31, [14], [], 0), (1216, [14, 0, 13], [4, 5], 0), (90, [14], [], 0), (91, [14], [], 1), (0, [13], [], 8), (0, [12], [], 1), (30, [11], [], 0), (1216, [11, 0, 10], [3, 4], 0), (90, [11], [], 0), (91, [11], [], 1), (0, [10], [], 9), (1223, [9, 0, 7, 8], [2, 3], 0), (90, [9], [], 0), (91, [9], [], 9999), (0, [8], [], 7), (0, [7], [], 0), (1219, [0], [1, 2], 0), (31, [6], [], 0), (1216, [6, 0, 5], [0, 1], 0), (90, [6], [], 0), (91, [6], [], 1), (0, [5], [], 41), (0, [4], [], 0), (0, [3], [], -1), (6000, [0, 1, 2], [0], 0), (0, [0], [], 285), (90, [1], [], 0), (91, [1], [], 1007), (90, [2], [], 0), (91, [2], [], 1)], (4000, [0, 1, 2, 9, 18], [7], 88))
theorem c_229y_s_1 : vOkm T0 (eN e_229w L_229y (eAB A_229 B_229) mu_229 y_229 By_229 none) 3 g_229y_s_1 := vOk_inI fun ρ η f0 f1 f2 f3 f4 f5 f6 f7 f8 f9 f10 f11 f12 f13 f14 f15 f16 f17 f18 f19 f20 f21 f22 f23 f24 f25 f26 f27 f28 f29 f30 f31 f32 f33 f34 f35 f36 => q_229y_1 (n0 := ρ 2) (n1 := ρ 1) (n2 := ρ 0) (n3 := ρ 3) (n4 := ρ 4) (n5 := ρ 5) (n6 := ρ 6) (n7 := ρ 7) (n8 := ρ 8) (n9 := ρ 9) (n10 := ρ 10) (n11 := ρ 11) (n12 := ρ 12) (n13 := ρ 13) (n14 := ρ 14) (n15 := ρ 15) (n16 := ρ 16) (n17 := ρ 17) (n18 := ρ 18) (H0 := η 0) (H1 := η 1) (H2 := η 2) (H3 := η 3) (H4 := η 4) (H5 := η 5) (H6 := η 6) (H7 := η 7) f36 f35 f34 f33 f32 f31 f30 f29 f28 f27 f26 f25 f24 f23 f22 f21 f20 f19 f18 f17 f16 f15 f14 f13 f12 f11 f10 f9 f8 f7 f6 f5 f4 f3 f2 f1 f0
theorem q_229y_2 {n0 n1 n2 n3 n4 n5 n6 n7 n8 n9 n10 n11 n12 n13 n14 n15 n16 : Int} {H0 H1 H2 H3 H4 H5 H6 : gH} (f0 : n0 ≤ 1) (f1 : 0 ≤ n0) (f2 : n1 ≤ 1007) (f3 : 0 ≤ n1) (f4 : n2 = 285) (f5 : hWt T0 H0 ∧ preb_229 n2 n1 n0 H0) (f6 : n3 = (-1)) (f7 : n4 = 0) (f8 : n5 = 41) (f9 : n6 ≤ 1) (f10 : 0 ≤ n6) (f11 : (hLe T0 H0 H1 ∧ hFr s_216.2.2.2.2 H0 H1 ∧ ((0 : Int) = 0 → H1.length = H0.length) ∧ hWt T0 H1) ∧ postb_216 n6 n2 n5 H0 H1) (f12 : n6 ≠ 0) (f13 : (hLe T0 H1 H2 ∧ hFr s_219.2.2.2.2 H1 H2 ∧ ((0 : Int) = 0 → H2.length = H1.length) ∧ hWt T0 H2) ∧ (postb_219 n2 H1 H2 ∧ nb_219 n2 H1 H2)) (f14 : n7 = 0) (f15 : n8 = 7) (f16 : n9 ≤ 9999) (f17 : 0 ≤ n9) (f18 : (hLe T0 H2 H3 ∧ hFr s_223.2.2.2.2 H2 H3 ∧ ((0 : Int) = 0 → H3.length = H2.length) ∧ hWt T0 H3) ∧ ((postb_223 n9 n2 n7 n8 H2 H3 ∧ nb_223 n9 n2 n7 n8 H2 H3) ∧ yb_223 n9 n2 n7 n8 H2 H3)) (f19 : n10 = 9) (f20 : n11 ≤ 1) (f21 : 0 ≤ n11) (f22 : (hLe T0 H3 H4 ∧ hFr s_216.2.2.2.2 H3 H4 ∧ ((0 : Int) = 0 → H4.length = H3.length) ∧ hWt T0 H4) ∧ postb_216 n11 n2 n10 H3 H4) (f23 : n11 = 0) (f24 : n12 = 1) (f25 : n13 = 8) (f26 : n14 ≤ 1) (f27 : 0 ≤ n14) (f28 : (hLe T0 H4 H5 ∧ hFr s_216.2.2.2.2 H4 H5 ∧ ((0 : Int) = 0 → H5.length = H4.length) ∧ hWt T0 H5) ∧ postb_216 n14 n2 n13 H4 H5) (f29 : n14 = 0) (f30 : n15 = 9) (f31 : n16 ≤ 1) (f32 : 0 ≤ n16) (f33 : (hLe T0 H5 H6 ∧ hFr s_216.2.2.2.2 H5 H6 ∧ ((0 : Int) = 0 → H6.length = H5.length) ∧ hWt T0 H6) ∧ postb_216 n16 n2 n15 H5 H6) (f34 : n16 = 0) : Byb_229_88 n2 n1 n0 n2 n1 n0 n9 n4 H0 H6 := by
  unfold Byb_229_88
  intro z
  have p0 := PR_fr f11.1.2.1 (by decide +kernel) z
  have v0 : vwR H1 = vwR H0 := p0.2.1
  have ah0 : absR H1 = (absR H0) := p0.1
  have i0 := f11.2
  unfold postb_216 at i0
  rw [f8] at i0
  have cm0 := f12
  have b0 := (isR_or (k := 41) p0.2.2.1 (by decide) i0).resolve_right (fun w => cm0 w.1)
  replace b0 := b0.2
  rw [v0, ah0, kmc_41] at b0
  have c1 := f13.2.2 p0.2.2.1 (by rw [v0, ah0]; rw [b0]; decide)
  rw [v0, ah0, b0] at c1
  have v1 : vwR H2 = vwR H0 := (vwR_fr f13.1.2.1 (by decide +kernel)).trans v0
  have c2 := f18.2.1.2 c1.1
  try rw [f14] at c2
  try rw [f15] at c2
  rw [v1, c1.2] at c2
  have v2 : vwR H3 = vwR H0 := (vwR_fr f18.1.2.1 (by decide +kernel)).trans v1
  have p3 := PR_fr f22.1.2.1 (by decide +kernel) c2.1
  have v3 : vwR H4 = vwR H0 := p3.2.1.trans v2
  have ah3 : absR H4 = (pnm (vwR H0) 0 7 (ptk (vwR H0) 37 (absR H0))) := p3.1.trans c2.2
  have i3 := f22.2
  unfold postb_216 at i3
  rw [f19] at i3
  have cm3 := f23
  have b3 := (isR_or (k := 9) p3.2.2.1 (by decide) i3).resolve_left (fun w => absurd (w.1.symm.trans cm3) (by decide))
  replace b3 := b3.2
  rw [v3, ah3, kmc_9] at b3
  have p4 := PR_fr f28.1.2.1 (by decide +kernel) p3.2.2.1
  have v4 : vwR H5 = vwR H0 := p4.2.1.trans v3
  have ah4 : absR H5 = (pnm (vwR H0) 0 7 (ptk (vwR H0) 37 (absR H0))) := p4.1.trans ah3
  have i4 := f28.2
  unfold postb_216 at i4
  rw [f25] at i4
  have cm4 := f29
  have b4 := (isR_or (k := 8) p4.2.2.1 (by decide) i4).resolve_left (fun w => absurd (w.1.symm.trans cm4) (by decide))
  replace b4 := b4.2
  rw [v4, ah4, kmc_8] at b4
  have p5 := PR_fr f33.1.2.1 (by decide +kernel) p4.2.2.1
  have v5 : vwR H6 = vwR H0 := p5.2.1.trans v4
  have ah5 : absR H6 = (pnm (vwR H0) 0 7 (ptk (vwR H0) 37 (absR H0))) := p5.1.trans ah4
  have i5 := f33.2
  unfold postb_216 at i5
  rw [f30] at i5
  have cm5 := f34
  have b5 := (isR_or (k := 9) p5.2.2.1 (by decide) i5).resolve_left (fun w => absurd (w.1.symm.trans cm5) (by decide))
  replace b5 := b5.2
  rw [v5, ah5, kmc_9] at b5
  refine ⟨(CR8_tr (CR8_fr f11.1.2.1 (by decide +kernel)) (CR8_tr (CR8_fr f13.1.2.1 (by decide +kernel)) (CR8_tr (CR8_fr f18.1.2.1 (by decide +kernel)) (CR8_tr (CR8_fr f22.1.2.1 (by decide +kernel)) (CR8_tr (CR8_fr f28.1.2.1 (by decide +kernel)) (CR8_fr f33.1.2.1 (by decide +kernel))))))), fun hf => ?_⟩
  have hzH5 := fzR p4.2.2.1 p5.2.2.1 ah4 ah5 (fun _ _ => rfl) hf
  have hzH4 := fzR p3.2.2.1 p4.2.2.1 ah3 ah4 (fun _ _ => rfl) hzH5.1
  have hzH3 := fzR c2.1 p3.2.2.1 c2.2 ah3 (fun _ _ => rfl) hzH4.1
  have hzH2 := fzR c1.1 c2.1 c1.2 c2.2 (fun n k => pnm_neg n k) hzH3.1
  have hzH1 := fzR p0.2.2.1 c1.1 ah0 c1.2 (fun n k => ptk_neg n k) hzH2.1
  have hzH0 := fzR z p0.2.2.1 rfl ah0 (fun _ _ => rfl) hzH1.1
  have tv18 := f18.2.2
  unfold yb_223 at tv18
  have tv18 := tv18 c1.1 hzH3.1
  rw [v1, c1.2] at tv18
  have k37 : (vwR H0).1 (absR H0).1 = 37 := b0
  exact ⟨(tv18).trans (mkA_mark k37).symm, f7.trans (frA_zero k37 b4 b5).symm⟩
def g_229y_s_2 : vG := ([(30, [16], [], 0), (1216, [16, 0, 15], [5, 6], 0), (90, [16], [], 0), (91, [16], [], 1), (0, [15], [], 9), (30, [14], [], 0), (1216, [14, 0, 13], [4, 5], 0), (90, [14], [], 0), (91, [14], [], 1), (0, [13], [], 8), (0, [12], [], 1), (30, [11], [], 0), (1216, [11, 0, 10], [3, 4], 0), (90, [11], [], 0), (91, [11], [], 1), (0, [10], [], 9), (1223, [9, 0, 7, 8], [2, 3], 0), (90, [9], [], 0), (91, [9], [], 9999), (0, [8], [], 7), (0, [7], [], 0), (1219, [0], [1, 2], 0), (31, [6], [], 0), (1216, [6, 0, 5], [0, 1], 0), (90, [6], [], 0), (91, [6], [], 1), (0, [5], [], 41), (0, [4], [], 0), (0, [3], [], -1), (6000, [0, 1, 2], [0], 0), (0, [0], [], 285), (90, [1], [], 0), (91, [1], [], 1007), (90, [2], [], 0), (91, [2], [], 1)], (4000, [0, 1, 2, 9, 4], [6], 88))
theorem c_229y_s_2 : vOkm T0 (eN e_229w L_229y (eAB A_229 B_229) mu_229 y_229 By_229 none) 3 g_229y_s_2 := vOk_inI fun ρ η f0 f1 f2 f3 f4 f5 f6 f7 f8 f9 f10 f11 f12 f13 f14 f15 f16 f17 f18 f19 f20 f21 f22 f23 f24 f25 f26 f27 f28 f29 f30 f31 f32 f33 f34 => q_229y_2 (n0 := ρ 2) (n1 := ρ 1) (n2 := ρ 0) (n3 := ρ 3) (n4 := ρ 4) (n5 := ρ 5) (n6 := ρ 6) (n7 := ρ 7) (n8 := ρ 8) (n9 := ρ 9) (n10 := ρ 10) (n11 := ρ 11) (n12 := ρ 12) (n13 := ρ 13) (n14 := ρ 14) (n15 := ρ 15) (n16 := ρ 16) (H0 := η 0) (H1 := η 1) (H2 := η 2) (H3 := η 3) (H4 := η 4) (H5 := η 5) (H6 := η 6) f34 f33 f32 f31 f30 f29 f28 f27 f26 f25 f24 f23 f22 f21 f20 f19 f18 f17 f16 f15 f14 f13 f12 f11 f10 f9 f8 f7 f6 f5 f4 f3 f2 f1 f0
theorem q_229y_3 {n0 n1 n2 n3 n4 n5 n6 n7 n8 n9 n10 n11 n12 n13 n14 n15 n16 n17 n18 n19 n20 : Int} {H0 H1 H2 H3 H4 H5 H6 H7 H8 : gH} (f0 : n0 ≤ 1) (f1 : 0 ≤ n0) (f2 : n1 ≤ 1007) (f3 : 0 ≤ n1) (f4 : n2 = 285) (f5 : hWt T0 H0 ∧ preb_229 n2 n1 n0 H0) (f6 : n3 = (-1)) (f7 : n4 = 0) (f8 : n5 = 41) (f9 : n6 ≤ 1) (f10 : 0 ≤ n6) (f11 : (hLe T0 H0 H1 ∧ hFr s_216.2.2.2.2 H0 H1 ∧ ((0 : Int) = 0 → H1.length = H0.length) ∧ hWt T0 H1) ∧ postb_216 n6 n2 n5 H0 H1) (f12 : n6 ≠ 0) (f13 : (hLe T0 H1 H2 ∧ hFr s_219.2.2.2.2 H1 H2 ∧ ((0 : Int) = 0 → H2.length = H1.length) ∧ hWt T0 H2) ∧ (postb_219 n2 H1 H2 ∧ nb_219 n2 H1 H2)) (f14 : n7 = 0) (f15 : n8 = 7) (f16 : n9 ≤ 9999) (f17 : 0 ≤ n9) (f18 : (hLe T0 H2 H3 ∧ hFr s_223.2.2.2.2 H2 H3 ∧ ((0 : Int) = 0 → H3.length = H2.length) ∧ hWt T0 H3) ∧ ((postb_223 n9 n2 n7 n8 H2 H3 ∧ nb_223 n9 n2 n7 n8 H2 H3) ∧ yb_223 n9 n2 n7 n8 H2 H3)) (f19 : n10 = 9) (f20 : n11 ≤ 1) (f21 : 0 ≤ n11) (f22 : (hLe T0 H3 H4 ∧ hFr s_216.2.2.2.2 H3 H4 ∧ ((0 : Int) = 0 → H4.length = H3.length) ∧ hWt T0 H4) ∧ postb_216 n11 n2 n10 H3 H4) (f23 : n11 = 0) (f24 : n12 = 1) (f25 : n13 = 8) (f26 : n14 ≤ 1) (f27 : 0 ≤ n14) (f28 : (hLe T0 H4 H5 ∧ hFr s_216.2.2.2.2 H4 H5 ∧ ((0 : Int) = 0 → H5.length = H4.length) ∧ hWt T0 H5) ∧ postb_216 n14 n2 n13 H4 H5) (f29 : n14 = 0) (f30 : n15 = 9) (f31 : n16 ≤ 1) (f32 : 0 ≤ n16) (f33 : (hLe T0 H5 H6 ∧ hFr s_216.2.2.2.2 H5 H6 ∧ ((0 : Int) = 0 → H6.length = H5.length) ∧ hWt T0 H6) ∧ postb_216 n16 n2 n15 H5 H6) (f34 : n16 ≠ 0) (f35 : (hLe T0 H6 H7 ∧ hFr s_219.2.2.2.2 H6 H7 ∧ ((0 : Int) = 0 → H7.length = H6.length) ∧ hWt T0 H7) ∧ (postb_219 n2 H6 H7 ∧ nb_219 n2 H6 H7)) (f36 : n17 = 0) (f37 : n18 = 60) (f38 : n19 ≤ 9999) (f39 : 0 ≤ n19) (f40 : (hLe T0 H7 H8 ∧ hFr s_223.2.2.2.2 H7 H8 ∧ ((0 : Int) = 0 → H8.length = H7.length) ∧ hWt T0 H8) ∧ ((postb_223 n19 n2 n17 n18 H7 H8 ∧ nb_223 n19 n2 n17 n18 H7 H8) ∧ yb_223 n19 n2 n17 n18 H7 H8)) (f41 : n20 = w32 (n12 * n19)) : Byb_229_88 n2 n1 n0 n2 n1 n0 n9 n20 H0 H8 := by
  unfold Byb_229_88
  intro z
  have p0 := PR_fr f11.1.2.1 (by decide +kernel) z
  have v0 : vwR H1 = vwR H0 := p0.2.1
  have ah0 : absR H1 = (absR H0) := p0.1
  have i0 := f11.2
  unfold postb_216 at i0
  rw [f8] at i0
  have cm0 := f12
  have b0 := (isR_or (k := 41) p0.2.2.1 (by decide) i0).resolve_right (fun w => cm0 w.1)
  replace b0 := b0.2
  rw [v0, ah0, kmc_41] at b0
  have c1 := f13.2.2 p0.2.2.1 (by rw [v0, ah0]; rw [b0]; decide)
  rw [v0, ah0, b0] at c1
  have v1 : vwR H2 = vwR H0 := (vwR_fr f13.1.2.1 (by decide +kernel)).trans v0
  have c2 := f18.2.1.2 c1.1
  try rw [f14] at c2
  try rw [f15] at c2
  rw [v1, c1.2] at c2
  have v2 : vwR H3 = vwR H0 := (vwR_fr f18.1.2.1 (by decide +kernel)).trans v1
  have p3 := PR_fr f22.1.2.1 (by decide +kernel) c2.1
  have v3 : vwR H4 = vwR H0 := p3.2.1.trans v2
  have ah3 : absR H4 = (pnm (vwR H0) 0 7 (ptk (vwR H0) 37 (absR H0))) := p3.1.trans c2.2
  have i3 := f22.2
  unfold postb_216 at i3
  rw [f19] at i3
  have cm3 := f23
  have b3 := (isR_or (k := 9) p3.2.2.1 (by decide) i3).resolve_left (fun w => absurd (w.1.symm.trans cm3) (by decide))
  replace b3 := b3.2
  rw [v3, ah3, kmc_9] at b3
  have p4 := PR_fr f28.1.2.1 (by decide +kernel) p3.2.2.1
  have v4 : vwR H5 = vwR H0 := p4.2.1.trans v3
  have ah4 : absR H5 = (pnm (vwR H0) 0 7 (ptk (vwR H0) 37 (absR H0))) := p4.1.trans ah3
  have i4 := f28.2
  unfold postb_216 at i4
  rw [f25] at i4
  have cm4 := f29
  have b4 := (isR_or (k := 8) p4.2.2.1 (by decide) i4).resolve_left (fun w => absurd (w.1.symm.trans cm4) (by decide))
  replace b4 := b4.2
  rw [v4, ah4, kmc_8] at b4
  have p5 := PR_fr f33.1.2.1 (by decide +kernel) p4.2.2.1
  have v5 : vwR H6 = vwR H0 := p5.2.1.trans v4
  have ah5 : absR H6 = (pnm (vwR H0) 0 7 (ptk (vwR H0) 37 (absR H0))) := p5.1.trans ah4
  have i5 := f33.2
  unfold postb_216 at i5
  rw [f30] at i5
  have cm5 := f34
  have b5 := (isR_or (k := 9) p5.2.2.1 (by decide) i5).resolve_right (fun w => cm5 w.1)
  replace b5 := b5.2
  rw [v5, ah5, kmc_9] at b5
  have c6 := f35.2.2 p5.2.2.1 (by rw [v5, ah5]; rw [b5]; decide)
  rw [v5, ah5, b5] at c6
  have v6 : vwR H7 = vwR H0 := (vwR_fr f35.1.2.1 (by decide +kernel)).trans v5
  have c7 := f40.2.1.2 c6.1
  try rw [f36] at c7
  try rw [f37] at c7
  rw [v6, c6.2] at c7
  have v7 : vwR H8 = vwR H0 := (vwR_fr f40.1.2.1 (by decide +kernel)).trans v6
  refine ⟨(CR8_tr (CR8_fr f11.1.2.1 (by decide +kernel)) (CR8_tr (CR8_fr f13.1.2.1 (by decide +kernel)) (CR8_tr (CR8_fr f18.1.2.1 (by decide +kernel)) (CR8_tr (CR8_fr f22.1.2.1 (by decide +kernel)) (CR8_tr (CR8_fr f28.1.2.1 (by decide +kernel)) (CR8_tr (CR8_fr f33.1.2.1 (by decide +kernel)) (CR8_tr (CR8_fr f35.1.2.1 (by decide +kernel)) (CR8_fr f40.1.2.1 (by decide +kernel))))))))), fun hf => ?_⟩
  exact absurd b5 b3
def g_229y_s_3 : vG := ([(3, [20, 12, 19], [], 0), (1223, [19, 0, 17, 18], [7, 8], 0), (90, [19], [], 0), (91, [19], [], 9999), (0, [18], [], 60), (0, [17], [], 0), (1219, [0], [6, 7], 0), (31, [16], [], 0), (1216, [16, 0, 15], [5, 6], 0), (90, [16], [], 0), (91, [16], [], 1), (0, [15], [], 9), (30, [14], [], 0), (1216, [14, 0, 13], [4, 5], 0), (90, [14], [], 0), (91, [14], [], 1), (0, [13], [], 8), (0, [12], [], 1), (30, [11], [], 0), (1216, [11, 0, 10], [3, 4], 0), (90, [11], [], 0), (91, [11], [], 1), (0, [10], [], 9), (1223, [9, 0, 7, 8], [2, 3], 0), (90, [9], [], 0), (91, [9], [], 9999), (0, [8], [], 7), (0, [7], [], 0), (1219, [0], [1, 2], 0), (31, [6], [], 0), (1216, [6, 0, 5], [0, 1], 0), (90, [6], [], 0), (91, [6], [], 1), (0, [5], [], 41), (0, [4], [], 0), (0, [3], [], -1), (6000, [0, 1, 2], [0], 0), (0, [0], [], 285), (90, [1], [], 0), (91, [1], [], 1007), (90, [2], [], 0), (91, [2], [], 1)], (4000, [0, 1, 2, 9, 20], [8], 88))
theorem c_229y_s_3 : vOkm T0 (eN e_229w L_229y (eAB A_229 B_229) mu_229 y_229 By_229 none) 3 g_229y_s_3 := vOk_inI fun ρ η f0 f1 f2 f3 f4 f5 f6 f7 f8 f9 f10 f11 f12 f13 f14 f15 f16 f17 f18 f19 f20 f21 f22 f23 f24 f25 f26 f27 f28 f29 f30 f31 f32 f33 f34 f35 f36 f37 f38 f39 f40 f41 => q_229y_3 (n0 := ρ 2) (n1 := ρ 1) (n2 := ρ 0) (n3 := ρ 3) (n4 := ρ 4) (n5 := ρ 5) (n6 := ρ 6) (n7 := ρ 7) (n8 := ρ 8) (n9 := ρ 9) (n10 := ρ 10) (n11 := ρ 11) (n12 := ρ 12) (n13 := ρ 13) (n14 := ρ 14) (n15 := ρ 15) (n16 := ρ 16) (n17 := ρ 17) (n18 := ρ 18) (n19 := ρ 19) (n20 := ρ 20) (H0 := η 0) (H1 := η 1) (H2 := η 2) (H3 := η 3) (H4 := η 4) (H5 := η 5) (H6 := η 6) (H7 := η 7) (H8 := η 8) f41 f40 f39 f38 f37 f36 f35 f34 f33 f32 f31 f30 f29 f28 f27 f26 f25 f24 f23 f22 f21 f20 f19 f18 f17 f16 f15 f14 f13 f12 f11 f10 f9 f8 f7 f6 f5 f4 f3 f2 f1 f0
theorem q_229y_4 {n0 n1 n2 n3 n4 n5 n6 n7 n8 n9 n10 n11 n12 n13 n14 n15 n16 n17 n18 : Int} {H0 H1 H2 H3 H4 H5 H6 H7 : gH} (f0 : n0 ≤ 1) (f1 : 0 ≤ n0) (f2 : n1 ≤ 1007) (f3 : 0 ≤ n1) (f4 : n2 = 285) (f5 : hWt T0 H0 ∧ preb_229 n2 n1 n0 H0) (f6 : n3 = (-1)) (f7 : n4 = 0) (f8 : n5 = 41) (f9 : n6 ≤ 1) (f10 : 0 ≤ n6) (f11 : (hLe T0 H0 H1 ∧ hFr s_216.2.2.2.2 H0 H1 ∧ ((0 : Int) = 0 → H1.length = H0.length) ∧ hWt T0 H1) ∧ postb_216 n6 n2 n5 H0 H1) (f12 : n6 ≠ 0) (f13 : (hLe T0 H1 H2 ∧ hFr s_219.2.2.2.2 H1 H2 ∧ ((0 : Int) = 0 → H2.length = H1.length) ∧ hWt T0 H2) ∧ (postb_219 n2 H1 H2 ∧ nb_219 n2 H1 H2)) (f14 : n7 = 0) (f15 : n8 = 7) (f16 : n9 ≤ 9999) (f17 : 0 ≤ n9) (f18 : (hLe T0 H2 H3 ∧ hFr s_223.2.2.2.2 H2 H3 ∧ ((0 : Int) = 0 → H3.length = H2.length) ∧ hWt T0 H3) ∧ ((postb_223 n9 n2 n7 n8 H2 H3 ∧ nb_223 n9 n2 n7 n8 H2 H3) ∧ yb_223 n9 n2 n7 n8 H2 H3)) (f19 : n10 = 9) (f20 : n11 ≤ 1) (f21 : 0 ≤ n11) (f22 : (hLe T0 H3 H4 ∧ hFr s_216.2.2.2.2 H3 H4 ∧ ((0 : Int) = 0 → H4.length = H3.length) ∧ hWt T0 H4) ∧ postb_216 n11 n2 n10 H3 H4) (f23 : n11 ≠ 0) (f24 : n12 = (-1)) (f25 : n13 = 8) (f26 : n14 ≤ 1) (f27 : 0 ≤ n14) (f28 : (hLe T0 H4 H5 ∧ hFr s_216.2.2.2.2 H4 H5 ∧ ((0 : Int) = 0 → H5.length = H4.length) ∧ hWt T0 H5) ∧ postb_216 n14 n2 n13 H4 H5) (f29 : n14 ≠ 0) (f30 : (hLe T0 H5 H6 ∧ hFr s_219.2.2.2.2 H5 H6 ∧ ((0 : Int) = 0 → H6.length = H5.length) ∧ hWt T0 H6) ∧ (postb_219 n2 H5 H6 ∧ nb_219 n2 H5 H6)) (f31 : n15 = 0) (f32 : n16 = 60) (f33 : n17 ≤ 9999) (f34 : 0 ≤ n17) (f35 : (hLe T0 H6 H7 ∧ hFr s_223.2.2.2.2 H6 H7 ∧ ((0 : Int) = 0 → H7.length = H6.length) ∧ hWt T0 H7) ∧ ((postb_223 n17 n2 n15 n16 H6 H7 ∧ nb_223 n17 n2 n15 n16 H6 H7) ∧ yb_223 n17 n2 n15 n16 H6 H7)) (f36 : n18 = w32 (n12 * n17)) : Byb_229_88 n2 n1 n0 n2 n1 n0 n9 n18 H0 H7 := by
  unfold Byb_229_88
  intro z
  have p0 := PR_fr f11.1.2.1 (by decide +kernel) z
  have v0 : vwR H1 = vwR H0 := p0.2.1
  have ah0 : absR H1 = (absR H0) := p0.1
  have i0 := f11.2
  unfold postb_216 at i0
  rw [f8] at i0
  have cm0 := f12
  have b0 := (isR_or (k := 41) p0.2.2.1 (by decide) i0).resolve_right (fun w => cm0 w.1)
  replace b0 := b0.2
  rw [v0, ah0, kmc_41] at b0
  have c1 := f13.2.2 p0.2.2.1 (by rw [v0, ah0]; rw [b0]; decide)
  rw [v0, ah0, b0] at c1
  have v1 : vwR H2 = vwR H0 := (vwR_fr f13.1.2.1 (by decide +kernel)).trans v0
  have c2 := f18.2.1.2 c1.1
  try rw [f14] at c2
  try rw [f15] at c2
  rw [v1, c1.2] at c2
  have v2 : vwR H3 = vwR H0 := (vwR_fr f18.1.2.1 (by decide +kernel)).trans v1
  have p3 := PR_fr f22.1.2.1 (by decide +kernel) c2.1
  have v3 : vwR H4 = vwR H0 := p3.2.1.trans v2
  have ah3 : absR H4 = (pnm (vwR H0) 0 7 (ptk (vwR H0) 37 (absR H0))) := p3.1.trans c2.2
  have i3 := f22.2
  unfold postb_216 at i3
  rw [f19] at i3
  have cm3 := f23
  have b3 := (isR_or (k := 9) p3.2.2.1 (by decide) i3).resolve_right (fun w => cm3 w.1)
  replace b3 := b3.2
  rw [v3, ah3, kmc_9] at b3
  have p4 := PR_fr f28.1.2.1 (by decide +kernel) p3.2.2.1
  have v4 : vwR H5 = vwR H0 := p4.2.1.trans v3
  have ah4 : absR H5 = (pnm (vwR H0) 0 7 (ptk (vwR H0) 37 (absR H0))) := p4.1.trans ah3
  have i4 := f28.2
  unfold postb_216 at i4
  rw [f25] at i4
  have cm4 := f29
  have b4 := (isR_or (k := 8) p4.2.2.1 (by decide) i4).resolve_right (fun w => cm4 w.1)
  replace b4 := b4.2
  rw [v4, ah4, kmc_8] at b4
  have c5 := f30.2.2 p4.2.2.1 (by rw [v4, ah4]; rw [b4]; decide)
  rw [v4, ah4, b4] at c5
  have v5 : vwR H6 = vwR H0 := (vwR_fr f30.1.2.1 (by decide +kernel)).trans v4
  have c6 := f35.2.1.2 c5.1
  try rw [f31] at c6
  try rw [f32] at c6
  rw [v5, c5.2] at c6
  have v6 : vwR H7 = vwR H0 := (vwR_fr f35.1.2.1 (by decide +kernel)).trans v5
  refine ⟨(CR8_tr (CR8_fr f11.1.2.1 (by decide +kernel)) (CR8_tr (CR8_fr f13.1.2.1 (by decide +kernel)) (CR8_tr (CR8_fr f18.1.2.1 (by decide +kernel)) (CR8_tr (CR8_fr f22.1.2.1 (by decide +kernel)) (CR8_tr (CR8_fr f28.1.2.1 (by decide +kernel)) (CR8_tr (CR8_fr f30.1.2.1 (by decide +kernel)) (CR8_fr f35.1.2.1 (by decide +kernel)))))))), fun hf => ?_⟩
  exact absurd (b3.symm.trans b4) (by decide)
def g_229y_s_4 : vG := ([(3, [18, 12, 17], [], 0), (1223, [17, 0, 15, 16], [6, 7], 0), (90, [17], [], 0), (91, [17], [], 9999), (0, [16], [], 60), (0, [15], [], 0), (1219, [0], [5, 6], 0), (31, [14], [], 0), (1216, [14, 0, 13], [4, 5], 0), (90, [14], [], 0), (91, [14], [], 1), (0, [13], [], 8), (0, [12], [], -1), (31, [11], [], 0), (1216, [11, 0, 10], [3, 4], 0), (90, [11], [], 0), (91, [11], [], 1), (0, [10], [], 9), (1223, [9, 0, 7, 8], [2, 3], 0), (90, [9], [], 0), (91, [9], [], 9999), (0, [8], [], 7), (0, [7], [], 0), (1219, [0], [1, 2], 0), (31, [6], [], 0), (1216, [6, 0, 5], [0, 1], 0), (90, [6], [], 0), (91, [6], [], 1), (0, [5], [], 41), (0, [4], [], 0), (0, [3], [], -1), (6000, [0, 1, 2], [0], 0), (0, [0], [], 285), (90, [1], [], 0), (91, [1], [], 1007), (90, [2], [], 0), (91, [2], [], 1)], (4000, [0, 1, 2, 9, 18], [7], 88))
theorem c_229y_s_4 : vOkm T0 (eN e_229w L_229y (eAB A_229 B_229) mu_229 y_229 By_229 none) 3 g_229y_s_4 := vOk_inI fun ρ η f0 f1 f2 f3 f4 f5 f6 f7 f8 f9 f10 f11 f12 f13 f14 f15 f16 f17 f18 f19 f20 f21 f22 f23 f24 f25 f26 f27 f28 f29 f30 f31 f32 f33 f34 f35 f36 => q_229y_4 (n0 := ρ 2) (n1 := ρ 1) (n2 := ρ 0) (n3 := ρ 3) (n4 := ρ 4) (n5 := ρ 5) (n6 := ρ 6) (n7 := ρ 7) (n8 := ρ 8) (n9 := ρ 9) (n10 := ρ 10) (n11 := ρ 11) (n12 := ρ 12) (n13 := ρ 13) (n14 := ρ 14) (n15 := ρ 15) (n16 := ρ 16) (n17 := ρ 17) (n18 := ρ 18) (H0 := η 0) (H1 := η 1) (H2 := η 2) (H3 := η 3) (H4 := η 4) (H5 := η 5) (H6 := η 6) (H7 := η 7) f36 f35 f34 f33 f32 f31 f30 f29 f28 f27 f26 f25 f24 f23 f22 f21 f20 f19 f18 f17 f16 f15 f14 f13 f12 f11 f10 f9 f8 f7 f6 f5 f4 f3 f2 f1 f0
theorem q_229y_5 {n0 n1 n2 n3 n4 n5 n6 n7 n8 n9 n10 n11 n12 n13 n14 n15 n16 : Int} {H0 H1 H2 H3 H4 H5 H6 : gH} (f0 : n0 ≤ 1) (f1 : 0 ≤ n0) (f2 : n1 ≤ 1007) (f3 : 0 ≤ n1) (f4 : n2 = 285) (f5 : hWt T0 H0 ∧ preb_229 n2 n1 n0 H0) (f6 : n3 = (-1)) (f7 : n4 = 0) (f8 : n5 = 41) (f9 : n6 ≤ 1) (f10 : 0 ≤ n6) (f11 : (hLe T0 H0 H1 ∧ hFr s_216.2.2.2.2 H0 H1 ∧ ((0 : Int) = 0 → H1.length = H0.length) ∧ hWt T0 H1) ∧ postb_216 n6 n2 n5 H0 H1) (f12 : n6 ≠ 0) (f13 : (hLe T0 H1 H2 ∧ hFr s_219.2.2.2.2 H1 H2 ∧ ((0 : Int) = 0 → H2.length = H1.length) ∧ hWt T0 H2) ∧ (postb_219 n2 H1 H2 ∧ nb_219 n2 H1 H2)) (f14 : n7 = 0) (f15 : n8 = 7) (f16 : n9 ≤ 9999) (f17 : 0 ≤ n9) (f18 : (hLe T0 H2 H3 ∧ hFr s_223.2.2.2.2 H2 H3 ∧ ((0 : Int) = 0 → H3.length = H2.length) ∧ hWt T0 H3) ∧ ((postb_223 n9 n2 n7 n8 H2 H3 ∧ nb_223 n9 n2 n7 n8 H2 H3) ∧ yb_223 n9 n2 n7 n8 H2 H3)) (f19 : n10 = 9) (f20 : n11 ≤ 1) (f21 : 0 ≤ n11) (f22 : (hLe T0 H3 H4 ∧ hFr s_216.2.2.2.2 H3 H4 ∧ ((0 : Int) = 0 → H4.length = H3.length) ∧ hWt T0 H4) ∧ postb_216 n11 n2 n10 H3 H4) (f23 : n11 ≠ 0) (f24 : n12 = (-1)) (f25 : n13 = 8) (f26 : n14 ≤ 1) (f27 : 0 ≤ n14) (f28 : (hLe T0 H4 H5 ∧ hFr s_216.2.2.2.2 H4 H5 ∧ ((0 : Int) = 0 → H5.length = H4.length) ∧ hWt T0 H5) ∧ postb_216 n14 n2 n13 H4 H5) (f29 : n14 = 0) (f30 : n15 = 9) (f31 : n16 ≤ 1) (f32 : 0 ≤ n16) (f33 : (hLe T0 H5 H6 ∧ hFr s_216.2.2.2.2 H5 H6 ∧ ((0 : Int) = 0 → H6.length = H5.length) ∧ hWt T0 H6) ∧ postb_216 n16 n2 n15 H5 H6) (f34 : n16 = 0) : Byb_229_88 n2 n1 n0 n2 n1 n0 n9 n4 H0 H6 := by
  unfold Byb_229_88
  intro z
  have p0 := PR_fr f11.1.2.1 (by decide +kernel) z
  have v0 : vwR H1 = vwR H0 := p0.2.1
  have ah0 : absR H1 = (absR H0) := p0.1
  have i0 := f11.2
  unfold postb_216 at i0
  rw [f8] at i0
  have cm0 := f12
  have b0 := (isR_or (k := 41) p0.2.2.1 (by decide) i0).resolve_right (fun w => cm0 w.1)
  replace b0 := b0.2
  rw [v0, ah0, kmc_41] at b0
  have c1 := f13.2.2 p0.2.2.1 (by rw [v0, ah0]; rw [b0]; decide)
  rw [v0, ah0, b0] at c1
  have v1 : vwR H2 = vwR H0 := (vwR_fr f13.1.2.1 (by decide +kernel)).trans v0
  have c2 := f18.2.1.2 c1.1
  try rw [f14] at c2
  try rw [f15] at c2
  rw [v1, c1.2] at c2
  have v2 : vwR H3 = vwR H0 := (vwR_fr f18.1.2.1 (by decide +kernel)).trans v1
  have p3 := PR_fr f22.1.2.1 (by decide +kernel) c2.1
  have v3 : vwR H4 = vwR H0 := p3.2.1.trans v2
  have ah3 : absR H4 = (pnm (vwR H0) 0 7 (ptk (vwR H0) 37 (absR H0))) := p3.1.trans c2.2
  have i3 := f22.2
  unfold postb_216 at i3
  rw [f19] at i3
  have cm3 := f23
  have b3 := (isR_or (k := 9) p3.2.2.1 (by decide) i3).resolve_right (fun w => cm3 w.1)
  replace b3 := b3.2
  rw [v3, ah3, kmc_9] at b3
  have p4 := PR_fr f28.1.2.1 (by decide +kernel) p3.2.2.1
  have v4 : vwR H5 = vwR H0 := p4.2.1.trans v3
  have ah4 : absR H5 = (pnm (vwR H0) 0 7 (ptk (vwR H0) 37 (absR H0))) := p4.1.trans ah3
  have i4 := f28.2
  unfold postb_216 at i4
  rw [f25] at i4
  have cm4 := f29
  have b4 := (isR_or (k := 8) p4.2.2.1 (by decide) i4).resolve_left (fun w => absurd (w.1.symm.trans cm4) (by decide))
  replace b4 := b4.2
  rw [v4, ah4, kmc_8] at b4
  have p5 := PR_fr f33.1.2.1 (by decide +kernel) p4.2.2.1
  have v5 : vwR H6 = vwR H0 := p5.2.1.trans v4
  have ah5 : absR H6 = (pnm (vwR H0) 0 7 (ptk (vwR H0) 37 (absR H0))) := p5.1.trans ah4
  have i5 := f33.2
  unfold postb_216 at i5
  rw [f30] at i5
  have cm5 := f34
  have b5 := (isR_or (k := 9) p5.2.2.1 (by decide) i5).resolve_left (fun w => absurd (w.1.symm.trans cm5) (by decide))
  replace b5 := b5.2
  rw [v5, ah5, kmc_9] at b5
  refine ⟨(CR8_tr (CR8_fr f11.1.2.1 (by decide +kernel)) (CR8_tr (CR8_fr f13.1.2.1 (by decide +kernel)) (CR8_tr (CR8_fr f18.1.2.1 (by decide +kernel)) (CR8_tr (CR8_fr f22.1.2.1 (by decide +kernel)) (CR8_tr (CR8_fr f28.1.2.1 (by decide +kernel)) (CR8_fr f33.1.2.1 (by decide +kernel))))))), fun hf => ?_⟩
  exact absurd b3 b5
def g_229y_s_5 : vG := ([(30, [16], [], 0), (1216, [16, 0, 15], [5, 6], 0), (90, [16], [], 0), (91, [16], [], 1), (0, [15], [], 9), (30, [14], [], 0), (1216, [14, 0, 13], [4, 5], 0), (90, [14], [], 0), (91, [14], [], 1), (0, [13], [], 8), (0, [12], [], -1), (31, [11], [], 0), (1216, [11, 0, 10], [3, 4], 0), (90, [11], [], 0), (91, [11], [], 1), (0, [10], [], 9), (1223, [9, 0, 7, 8], [2, 3], 0), (90, [9], [], 0), (91, [9], [], 9999), (0, [8], [], 7), (0, [7], [], 0), (1219, [0], [1, 2], 0), (31, [6], [], 0), (1216, [6, 0, 5], [0, 1], 0), (90, [6], [], 0), (91, [6], [], 1), (0, [5], [], 41), (0, [4], [], 0), (0, [3], [], -1), (6000, [0, 1, 2], [0], 0), (0, [0], [], 285), (90, [1], [], 0), (91, [1], [], 1007), (90, [2], [], 0), (91, [2], [], 1)], (4000, [0, 1, 2, 9, 4], [6], 88))
theorem c_229y_s_5 : vOkm T0 (eN e_229w L_229y (eAB A_229 B_229) mu_229 y_229 By_229 none) 3 g_229y_s_5 := vOk_inI fun ρ η f0 f1 f2 f3 f4 f5 f6 f7 f8 f9 f10 f11 f12 f13 f14 f15 f16 f17 f18 f19 f20 f21 f22 f23 f24 f25 f26 f27 f28 f29 f30 f31 f32 f33 f34 => q_229y_5 (n0 := ρ 2) (n1 := ρ 1) (n2 := ρ 0) (n3 := ρ 3) (n4 := ρ 4) (n5 := ρ 5) (n6 := ρ 6) (n7 := ρ 7) (n8 := ρ 8) (n9 := ρ 9) (n10 := ρ 10) (n11 := ρ 11) (n12 := ρ 12) (n13 := ρ 13) (n14 := ρ 14) (n15 := ρ 15) (n16 := ρ 16) (H0 := η 0) (H1 := η 1) (H2 := η 2) (H3 := η 3) (H4 := η 4) (H5 := η 5) (H6 := η 6) f34 f33 f32 f31 f30 f29 f28 f27 f26 f25 f24 f23 f22 f21 f20 f19 f18 f17 f16 f15 f14 f13 f12 f11 f10 f9 f8 f7 f6 f5 f4 f3 f2 f1 f0
theorem q_229y_6 {n0 n1 n2 n3 n4 n5 n6 n7 n8 n9 n10 n11 n12 n13 n14 n15 n16 n17 n18 n19 n20 : Int} {H0 H1 H2 H3 H4 H5 H6 H7 H8 : gH} (f0 : n0 ≤ 1) (f1 : 0 ≤ n0) (f2 : n1 ≤ 1007) (f3 : 0 ≤ n1) (f4 : n2 = 285) (f5 : hWt T0 H0 ∧ preb_229 n2 n1 n0 H0) (f6 : n3 = (-1)) (f7 : n4 = 0) (f8 : n5 = 41) (f9 : n6 ≤ 1) (f10 : 0 ≤ n6) (f11 : (hLe T0 H0 H1 ∧ hFr s_216.2.2.2.2 H0 H1 ∧ ((0 : Int) = 0 → H1.length = H0.length) ∧ hWt T0 H1) ∧ postb_216 n6 n2 n5 H0 H1) (f12 : n6 ≠ 0) (f13 : (hLe T0 H1 H2 ∧ hFr s_219.2.2.2.2 H1 H2 ∧ ((0 : Int) = 0 → H2.length = H1.length) ∧ hWt T0 H2) ∧ (postb_219 n2 H1 H2 ∧ nb_219 n2 H1 H2)) (f14 : n7 = 0) (f15 : n8 = 7) (f16 : n9 ≤ 9999) (f17 : 0 ≤ n9) (f18 : (hLe T0 H2 H3 ∧ hFr s_223.2.2.2.2 H2 H3 ∧ ((0 : Int) = 0 → H3.length = H2.length) ∧ hWt T0 H3) ∧ ((postb_223 n9 n2 n7 n8 H2 H3 ∧ nb_223 n9 n2 n7 n8 H2 H3) ∧ yb_223 n9 n2 n7 n8 H2 H3)) (f19 : n10 = 9) (f20 : n11 ≤ 1) (f21 : 0 ≤ n11) (f22 : (hLe T0 H3 H4 ∧ hFr s_216.2.2.2.2 H3 H4 ∧ ((0 : Int) = 0 → H4.length = H3.length) ∧ hWt T0 H4) ∧ postb_216 n11 n2 n10 H3 H4) (f23 : n11 ≠ 0) (f24 : n12 = (-1)) (f25 : n13 = 8) (f26 : n14 ≤ 1) (f27 : 0 ≤ n14) (f28 : (hLe T0 H4 H5 ∧ hFr s_216.2.2.2.2 H4 H5 ∧ ((0 : Int) = 0 → H5.length = H4.length) ∧ hWt T0 H5) ∧ postb_216 n14 n2 n13 H4 H5) (f29 : n14 = 0) (f30 : n15 = 9) (f31 : n16 ≤ 1) (f32 : 0 ≤ n16) (f33 : (hLe T0 H5 H6 ∧ hFr s_216.2.2.2.2 H5 H6 ∧ ((0 : Int) = 0 → H6.length = H5.length) ∧ hWt T0 H6) ∧ postb_216 n16 n2 n15 H5 H6) (f34 : n16 ≠ 0) (f35 : (hLe T0 H6 H7 ∧ hFr s_219.2.2.2.2 H6 H7 ∧ ((0 : Int) = 0 → H7.length = H6.length) ∧ hWt T0 H7) ∧ (postb_219 n2 H6 H7 ∧ nb_219 n2 H6 H7)) (f36 : n17 = 0) (f37 : n18 = 60) (f38 : n19 ≤ 9999) (f39 : 0 ≤ n19) (f40 : (hLe T0 H7 H8 ∧ hFr s_223.2.2.2.2 H7 H8 ∧ ((0 : Int) = 0 → H8.length = H7.length) ∧ hWt T0 H8) ∧ ((postb_223 n19 n2 n17 n18 H7 H8 ∧ nb_223 n19 n2 n17 n18 H7 H8) ∧ yb_223 n19 n2 n17 n18 H7 H8)) (f41 : n20 = w32 (n12 * n19)) : Byb_229_88 n2 n1 n0 n2 n1 n0 n9 n20 H0 H8 := by
  unfold Byb_229_88
  intro z
  have p0 := PR_fr f11.1.2.1 (by decide +kernel) z
  have v0 : vwR H1 = vwR H0 := p0.2.1
  have ah0 : absR H1 = (absR H0) := p0.1
  have i0 := f11.2
  unfold postb_216 at i0
  rw [f8] at i0
  have cm0 := f12
  have b0 := (isR_or (k := 41) p0.2.2.1 (by decide) i0).resolve_right (fun w => cm0 w.1)
  replace b0 := b0.2
  rw [v0, ah0, kmc_41] at b0
  have c1 := f13.2.2 p0.2.2.1 (by rw [v0, ah0]; rw [b0]; decide)
  rw [v0, ah0, b0] at c1
  have v1 : vwR H2 = vwR H0 := (vwR_fr f13.1.2.1 (by decide +kernel)).trans v0
  have c2 := f18.2.1.2 c1.1
  try rw [f14] at c2
  try rw [f15] at c2
  rw [v1, c1.2] at c2
  have v2 : vwR H3 = vwR H0 := (vwR_fr f18.1.2.1 (by decide +kernel)).trans v1
  have p3 := PR_fr f22.1.2.1 (by decide +kernel) c2.1
  have v3 : vwR H4 = vwR H0 := p3.2.1.trans v2
  have ah3 : absR H4 = (pnm (vwR H0) 0 7 (ptk (vwR H0) 37 (absR H0))) := p3.1.trans c2.2
  have i3 := f22.2
  unfold postb_216 at i3
  rw [f19] at i3
  have cm3 := f23
  have b3 := (isR_or (k := 9) p3.2.2.1 (by decide) i3).resolve_right (fun w => cm3 w.1)
  replace b3 := b3.2
  rw [v3, ah3, kmc_9] at b3
  have p4 := PR_fr f28.1.2.1 (by decide +kernel) p3.2.2.1
  have v4 : vwR H5 = vwR H0 := p4.2.1.trans v3
  have ah4 : absR H5 = (pnm (vwR H0) 0 7 (ptk (vwR H0) 37 (absR H0))) := p4.1.trans ah3
  have i4 := f28.2
  unfold postb_216 at i4
  rw [f25] at i4
  have cm4 := f29
  have b4 := (isR_or (k := 8) p4.2.2.1 (by decide) i4).resolve_left (fun w => absurd (w.1.symm.trans cm4) (by decide))
  replace b4 := b4.2
  rw [v4, ah4, kmc_8] at b4
  have p5 := PR_fr f33.1.2.1 (by decide +kernel) p4.2.2.1
  have v5 : vwR H6 = vwR H0 := p5.2.1.trans v4
  have ah5 : absR H6 = (pnm (vwR H0) 0 7 (ptk (vwR H0) 37 (absR H0))) := p5.1.trans ah4
  have i5 := f33.2
  unfold postb_216 at i5
  rw [f30] at i5
  have cm5 := f34
  have b5 := (isR_or (k := 9) p5.2.2.1 (by decide) i5).resolve_right (fun w => cm5 w.1)
  replace b5 := b5.2
  rw [v5, ah5, kmc_9] at b5
  have c6 := f35.2.2 p5.2.2.1 (by rw [v5, ah5]; rw [b5]; decide)
  rw [v5, ah5, b5] at c6
  have v6 : vwR H7 = vwR H0 := (vwR_fr f35.1.2.1 (by decide +kernel)).trans v5
  have c7 := f40.2.1.2 c6.1
  try rw [f36] at c7
  try rw [f37] at c7
  rw [v6, c6.2] at c7
  have v7 : vwR H8 = vwR H0 := (vwR_fr f40.1.2.1 (by decide +kernel)).trans v6
  refine ⟨(CR8_tr (CR8_fr f11.1.2.1 (by decide +kernel)) (CR8_tr (CR8_fr f13.1.2.1 (by decide +kernel)) (CR8_tr (CR8_fr f18.1.2.1 (by decide +kernel)) (CR8_tr (CR8_fr f22.1.2.1 (by decide +kernel)) (CR8_tr (CR8_fr f28.1.2.1 (by decide +kernel)) (CR8_tr (CR8_fr f33.1.2.1 (by decide +kernel)) (CR8_tr (CR8_fr f35.1.2.1 (by decide +kernel)) (CR8_fr f40.1.2.1 (by decide +kernel))))))))), fun hf => ?_⟩
  have hzH7 := fzR c6.1 c7.1 c6.2 c7.2 (fun n k => pnm_neg n k) hf
  have hzH6 := fzR p5.2.2.1 c6.1 ah5 c6.2 (fun n k => ptk_neg n k) hzH7.1
  have hzH5 := fzR p4.2.2.1 p5.2.2.1 ah4 ah5 (fun _ _ => rfl) hzH6.1
  have hzH4 := fzR p3.2.2.1 p4.2.2.1 ah3 ah4 (fun _ _ => rfl) hzH5.1
  have hzH3 := fzR c2.1 p3.2.2.1 c2.2 ah3 (fun _ _ => rfl) hzH4.1
  have hzH2 := fzR c1.1 c2.1 c1.2 c2.2 (fun n k => pnm_neg n k) hzH3.1
  have hzH1 := fzR p0.2.2.1 c1.1 ah0 c1.2 (fun n k => ptk_neg n k) hzH2.1
  have hzH0 := fzR z p0.2.2.1 rfl ah0 (fun _ _ => rfl) hzH1.1
  have tv18 := f18.2.2
  unfold yb_223 at tv18
  have tv18 := tv18 c1.1 hzH3.1
  rw [v1, c1.2] at tv18
  have tv40 := f40.2.2
  unfold yb_223 at tv40
  have tv40 := tv40 c6.1 hf
  rw [v6, c6.2] at tv40
  have k37 : (vwR H0).1 (absR H0).1 = 37 := b0
  refine ⟨(tv18).trans (mkA_mark k37).symm, ?_⟩
  rw [frA_minus k37 b4 b5]
  have wv := f41
  rw [f24] at wv
  rw [← tv40]
  rw [w32_id (by omega) (by omega)] at wv
  omega
def g_229y_s_6 : vG := ([(3, [20, 12, 19], [], 0), (1223, [19, 0, 17, 18], [7, 8], 0), (90, [19], [], 0), (91, [19], [], 9999), (0, [18], [], 60), (0, [17], [], 0), (1219, [0], [6, 7], 0), (31, [16], [], 0), (1216, [16, 0, 15], [5, 6], 0), (90, [16], [], 0), (91, [16], [], 1), (0, [15], [], 9), (30, [14], [], 0), (1216, [14, 0, 13], [4, 5], 0), (90, [14], [], 0), (91, [14], [], 1), (0, [13], [], 8), (0, [12], [], -1), (31, [11], [], 0), (1216, [11, 0, 10], [3, 4], 0), (90, [11], [], 0), (91, [11], [], 1), (0, [10], [], 9), (1223, [9, 0, 7, 8], [2, 3], 0), (90, [9], [], 0), (91, [9], [], 9999), (0, [8], [], 7), (0, [7], [], 0), (1219, [0], [1, 2], 0), (31, [6], [], 0), (1216, [6, 0, 5], [0, 1], 0), (90, [6], [], 0), (91, [6], [], 1), (0, [5], [], 41), (0, [4], [], 0), (0, [3], [], -1), (6000, [0, 1, 2], [0], 0), (0, [0], [], 285), (90, [1], [], 0), (91, [1], [], 1007), (90, [2], [], 0), (91, [2], [], 1)], (4000, [0, 1, 2, 9, 20], [8], 88))
theorem c_229y_s_6 : vOkm T0 (eN e_229w L_229y (eAB A_229 B_229) mu_229 y_229 By_229 none) 3 g_229y_s_6 := vOk_inI fun ρ η f0 f1 f2 f3 f4 f5 f6 f7 f8 f9 f10 f11 f12 f13 f14 f15 f16 f17 f18 f19 f20 f21 f22 f23 f24 f25 f26 f27 f28 f29 f30 f31 f32 f33 f34 f35 f36 f37 f38 f39 f40 f41 => q_229y_6 (n0 := ρ 2) (n1 := ρ 1) (n2 := ρ 0) (n3 := ρ 3) (n4 := ρ 4) (n5 := ρ 5) (n6 := ρ 6) (n7 := ρ 7) (n8 := ρ 8) (n9 := ρ 9) (n10 := ρ 10) (n11 := ρ 11) (n12 := ρ 12) (n13 := ρ 13) (n14 := ρ 14) (n15 := ρ 15) (n16 := ρ 16) (n17 := ρ 17) (n18 := ρ 18) (n19 := ρ 19) (n20 := ρ 20) (H0 := η 0) (H1 := η 1) (H2 := η 2) (H3 := η 3) (H4 := η 4) (H5 := η 5) (H6 := η 6) (H7 := η 7) (H8 := η 8) f41 f40 f39 f38 f37 f36 f35 f34 f33 f32 f31 f30 f29 f28 f27 f26 f25 f24 f23 f22 f21 f20 f19 f18 f17 f16 f15 f14 f13 f12 f11 f10 f9 f8 f7 f6 f5 f4 f3 f2 f1 f0
def p_229y_s : List vG := [g_229y_s_0,
  g_229y_s_1,
  g_229y_s_2,
  g_229y_s_3,
  g_229y_s_4,
  g_229y_s_5,
  g_229y_s_6]
theorem r_229y_s : vCovBO (eR0 e_229w L_229w cs_229 2000) p_229y_s = true := by decide +kernel
theorem q_229y_7 {q0 : Nat} {n0 n1 n2 n3 n4 n5 n6 n7 n8 n9 : Int} {H0 H1 H2 H3 : gH} (f0 : n0 ≤ 9999) (f1 : (-9999) ≤ n0) (f2 : n1 ≤ 9999) (f3 : (-1) ≤ n1) (f4 : n2 ≤ 1) (f5 : 0 ≤ n2) (f6 : n3 ≤ 1007) (f7 : 0 ≤ n3) (f8 : n4 = 285) (f9 : n5 ≤ 1) (f10 : 0 ≤ n5) (f11 : n6 ≤ 1007) (f12 : 0 ≤ n6) (f13 : n7 = 285) (f14 : (hLe T0 H0 H1 ∧ hFr s_229.2.2.2.2 H0 H1 ∧ hWt T0 H1) ∧ (((Ab_229_88 n7 n6 n5 n4 n3 n2 n1 n0 H0 H1 ∧ Bb_229_88 n7 n6 n5 n4 n3 n2 n1 n0 H0 H1) ∧ Byb_229_88 n7 n6 n5 n4 n3 n2 n1 n0 H0 H1) ∧ preb_229 n7 n6 n5 H0) ∧ some q0 = some (mub_229_88 n7 n6 n5 n4 n3 n2 n1 n0 H0 H1)) (f15 : n2 = 0) (f16 : n8 = 301) (f17 : hK H1 (n4).toNat = 12) (f18 : n8 = hV H1 (n4).toNat 27) (f19 : hK H1 (n8).toNat = 236) (f20 : hUpd H2 H1 n8 n3 n1) (f21 : n9 = 302) (f22 : hK H2 (n4).toNat = 12) (f23 : n9 = hV H2 (n4).toNat 28) (f24 : hK H2 (n9).toNat = 244) (f25 : hUpd H3 H2 n9 n3 n0) : yb_229 n7 n6 n5 H0 H3 := by
  unfold yb_229
  intro z
  have ga := f14.2.1.1.2
  unfold Byb_229_88 at ga
  obtain ⟨g8, gt⟩ := ga z
  obtain ⟨s1, s2, s3, s4, s5, s6, s7, s8⟩ := g8
  have aa := f14.2.1.1.1.1
  unfold Ab_229_88 at aa
  have ea := aa.1
  have eb := aa.2.1
  clear aa
  have ra : hV H3 301 = uF (hV H0 301) n6 n1 := by
    rw [uRowNe f25 301 (by rw [f21]; decide), uRowQ f20 301 f16, s4, ea]
  have rb : hV H3 302 = uF (hV H0 302) n6 n0 := by
    rw [uRowQ f25 302 f21, uRowNe f20 302 (by rw [f16]; decide), s5, ea]
  have e13 : hV H3 285 13 = hV H1 285 13 := (uPlace f25 285 13 (by rw [f21]; decide)).trans (uPlace f20 285 13 (by rw [f16]; decide))
  exact ⟨(uRowNe f25 298 (by rw [f21]; decide)).trans ((uRowNe f20 298 (by rw [f16]; decide)).trans s1), (uRowNe f25 299 (by rw [f21]; decide)).trans ((uRowNe f20 299 (by rw [f16]; decide)).trans s2), (uRowNe f25 300 (by rw [f21]; decide)).trans ((uRowNe f20 300 (by rw [f16]; decide)).trans s3), (uRowNe f25 305 (by rw [f21]; decide)).trans ((uRowNe f20 305 (by rw [f16]; decide)).trans s8), fun _ => ⟨(uRowNe f25 303 (by rw [f21]; decide)).trans ((uRowNe f20 303 (by rw [f16]; decide)).trans s6), (uRowNe f25 304 (by rw [f21]; decide)).trans ((uRowNe f20 304 (by rw [f16]; decide)).trans s7), n1, n0, ra, rb, fun hf => gt (by omega)⟩, fun w => absurd w (by have w2 := f15; omega)⟩
def g_229y_88_0 : vG := ([(80, [9, 4, 7], [3, 2], 0), (23, [9], [2], 244), (20, [9, 3], [2], 28), (23, [3], [2], 12), (0, [9], [], 302), (80, [8, 4, 6], [2, 1], 0), (23, [8], [1], 236), (20, [8, 3], [1], 27), (23, [3], [1], 12), (0, [8], [], 301), (30, [5], [], 0), (5000, [0, 1, 2, 3, 4, 5, 6, 7], [0, 1], 88), (0, [0], [], 285), (90, [1], [], 0), (91, [1], [], 1007), (90, [2], [], 0), (91, [2], [], 1), (0, [3], [], 285), (90, [4], [], 0), (91, [4], [], 1007), (90, [5], [], 0), (91, [5], [], 1), (90, [6], [], -1), (91, [6], [], 9999), (90, [7], [], -9999), (91, [7], [], 9999)], (3000, [], [3], 125))
theorem c_229y_88_0 {q0 : Nat} : vOkm T0 (eN e_229w L_229y (eAB A_229 B_229) mu_229 y_229 By_229 (some q0)) 3 g_229y_88_0 := vOk_inI fun ρ η f0 f1 f2 f3 f4 f5 f6 f7 f8 f9 f10 f11 f12 f13 f14 f15 f16 f17 f18 f19 f20 f21 f22 f23 f24 f25 => q_229y_7 (q0 := q0) (n0 := ρ 7) (n1 := ρ 6) (n2 := ρ 5) (n3 := ρ 4) (n4 := ρ 3) (n5 := ρ 2) (n6 := ρ 1) (n7 := ρ 0) (n8 := ρ 8) (n9 := ρ 9) (H0 := η 0) (H1 := η 1) (H2 := η 2) (H3 := η 3) f25 f24 f23 f22 f21 f20 f19 f18 f17 f16 f15 f14 f13 f12 f11 f10 f9 f8 f7 f6 f5 f4 f3 f2 f1 f0
theorem q_229y_8 {q0 : Nat} {n0 n1 n2 n3 n4 n5 n6 n7 n8 n9 : Int} {H0 H1 H2 H3 : gH} (f0 : n0 ≤ 9999) (f1 : (-9999) ≤ n0) (f2 : n1 ≤ 9999) (f3 : (-1) ≤ n1) (f4 : n2 ≤ 1) (f5 : 0 ≤ n2) (f6 : n3 ≤ 1007) (f7 : 0 ≤ n3) (f8 : n4 = 285) (f9 : n5 ≤ 1) (f10 : 0 ≤ n5) (f11 : n6 ≤ 1007) (f12 : 0 ≤ n6) (f13 : n7 = 285) (f14 : (hLe T0 H0 H1 ∧ hFr s_229.2.2.2.2 H0 H1 ∧ hWt T0 H1) ∧ (((Ab_229_88 n7 n6 n5 n4 n3 n2 n1 n0 H0 H1 ∧ Bb_229_88 n7 n6 n5 n4 n3 n2 n1 n0 H0 H1) ∧ Byb_229_88 n7 n6 n5 n4 n3 n2 n1 n0 H0 H1) ∧ preb_229 n7 n6 n5 H0) ∧ some q0 = some (mub_229_88 n7 n6 n5 n4 n3 n2 n1 n0 H0 H1)) (f15 : n2 ≠ 0) (f16 : n8 = 303) (f17 : hK H1 (n4).toNat = 12) (f18 : n8 = hV H1 (n4).toNat 29) (f19 : hK H1 (n8).toNat = 252) (f20 : hUpd H2 H1 n8 n3 n1) (f21 : n9 = 304) (f22 : hK H2 (n4).toNat = 12) (f23 : n9 = hV H2 (n4).toNat 30) (f24 : hK H2 (n9).toNat = 260) (f25 : hUpd H3 H2 n9 n3 n0) : yb_229 n7 n6 n5 H0 H3 := by
  unfold yb_229
  intro z
  have ga := f14.2.1.1.2
  unfold Byb_229_88 at ga
  obtain ⟨g8, gt⟩ := ga z
  obtain ⟨s1, s2, s3, s4, s5, s6, s7, s8⟩ := g8
  have aa := f14.2.1.1.1.1
  unfold Ab_229_88 at aa
  have ea := aa.1
  have eb := aa.2.1
  clear aa
  have ra : hV H3 303 = uF (hV H0 303) n6 n1 := by
    rw [uRowNe f25 303 (by rw [f21]; decide), uRowQ f20 303 f16, s6, ea]
  have rb : hV H3 304 = uF (hV H0 304) n6 n0 := by
    rw [uRowQ f25 304 f21, uRowNe f20 304 (by rw [f16]; decide), s7, ea]
  have e13 : hV H3 285 13 = hV H1 285 13 := (uPlace f25 285 13 (by rw [f21]; decide)).trans (uPlace f20 285 13 (by rw [f16]; decide))
  exact ⟨(uRowNe f25 298 (by rw [f21]; decide)).trans ((uRowNe f20 298 (by rw [f16]; decide)).trans s1), (uRowNe f25 299 (by rw [f21]; decide)).trans ((uRowNe f20 299 (by rw [f16]; decide)).trans s2), (uRowNe f25 300 (by rw [f21]; decide)).trans ((uRowNe f20 300 (by rw [f16]; decide)).trans s3), (uRowNe f25 305 (by rw [f21]; decide)).trans ((uRowNe f20 305 (by rw [f16]; decide)).trans s8), fun w => absurd w (by have w2 := f15; omega), fun _ => ⟨(uRowNe f25 301 (by rw [f21]; decide)).trans ((uRowNe f20 301 (by rw [f16]; decide)).trans s4), (uRowNe f25 302 (by rw [f21]; decide)).trans ((uRowNe f20 302 (by rw [f16]; decide)).trans s5), n1, n0, ra, rb, fun hf => gt (by omega)⟩⟩
def g_229y_88_1 : vG := ([(80, [9, 4, 7], [3, 2], 0), (23, [9], [2], 260), (20, [9, 3], [2], 30), (23, [3], [2], 12), (0, [9], [], 304), (80, [8, 4, 6], [2, 1], 0), (23, [8], [1], 252), (20, [8, 3], [1], 29), (23, [3], [1], 12), (0, [8], [], 303), (31, [5], [], 0), (5000, [0, 1, 2, 3, 4, 5, 6, 7], [0, 1], 88), (0, [0], [], 285), (90, [1], [], 0), (91, [1], [], 1007), (90, [2], [], 0), (91, [2], [], 1), (0, [3], [], 285), (90, [4], [], 0), (91, [4], [], 1007), (90, [5], [], 0), (91, [5], [], 1), (90, [6], [], -1), (91, [6], [], 9999), (90, [7], [], -9999), (91, [7], [], 9999)], (3000, [], [3], 125))
theorem c_229y_88_1 {q0 : Nat} : vOkm T0 (eN e_229w L_229y (eAB A_229 B_229) mu_229 y_229 By_229 (some q0)) 3 g_229y_88_1 := vOk_inI fun ρ η f0 f1 f2 f3 f4 f5 f6 f7 f8 f9 f10 f11 f12 f13 f14 f15 f16 f17 f18 f19 f20 f21 f22 f23 f24 f25 => q_229y_8 (q0 := q0) (n0 := ρ 7) (n1 := ρ 6) (n2 := ρ 5) (n3 := ρ 4) (n4 := ρ 3) (n5 := ρ 2) (n6 := ρ 1) (n7 := ρ 0) (n8 := ρ 8) (n9 := ρ 9) (H0 := η 0) (H1 := η 1) (H2 := η 2) (H3 := η 3) f25 f24 f23 f22 f21 f20 f19 f18 f17 f16 f15 f14 f13 f12 f11 f10 f9 f8 f7 f6 f5 f4 f3 f2 f1 f0
def p_229y_88 : List vG := [g_229y_88_0,
  g_229y_88_1]
theorem r_229y_88 : vCovBO (eRc e_229w L_229w cs_229 2000 (88, [(0, (3, 12, 285, 0)), (1, (0, 0, 1007, 0)), (2, (0, 0, 1, 0)), (3, (0, -1, 9999, 0)), (4, (0, -9999, 9999, 0))])) p_229y_88 = true := by decide +kernel
theorem o_229y : eOK e_229y L_229y cs_229 2000 (eAB (eAB A_229 B_229) By_229) mu_229 := eOK_ref (p1 := p_229y_s) o_229w (sub0 (sub0 (sub1 trivial))) r_229y_s (allC c_229y_s_0 (allC c_229y_s_1 (allC c_229y_s_2 (allC c_229y_s_3 (allC c_229y_s_4 (allC c_229y_s_5 (allC c_229y_s_6 allN))))))) (allC ⟨p_229y_88, r_229y_88, fun q0 => (allC c_229y_88_0 (allC c_229y_88_1 allN))⟩ allN)
theorem m_229y (d : Nat) : eC e_229y (d + 5) := eC_OK (d := d + 4) o_229y rfl ⟨m_216 (d + 3), ⟨m_219w (d + 2), ⟨m_223y d, trivial⟩⟩⟩ rfl (.inl rfl) (by decide +kernel)
