/- MixStageModel.tellRule ()V, more fully still -/
theorem o_232 : eOK e_232 L_232 cs_232 2000 A_232 mu_232 := eOK_of (tp := false) (p0 := p_232_s) (fun z => nomatch z) r_232_s (allC c_232_s_0 (allC c_232_s_1 (allC c_232_s_2 (allC c_232_s_3 (allC c_232_s_4 (allC c_232_s_5 (allC c_232_s_6 (allC c_232_s_7 (allC c_232_s_8 (allC c_232_s_9 allN)))))))))) (allC (.inl ⟨p_232_53, r_232_53, fun q0 => (allC c_232_53_0 (allC c_232_53_1 (allC c_232_53_2 (allC c_232_53_3 (allC c_232_53_4 (allC c_232_53_5 (allC c_232_53_6 (allC c_232_53_7 (allC c_232_53_8 (allC c_232_53_9 (allC c_232_53_10 (allC c_232_53_11 (allC c_232_53_12 (allC c_232_53_13 allN))))))))))))))⟩) (allC (.inl ⟨p_232_125, r_232_125, fun q0 => (allC c_232_125_0 (allC c_232_125_1 (allC c_232_125_2 (allC c_232_125_3 allN))))⟩) (allC (.inl ⟨p_232_202, r_232_202, fun q0 => (allC c_232_202_0 (allC c_232_202_1 (allC c_232_202_2 (allC c_232_202_3 (allC c_232_202_4 (allC c_232_202_5 (allC c_232_202_6 (allC c_232_202_7 (allC c_232_202_8 allN)))))))))⟩) (allC (.inl ⟨p_232_255, r_232_255, fun q0 => (allC c_232_255_0 (allC c_232_255_1 (allC c_232_255_2 (allC c_232_255_3 allN))))⟩) allN))))
theorem o_232w : eOK e_232w L_232w cs_232 2000 (eAB A_232 B_232) mu_232 := eOK_ref (p1 := p_232w_s) o_232 (sub0 (sub1 (sub1 (sub1 (sub1 (sub1 (sub1 trivial))))))) r_232w_s (allC c_232w_s_0 (allC c_232w_s_1 (allC c_232w_s_2 (allC c_232w_s_3 (allC c_232w_s_4 (allC c_232w_s_5 (allC c_232w_s_6 (allC c_232w_s_7 (allC c_232w_s_8 (allC c_232w_s_9 allN)))))))))) (allC ⟨p_232w_53, r_232w_53, fun q0 => (allC c_232w_53_0 (allC c_232w_53_1 allN))⟩ (allC ⟨p_232w_125, r_232w_125, fun q0 => (allC c_232w_125_0 (allC c_232w_125_1 (allC c_232w_125_2 allN)))⟩ (allC ⟨p_232w_202, r_232w_202, fun q0 => (allC c_232w_202_0 (allC c_232w_202_1 (allC c_232w_202_2 (allC c_232w_202_3 (allC c_232w_202_4 (allC c_232w_202_5 (allC c_232w_202_6 (allC c_232w_202_7 allN))))))))⟩ (allC ⟨p_232w_255, r_232w_255, fun q0 => (allC c_232w_255_0 (allC c_232w_255_1 allN))⟩ allN))))
def yb_232 (a0 : Int) (h0 h : gH) : Prop := RI h0 → 0 ≤ hV h0 285 51 → 0 ≤ hV h0 285 44 → KPc h0 h ∧ KPl h0 h ∧ (∀ q : Nat, 307 ≤ q → q ≤ 311 → ∀ i : Nat, ¬ (i : Int) = (12 * hV h0 285 35 + hV h0 306 (hV h0 285 35).toNat) ∨ hV h0 306 (hV h0 285 35).toNat = 12 → hV h q i = hV h0 q i) ∧ (∀ i : Nat, ¬ (i : Int) = hV h0 285 35 → hV h 306 i = hV h0 306 i) ∧ (0 ≤ (absR h).1 → rgR h (hV h0 285 51) (hV h 285 51) (hV h0 285 44) (hV h 285 44) (12 * hV h0 285 35 + hV h0 306 (hV h0 285 35).toNat).toNat (xRule (vwR h0) (absR h0)) ∧ GRl (xRule (vwR h0) (absR h0)))
def y_232 : List Int → gH → gH → Prop := fun xs h0 h => match xs with
  | [a0] => yb_232 a0 h0 h
  | _ => True
noncomputable def e_232y : vE := eV e_232w y_232
noncomputable def L_232y : List vE := [e_216, e_217w, e_219w, e_220w, e_223w, e_233y, e_236y]
def Byb_232_53 (a0 x0 : Int) (h0 h : gH) : Prop := RI h0 → 0 ≤ hV h0 285 51 → 0 ≤ hV h0 285 44 → XRk h0 h ∧ YRs h0 h ∧ ZRs h0 h
def Byb_232_125 (a0 x0 x1 : Int) (h0 h : gH) : Prop := RI h0 → 0 ≤ hV h0 285 51 → 0 ≤ hV h0 285 44 → XRk h0 h ∧ YRs h0 h ∧ KRr h0 h x1
def Byb_232_202 (a0 x0 x1 x2 x3 : Int) (h0 h : gH) : Prop := RI h0 → 0 ≤ hV h0 285 51 → 0 ≤ hV h0 285 44 → KPc h0 h ∧ KPl h0 h ∧ KRr h0 h x1 ∧ (0 ≤ (absR h).1 → RUm h (hV h0 285 51) (hV h0 285 44) (vwR h0) (absR h0) x1 x2 x3)
def Byb_232_255 (a0 x0 x1 : Int) (h0 h : gH) : Prop := RI h0 → 0 ≤ hV h0 285 51 → 0 ≤ hV h0 285 44 → KPc h0 h ∧ KPl h0 h ∧ KRr h0 h x1 ∧ (0 ≤ (absR h).1 → rgB h (hV h0 285 51) (hV h0 285 44) (x1).toNat (xRule (vwR h0) (absR h0)) ∧ GRl (xRule (vwR h0) (absR h0)))
def By_232 : Int → List Int → gH → gH → Prop := fun c xs h0 h => match c.toNat with
  | 53 => (match xs with
    | [a0, x0] => Byb_232_53 a0 x0 h0 h
    | _ => False)
  | 125 => (match xs with
    | [a0, x0, x1] => Byb_232_125 a0 x0 x1 h0 h
    | _ => False)
  | 202 => (match xs with
    | [a0, x0, x1, x2, x3] => Byb_232_202 a0 x0 x1 x2 x3 h0 h
    | _ => False)
  | 255 => (match xs with
    | [a0, x0, x1] => Byb_232_255 a0 x0 x1 h0 h
    | _ => False)
  | _ => True
theorem q_232y_0 {n0 n1 n2 n3 n4 n5 n6 n7 : Int} {H0 H1 : gH} (f0 : n0 = 285) (f1 : hWt T0 H0 ∧ preb_232 n0 H0) (f2 : n1 = 42) (f3 : n2 ≤ 1) (f4 : 0 ≤ n2) (f5 : (hLe T0 H0 H1 ∧ hFr s_216.2.2.2.2 H0 H1 ∧ ((0 : Int) = 0 → H1.length = H0.length) ∧ hWt T0 H1) ∧ postb_216 n2 n0 n1 H0 H1) (f6 : n2 ≠ 0) (f7 : n3 = 306) (f8 : hK H1 (n0).toNat = 12) (f9 : n3 = hV H1 (n0).toNat 36) (f10 : n4 ≤ 1) (f11 : 0 ≤ n4) (f12 : hK H1 (n0).toNat = 12) (f13 : n4 = hV H1 (n0).toNat 35) (f14 : n5 ≤ 12) (f15 : 0 ≤ n5) (f16 : n5 = hV H1 (n3).toNat (n4).toNat) (f17 : n6 = 12) (f18 : n5 ≠ n6) (f19 : n7 ≤ 2) (f20 : 0 ≤ n7) (f21 : hK H1 (n0).toNat = 12) (f22 : n7 = hV H1 (n0).toNat 13) (f23 : n7 ≤ 0) : Byb_232_53 n0 n0 H0 H1 := by
  unfold Byb_232_53
  intro z s0 l0
  have d13 := rdS (q := 285) f13 f0
  have d16 := rdW (q := 306) f16 f7
  have d22 := rdS (q := 285) f22 f0
  have q6 := f6
  have q18 := f18
  have qc17 := f17
  have q23 := f23
  have p0 := PR_fr f5.1.2.1 (by decide +kernel) z
  have v0 : vwR H1 = vwR H0 := p0.2.1
  have ah0 : absR H1 = (absR H0) := p0.1
  have i0 := f5.2
  unfold postb_216 at i0
  rw [f2] at i0
  have cm0 := f6
  have b0 := (isR_or (k := 42) p0.2.2.1 (by decide) i0).resolve_right (fun w => cm0 w.1)
  replace b0 := b0.2
  rw [v0, ah0, kmc_42] at b0
  exact ⟨(XRk_fr f5.1.2.1 (by decide +kernel)), (YRs_fr f5.1.2.1 (by decide +kernel)), (ZRs_fr f5.1.2.1 (by decide +kernel))⟩
def g_232y_s_0 : vG := ([(35, [7], [], 0), (20, [7, 0], [1], 13), (23, [0], [1], 12), (90, [7], [], 0), (91, [7], [], 2), (41, [5, 6], [], 0), (0, [6], [], 12), (22, [5, 3, 4], [1], 0), (90, [5], [], 0), (91, [5], [], 12), (20, [4, 0], [1], 35), (23, [0], [1], 12), (90, [4], [], 0), (91, [4], [], 1), (20, [3, 0], [1], 36), (23, [0], [1], 12), (0, [3], [], 306), (31, [2], [], 0), (1216, [2, 0, 1], [0, 1], 0), (90, [2], [], 0), (91, [2], [], 1), (0, [1], [], 42), (6000, [0], [0], 0), (0, [0], [], 285)], (4000, [0], [1], 53))
theorem c_232y_s_0 : vOkm T0 (eN e_232w L_232y (eAB A_232 B_232) mu_232 y_232 By_232 none) 1 g_232y_s_0 := vOk_inI fun ρ η f0 f1 f2 f3 f4 f5 f6 f7 f8 f9 f10 f11 f12 f13 f14 f15 f16 f17 f18 f19 f20 f21 f22 f23 => q_232y_0 (n0 := ρ 0) (n1 := ρ 1) (n2 := ρ 2) (n3 := ρ 3) (n4 := ρ 4) (n5 := ρ 5) (n6 := ρ 6) (n7 := ρ 7) (H0 := η 0) (H1 := η 1) f23 f22 f21 f20 f19 f18 f17 f16 f15 f14 f13 f12 f11 f10 f9 f8 f7 f6 f5 f4 f3 f2 f1 f0
theorem q_232y_1 {n0 n1 n2 n3 n4 n5 n6 n7 : Int} {H0 H1 : gH} (f0 : n0 = 285) (f1 : hWt T0 H0 ∧ preb_232 n0 H0) (f2 : n1 = 42) (f3 : n2 ≤ 1) (f4 : 0 ≤ n2) (f5 : (hLe T0 H0 H1 ∧ hFr s_216.2.2.2.2 H0 H1 ∧ ((0 : Int) = 0 → H1.length = H0.length) ∧ hWt T0 H1) ∧ postb_216 n2 n0 n1 H0 H1) (f6 : n2 ≠ 0) (f7 : n3 = 306) (f8 : hK H1 (n0).toNat = 12) (f9 : n3 = hV H1 (n0).toNat 36) (f10 : n4 ≤ 1) (f11 : 0 ≤ n4) (f12 : hK H1 (n0).toNat = 12) (f13 : n4 = hV H1 (n0).toNat 35) (f14 : n5 ≤ 12) (f15 : 0 ≤ n5) (f16 : n5 = hV H1 (n3).toNat (n4).toNat) (f17 : n6 = 12) (f18 : n5 ≠ n6) (f19 : n7 ≤ 2) (f20 : 0 ≤ n7) (f21 : hK H1 (n0).toNat = 12) (f22 : n7 = hV H1 (n0).toNat 13) (f23 : 0 < n7) : yb_232 n0 H0 H1 := by
  unfold yb_232
  intro z s0 l0
  have d13 := rdS (q := 285) f13 f0
  have d16 := rdW (q := 306) f16 f7
  have d22 := rdS (q := 285) f22 f0
  have q6 := f6
  have q18 := f18
  have qc17 := f17
  have q23 := f23
  have p0 := PR_fr f5.1.2.1 (by decide +kernel) z
  have v0 : vwR H1 = vwR H0 := p0.2.1
  have ah0 : absR H1 = (absR H0) := p0.1
  have i0 := f5.2
  unfold postb_216 at i0
  rw [f2] at i0
  have cm0 := f6
  have b0 := (isR_or (k := 42) p0.2.2.1 (by decide) i0).resolve_right (fun w => cm0 w.1)
  replace b0 := b0.2
  rw [v0, ah0, kmc_42] at b0
  have zz : ZRs H0 H1 := (ZRs_fr f5.1.2.1 (by decide +kernel))
  refine ⟨KPc_x (XRk_fr f5.1.2.1 (by decide +kernel)), KPl_y (YRs_fr f5.1.2.1 (by decide +kernel)), fun q q1 q2 i _ => by rw [zz q (by omega) q2], fun i _ => by rw [zz 306 (by decide) (by decide)], fun hp => ?_⟩
  exfalso
  have := absR_neg p0.2.2.1 (by omega)
  omega
def g_232y_s_1 : vG := ([(34, [7], [], 0), (20, [7, 0], [1], 13), (23, [0], [1], 12), (90, [7], [], 0), (91, [7], [], 2), (41, [5, 6], [], 0), (0, [6], [], 12), (22, [5, 3, 4], [1], 0), (90, [5], [], 0), (91, [5], [], 12), (20, [4, 0], [1], 35), (23, [0], [1], 12), (90, [4], [], 0), (91, [4], [], 1), (20, [3, 0], [1], 36), (23, [0], [1], 12), (0, [3], [], 306), (31, [2], [], 0), (1216, [2, 0, 1], [0, 1], 0), (90, [2], [], 0), (91, [2], [], 1), (0, [1], [], 42), (6000, [0], [0], 0), (0, [0], [], 285)], (3000, [], [1], 52))
theorem c_232y_s_1 : vOkm T0 (eN e_232w L_232y (eAB A_232 B_232) mu_232 y_232 By_232 none) 1 g_232y_s_1 := vOk_inI fun ρ η f0 f1 f2 f3 f4 f5 f6 f7 f8 f9 f10 f11 f12 f13 f14 f15 f16 f17 f18 f19 f20 f21 f22 f23 => q_232y_1 (n0 := ρ 0) (n1 := ρ 1) (n2 := ρ 2) (n3 := ρ 3) (n4 := ρ 4) (n5 := ρ 5) (n6 := ρ 6) (n7 := ρ 7) (H0 := η 0) (H1 := η 1) f23 f22 f21 f20 f19 f18 f17 f16 f15 f14 f13 f12 f11 f10 f9 f8 f7 f6 f5 f4 f3 f2 f1 f0
theorem q_232y_2 {n0 n1 n2 n3 n4 n5 n6 n7 n8 : Int} {H0 H1 H2 : gH} (f0 : n0 = 285) (f1 : hWt T0 H0 ∧ preb_232 n0 H0) (f2 : n1 = 42) (f3 : n2 ≤ 1) (f4 : 0 ≤ n2) (f5 : (hLe T0 H0 H1 ∧ hFr s_216.2.2.2.2 H0 H1 ∧ ((0 : Int) = 0 → H1.length = H0.length) ∧ hWt T0 H1) ∧ postb_216 n2 n0 n1 H0 H1) (f6 : n2 ≠ 0) (f7 : n3 = 306) (f8 : hK H1 (n0).toNat = 12) (f9 : n3 = hV H1 (n0).toNat 36) (f10 : n4 ≤ 1) (f11 : 0 ≤ n4) (f12 : hK H1 (n0).toNat = 12) (f13 : n4 = hV H1 (n0).toNat 35) (f14 : n5 ≤ 12) (f15 : 0 ≤ n5) (f16 : n5 = hV H1 (n3).toNat (n4).toNat) (f17 : n6 = 12) (f18 : n5 = n6) (f19 : n7 = 2) (f20 : (hLe T0 H1 H2 ∧ hFr s_217.2.2.2.2 H1 H2 ∧ ((0 : Int) = 0 → H2.length = H1.length) ∧ hWt T0 H2) ∧ (postb_217 n0 n7 H1 H2 ∧ nb_217 n0 n7 H1 H2)) (f21 : n8 ≤ 2) (f22 : 0 ≤ n8) (f23 : hK H2 (n0).toNat = 12) (f24 : n8 = hV H2 (n0).toNat 13) (f25 : n8 ≤ 0) : Byb_232_53 n0 n0 H0 H2 := by
  unfold Byb_232_53
  intro z s0 l0
  have d13 := rdS (q := 285) f13 f0
  have d16 := rdW (q := 306) f16 f7
  have d24 := rdS (q := 285) f24 f0
  have q6 := f6
  have q18 := f18
  have qc17 := f17
  have q25 := f25
  have p0 := PR_fr f5.1.2.1 (by decide +kernel) z
  have v0 : vwR H1 = vwR H0 := p0.2.1
  have ah0 : absR H1 = (absR H0) := p0.1
  have i0 := f5.2
  unfold postb_216 at i0
  rw [f2] at i0
  have cm0 := f6
  have b0 := (isR_or (k := 42) p0.2.2.1 (by decide) i0).resolve_right (fun w => cm0 w.1)
  replace b0 := b0.2
  rw [v0, ah0, kmc_42] at b0
  have c1 := f20.2.2 p0.2.2.1
  try rw [f19] at c1
  rw [v0, ah0] at c1
  have v1 : vwR H2 = vwR H0 := (vwR_fr f20.1.2.1 (by decide +kernel)).trans v0
  exfalso
  have hn := pfailR_lt z (f := 2) (p := absR H0) (by decide)
  have hz := faultR_of c1.1 (by rw [c1.2]; exact hn)
  have lo := c1.1.2.2.2.1
  omega
def g_232y_s_2 : vG := ([(35, [8], [], 0), (20, [8, 0], [2], 13), (23, [0], [2], 12), (90, [8], [], 0), (91, [8], [], 2), (1217, [0, 7], [1, 2], 0), (0, [7], [], 2), (40, [5, 6], [], 0), (0, [6], [], 12), (22, [5, 3, 4], [1], 0), (90, [5], [], 0), (91, [5], [], 12), (20, [4, 0], [1], 35), (23, [0], [1], 12), (90, [4], [], 0), (91, [4], [], 1), (20, [3, 0], [1], 36), (23, [0], [1], 12), (0, [3], [], 306), (31, [2], [], 0), (1216, [2, 0, 1], [0, 1], 0), (90, [2], [], 0), (91, [2], [], 1), (0, [1], [], 42), (6000, [0], [0], 0), (0, [0], [], 285)], (4000, [0], [2], 53))
theorem c_232y_s_2 : vOkm T0 (eN e_232w L_232y (eAB A_232 B_232) mu_232 y_232 By_232 none) 1 g_232y_s_2 := vOk_inI fun ρ η f0 f1 f2 f3 f4 f5 f6 f7 f8 f9 f10 f11 f12 f13 f14 f15 f16 f17 f18 f19 f20 f21 f22 f23 f24 f25 => q_232y_2 (n0 := ρ 0) (n1 := ρ 1) (n2 := ρ 2) (n3 := ρ 3) (n4 := ρ 4) (n5 := ρ 5) (n6 := ρ 6) (n7 := ρ 7) (n8 := ρ 8) (H0 := η 0) (H1 := η 1) (H2 := η 2) f25 f24 f23 f22 f21 f20 f19 f18 f17 f16 f15 f14 f13 f12 f11 f10 f9 f8 f7 f6 f5 f4 f3 f2 f1 f0
theorem q_232y_3 {n0 n1 n2 n3 n4 n5 n6 n7 n8 : Int} {H0 H1 H2 : gH} (f0 : n0 = 285) (f1 : hWt T0 H0 ∧ preb_232 n0 H0) (f2 : n1 = 42) (f3 : n2 ≤ 1) (f4 : 0 ≤ n2) (f5 : (hLe T0 H0 H1 ∧ hFr s_216.2.2.2.2 H0 H1 ∧ ((0 : Int) = 0 → H1.length = H0.length) ∧ hWt T0 H1) ∧ postb_216 n2 n0 n1 H0 H1) (f6 : n2 ≠ 0) (f7 : n3 = 306) (f8 : hK H1 (n0).toNat = 12) (f9 : n3 = hV H1 (n0).toNat 36) (f10 : n4 ≤ 1) (f11 : 0 ≤ n4) (f12 : hK H1 (n0).toNat = 12) (f13 : n4 = hV H1 (n0).toNat 35) (f14 : n5 ≤ 12) (f15 : 0 ≤ n5) (f16 : n5 = hV H1 (n3).toNat (n4).toNat) (f17 : n6 = 12) (f18 : n5 = n6) (f19 : n7 = 2) (f20 : (hLe T0 H1 H2 ∧ hFr s_217.2.2.2.2 H1 H2 ∧ ((0 : Int) = 0 → H2.length = H1.length) ∧ hWt T0 H2) ∧ (postb_217 n0 n7 H1 H2 ∧ nb_217 n0 n7 H1 H2)) (f21 : n8 ≤ 2) (f22 : 0 ≤ n8) (f23 : hK H2 (n0).toNat = 12) (f24 : n8 = hV H2 (n0).toNat 13) (f25 : 0 < n8) : yb_232 n0 H0 H2 := by
  unfold yb_232
  intro z s0 l0
  have d13 := rdS (q := 285) f13 f0
  have d16 := rdW (q := 306) f16 f7
  have d24 := rdS (q := 285) f24 f0
  have q6 := f6
  have q18 := f18
  have qc17 := f17
  have q25 := f25
  have p0 := PR_fr f5.1.2.1 (by decide +kernel) z
  have v0 : vwR H1 = vwR H0 := p0.2.1
  have ah0 : absR H1 = (absR H0) := p0.1
  have i0 := f5.2
  unfold postb_216 at i0
  rw [f2] at i0
  have cm0 := f6
  have b0 := (isR_or (k := 42) p0.2.2.1 (by decide) i0).resolve_right (fun w => cm0 w.1)
  replace b0 := b0.2
  rw [v0, ah0, kmc_42] at b0
  have c1 := f20.2.2 p0.2.2.1
  try rw [f19] at c1
  rw [v0, ah0] at c1
  have v1 : vwR H2 = vwR H0 := (vwR_fr f20.1.2.1 (by decide +kernel)).trans v0
  have zz : ZRs H0 H2 := (ZRs_tr (ZRs_fr f5.1.2.1 (by decide +kernel)) (ZRs_fr f20.1.2.1 (by decide +kernel)))
  refine ⟨KPc_x (XRk_tr (XRk_fr f5.1.2.1 (by decide +kernel)) (XRk_fr f20.1.2.1 (by decide +kernel))), KPl_y (YRs_tr (YRs_fr f5.1.2.1 (by decide +kernel)) (YRs_fr f20.1.2.1 (by decide +kernel))), fun q q1 q2 i _ => by rw [zz q (by omega) q2], fun i _ => by rw [zz 306 (by decide) (by decide)], fun hp => ?_⟩
  exfalso
  rw [c1.2] at hp
  have := pfailR_lt z (f := 2) (p := absR H0) (by decide)
  omega
def g_232y_s_3 : vG := ([(34, [8], [], 0), (20, [8, 0], [2], 13), (23, [0], [2], 12), (90, [8], [], 0), (91, [8], [], 2), (1217, [0, 7], [1, 2], 0), (0, [7], [], 2), (40, [5, 6], [], 0), (0, [6], [], 12), (22, [5, 3, 4], [1], 0), (90, [5], [], 0), (91, [5], [], 12), (20, [4, 0], [1], 35), (23, [0], [1], 12), (90, [4], [], 0), (91, [4], [], 1), (20, [3, 0], [1], 36), (23, [0], [1], 12), (0, [3], [], 306), (31, [2], [], 0), (1216, [2, 0, 1], [0, 1], 0), (90, [2], [], 0), (91, [2], [], 1), (0, [1], [], 42), (6000, [0], [0], 0), (0, [0], [], 285)], (3000, [], [2], 52))
theorem c_232y_s_3 : vOkm T0 (eN e_232w L_232y (eAB A_232 B_232) mu_232 y_232 By_232 none) 1 g_232y_s_3 := vOk_inI fun ρ η f0 f1 f2 f3 f4 f5 f6 f7 f8 f9 f10 f11 f12 f13 f14 f15 f16 f17 f18 f19 f20 f21 f22 f23 f24 f25 => q_232y_3 (n0 := ρ 0) (n1 := ρ 1) (n2 := ρ 2) (n3 := ρ 3) (n4 := ρ 4) (n5 := ρ 5) (n6 := ρ 6) (n7 := ρ 7) (n8 := ρ 8) (H0 := η 0) (H1 := η 1) (H2 := η 2) f25 f24 f23 f22 f21 f20 f19 f18 f17 f16 f15 f14 f13 f12 f11 f10 f9 f8 f7 f6 f5 f4 f3 f2 f1 f0
theorem q_232y_4 {n0 n1 n2 n3 n4 n5 n6 n7 n8 n9 : Int} {H0 H1 H2 : gH} (f0 : n0 = 285) (f1 : hWt T0 H0 ∧ preb_232 n0 H0) (f2 : n1 = 42) (f3 : n2 ≤ 1) (f4 : 0 ≤ n2) (f5 : (hLe T0 H0 H1 ∧ hFr s_216.2.2.2.2 H0 H1 ∧ ((0 : Int) = 0 → H1.length = H0.length) ∧ hWt T0 H1) ∧ postb_216 n2 n0 n1 H0 H1) (f6 : n2 = 0) (f7 : n3 = 44) (f8 : n4 ≤ 1) (f9 : 0 ≤ n4) (f10 : (hLe T0 H1 H2 ∧ hFr s_216.2.2.2.2 H1 H2 ∧ ((0 : Int) = 0 → H2.length = H1.length) ∧ hWt T0 H2) ∧ postb_216 n4 n0 n3 H1 H2) (f11 : n4 ≠ 0) (f12 : n5 = 306) (f13 : hK H2 (n0).toNat = 12) (f14 : n5 = hV H2 (n0).toNat 36) (f15 : n6 ≤ 1) (f16 : 0 ≤ n6) (f17 : hK H2 (n0).toNat = 12) (f18 : n6 = hV H2 (n0).toNat 35) (f19 : n7 ≤ 12) (f20 : 0 ≤ n7) (f21 : n7 = hV H2 (n5).toNat (n6).toNat) (f22 : n8 = 12) (f23 : n7 ≠ n8) (f24 : n9 ≤ 2) (f25 : 0 ≤ n9) (f26 : hK H2 (n0).toNat = 12) (f27 : n9 = hV H2 (n0).toNat 13) (f28 : n9 ≤ 0) : Byb_232_53 n0 n0 H0 H2 := by
  unfold Byb_232_53
  intro z s0 l0
  have d18 := rdS (q := 285) f18 f0
  have d21 := rdW (q := 306) f21 f12
  have d27 := rdS (q := 285) f27 f0
  have q6 := f6
  have q11 := f11
  have q23 := f23
  have qc22 := f22
  have q28 := f28
  have p0 := PR_fr f5.1.2.1 (by decide +kernel) z
  have v0 : vwR H1 = vwR H0 := p0.2.1
  have ah0 : absR H1 = (absR H0) := p0.1
  have i0 := f5.2
  unfold postb_216 at i0
  rw [f2] at i0
  have cm0 := f6
  have b0 := (isR_or (k := 42) p0.2.2.1 (by decide) i0).resolve_left (fun w => absurd (w.1.symm.trans cm0) (by decide))
  replace b0 := b0.2
  rw [v0, ah0, kmc_42] at b0
  have p1 := PR_fr f10.1.2.1 (by decide +kernel) p0.2.2.1
  have v1 : vwR H2 = vwR H0 := p1.2.1.trans v0
  have ah1 : absR H2 = (absR H0) := p1.1.trans ah0
  have i1 := f10.2
  unfold postb_216 at i1
  rw [f7] at i1
  have cm1 := f11
  have b1 := (isR_or (k := 44) p1.2.2.1 (by decide) i1).resolve_right (fun w => cm1 w.1)
  replace b1 := b1.2
  rw [v1, ah1, kmc_44] at b1
  exact ⟨(XRk_tr (XRk_fr f5.1.2.1 (by decide +kernel)) (XRk_fr f10.1.2.1 (by decide +kernel))), (YRs_tr (YRs_fr f5.1.2.1 (by decide +kernel)) (YRs_fr f10.1.2.1 (by decide +kernel))), (ZRs_tr (ZRs_fr f5.1.2.1 (by decide +kernel)) (ZRs_fr f10.1.2.1 (by decide +kernel)))⟩
def g_232y_s_4 : vG := ([(35, [9], [], 0), (20, [9, 0], [2], 13), (23, [0], [2], 12), (90, [9], [], 0), (91, [9], [], 2), (41, [7, 8], [], 0), (0, [8], [], 12), (22, [7, 5, 6], [2], 0), (90, [7], [], 0), (91, [7], [], 12), (20, [6, 0], [2], 35), (23, [0], [2], 12), (90, [6], [], 0), (91, [6], [], 1), (20, [5, 0], [2], 36), (23, [0], [2], 12), (0, [5], [], 306), (31, [4], [], 0), (1216, [4, 0, 3], [1, 2], 0), (90, [4], [], 0), (91, [4], [], 1), (0, [3], [], 44), (30, [2], [], 0), (1216, [2, 0, 1], [0, 1], 0), (90, [2], [], 0), (91, [2], [], 1), (0, [1], [], 42), (6000, [0], [0], 0), (0, [0], [], 285)], (4000, [0], [2], 53))
theorem c_232y_s_4 : vOkm T0 (eN e_232w L_232y (eAB A_232 B_232) mu_232 y_232 By_232 none) 1 g_232y_s_4 := vOk_inI fun ρ η f0 f1 f2 f3 f4 f5 f6 f7 f8 f9 f10 f11 f12 f13 f14 f15 f16 f17 f18 f19 f20 f21 f22 f23 f24 f25 f26 f27 f28 => q_232y_4 (n0 := ρ 0) (n1 := ρ 1) (n2 := ρ 2) (n3 := ρ 3) (n4 := ρ 4) (n5 := ρ 5) (n6 := ρ 6) (n7 := ρ 7) (n8 := ρ 8) (n9 := ρ 9) (H0 := η 0) (H1 := η 1) (H2 := η 2) f28 f27 f26 f25 f24 f23 f22 f21 f20 f19 f18 f17 f16 f15 f14 f13 f12 f11 f10 f9 f8 f7 f6 f5 f4 f3 f2 f1 f0
theorem q_232y_5 {n0 n1 n2 n3 n4 n5 n6 n7 n8 n9 : Int} {H0 H1 H2 : gH} (f0 : n0 = 285) (f1 : hWt T0 H0 ∧ preb_232 n0 H0) (f2 : n1 = 42) (f3 : n2 ≤ 1) (f4 : 0 ≤ n2) (f5 : (hLe T0 H0 H1 ∧ hFr s_216.2.2.2.2 H0 H1 ∧ ((0 : Int) = 0 → H1.length = H0.length) ∧ hWt T0 H1) ∧ postb_216 n2 n0 n1 H0 H1) (f6 : n2 = 0) (f7 : n3 = 44) (f8 : n4 ≤ 1) (f9 : 0 ≤ n4) (f10 : (hLe T0 H1 H2 ∧ hFr s_216.2.2.2.2 H1 H2 ∧ ((0 : Int) = 0 → H2.length = H1.length) ∧ hWt T0 H2) ∧ postb_216 n4 n0 n3 H1 H2) (f11 : n4 ≠ 0) (f12 : n5 = 306) (f13 : hK H2 (n0).toNat = 12) (f14 : n5 = hV H2 (n0).toNat 36) (f15 : n6 ≤ 1) (f16 : 0 ≤ n6) (f17 : hK H2 (n0).toNat = 12) (f18 : n6 = hV H2 (n0).toNat 35) (f19 : n7 ≤ 12) (f20 : 0 ≤ n7) (f21 : n7 = hV H2 (n5).toNat (n6).toNat) (f22 : n8 = 12) (f23 : n7 ≠ n8) (f24 : n9 ≤ 2) (f25 : 0 ≤ n9) (f26 : hK H2 (n0).toNat = 12) (f27 : n9 = hV H2 (n0).toNat 13) (f28 : 0 < n9) : yb_232 n0 H0 H2 := by
  unfold yb_232
  intro z s0 l0
  have d18 := rdS (q := 285) f18 f0
  have d21 := rdW (q := 306) f21 f12
  have d27 := rdS (q := 285) f27 f0
  have q6 := f6
  have q11 := f11
  have q23 := f23
  have qc22 := f22
  have q28 := f28
  have p0 := PR_fr f5.1.2.1 (by decide +kernel) z
  have v0 : vwR H1 = vwR H0 := p0.2.1
  have ah0 : absR H1 = (absR H0) := p0.1
  have i0 := f5.2
  unfold postb_216 at i0
  rw [f2] at i0
  have cm0 := f6
  have b0 := (isR_or (k := 42) p0.2.2.1 (by decide) i0).resolve_left (fun w => absurd (w.1.symm.trans cm0) (by decide))
  replace b0 := b0.2
  rw [v0, ah0, kmc_42] at b0
  have p1 := PR_fr f10.1.2.1 (by decide +kernel) p0.2.2.1
  have v1 : vwR H2 = vwR H0 := p1.2.1.trans v0
  have ah1 : absR H2 = (absR H0) := p1.1.trans ah0
  have i1 := f10.2
  unfold postb_216 at i1
  rw [f7] at i1
  have cm1 := f11
  have b1 := (isR_or (k := 44) p1.2.2.1 (by decide) i1).resolve_right (fun w => cm1 w.1)
  replace b1 := b1.2
  rw [v1, ah1, kmc_44] at b1
  have zz : ZRs H0 H2 := (ZRs_tr (ZRs_fr f5.1.2.1 (by decide +kernel)) (ZRs_fr f10.1.2.1 (by decide +kernel)))
  refine ⟨KPc_x (XRk_tr (XRk_fr f5.1.2.1 (by decide +kernel)) (XRk_fr f10.1.2.1 (by decide +kernel))), KPl_y (YRs_tr (YRs_fr f5.1.2.1 (by decide +kernel)) (YRs_fr f10.1.2.1 (by decide +kernel))), fun q q1 q2 i _ => by rw [zz q (by omega) q2], fun i _ => by rw [zz 306 (by decide) (by decide)], fun hp => ?_⟩
  exfalso
  have := absR_neg p1.2.2.1 (by omega)
  omega
def g_232y_s_5 : vG := ([(34, [9], [], 0), (20, [9, 0], [2], 13), (23, [0], [2], 12), (90, [9], [], 0), (91, [9], [], 2), (41, [7, 8], [], 0), (0, [8], [], 12), (22, [7, 5, 6], [2], 0), (90, [7], [], 0), (91, [7], [], 12), (20, [6, 0], [2], 35), (23, [0], [2], 12), (90, [6], [], 0), (91, [6], [], 1), (20, [5, 0], [2], 36), (23, [0], [2], 12), (0, [5], [], 306), (31, [4], [], 0), (1216, [4, 0, 3], [1, 2], 0), (90, [4], [], 0), (91, [4], [], 1), (0, [3], [], 44), (30, [2], [], 0), (1216, [2, 0, 1], [0, 1], 0), (90, [2], [], 0), (91, [2], [], 1), (0, [1], [], 42), (6000, [0], [0], 0), (0, [0], [], 285)], (3000, [], [2], 52))
theorem c_232y_s_5 : vOkm T0 (eN e_232w L_232y (eAB A_232 B_232) mu_232 y_232 By_232 none) 1 g_232y_s_5 := vOk_inI fun ρ η f0 f1 f2 f3 f4 f5 f6 f7 f8 f9 f10 f11 f12 f13 f14 f15 f16 f17 f18 f19 f20 f21 f22 f23 f24 f25 f26 f27 f28 => q_232y_5 (n0 := ρ 0) (n1 := ρ 1) (n2 := ρ 2) (n3 := ρ 3) (n4 := ρ 4) (n5 := ρ 5) (n6 := ρ 6) (n7 := ρ 7) (n8 := ρ 8) (n9 := ρ 9) (H0 := η 0) (H1 := η 1) (H2 := η 2) f28 f27 f26 f25 f24 f23 f22 f21 f20 f19 f18 f17 f16 f15 f14 f13 f12 f11 f10 f9 f8 f7 f6 f5 f4 f3 f2 f1 f0
theorem q_232y_6 {n0 n1 n2 n3 n4 n5 n6 n7 n8 n9 n10 : Int} {H0 H1 H2 H3 : gH} (f0 : n0 = 285) (f1 : hWt T0 H0 ∧ preb_232 n0 H0) (f2 : n1 = 42) (f3 : n2 ≤ 1) (f4 : 0 ≤ n2) (f5 : (hLe T0 H0 H1 ∧ hFr s_216.2.2.2.2 H0 H1 ∧ ((0 : Int) = 0 → H1.length = H0.length) ∧ hWt T0 H1) ∧ postb_216 n2 n0 n1 H0 H1) (f6 : n2 = 0) (f7 : n3 = 44) (f8 : n4 ≤ 1) (f9 : 0 ≤ n4) (f10 : (hLe T0 H1 H2 ∧ hFr s_216.2.2.2.2 H1 H2 ∧ ((0 : Int) = 0 → H2.length = H1.length) ∧ hWt T0 H2) ∧ postb_216 n4 n0 n3 H1 H2) (f11 : n4 ≠ 0) (f12 : n5 = 306) (f13 : hK H2 (n0).toNat = 12) (f14 : n5 = hV H2 (n0).toNat 36) (f15 : n6 ≤ 1) (f16 : 0 ≤ n6) (f17 : hK H2 (n0).toNat = 12) (f18 : n6 = hV H2 (n0).toNat 35) (f19 : n7 ≤ 12) (f20 : 0 ≤ n7) (f21 : n7 = hV H2 (n5).toNat (n6).toNat) (f22 : n8 = 12) (f23 : n7 = n8) (f24 : n9 = 2) (f25 : (hLe T0 H2 H3 ∧ hFr s_217.2.2.2.2 H2 H3 ∧ ((0 : Int) = 0 → H3.length = H2.length) ∧ hWt T0 H3) ∧ (postb_217 n0 n9 H2 H3 ∧ nb_217 n0 n9 H2 H3)) (f26 : n10 ≤ 2) (f27 : 0 ≤ n10) (f28 : hK H3 (n0).toNat = 12) (f29 : n10 = hV H3 (n0).toNat 13) (f30 : n10 ≤ 0) : Byb_232_53 n0 n0 H0 H3 := by
  unfold Byb_232_53
  intro z s0 l0
  have d18 := rdS (q := 285) f18 f0
  have d21 := rdW (q := 306) f21 f12
  have d29 := rdS (q := 285) f29 f0
  have q6 := f6
  have q11 := f11
  have q23 := f23
  have qc22 := f22
  have q30 := f30
  have p0 := PR_fr f5.1.2.1 (by decide +kernel) z
  have v0 : vwR H1 = vwR H0 := p0.2.1
  have ah0 : absR H1 = (absR H0) := p0.1
  have i0 := f5.2
  unfold postb_216 at i0
  rw [f2] at i0
  have cm0 := f6
  have b0 := (isR_or (k := 42) p0.2.2.1 (by decide) i0).resolve_left (fun w => absurd (w.1.symm.trans cm0) (by decide))
  replace b0 := b0.2
  rw [v0, ah0, kmc_42] at b0
  have p1 := PR_fr f10.1.2.1 (by decide +kernel) p0.2.2.1
  have v1 : vwR H2 = vwR H0 := p1.2.1.trans v0
  have ah1 : absR H2 = (absR H0) := p1.1.trans ah0
  have i1 := f10.2
  unfold postb_216 at i1
  rw [f7] at i1
  have cm1 := f11
  have b1 := (isR_or (k := 44) p1.2.2.1 (by decide) i1).resolve_right (fun w => cm1 w.1)
  replace b1 := b1.2
  rw [v1, ah1, kmc_44] at b1
  have c2 := f25.2.2 p1.2.2.1
  try rw [f24] at c2
  rw [v1, ah1] at c2
  have v2 : vwR H3 = vwR H0 := (vwR_fr f25.1.2.1 (by decide +kernel)).trans v1
  exfalso
  have hn := pfailR_lt z (f := 2) (p := absR H0) (by decide)
  have hz := faultR_of c2.1 (by rw [c2.2]; exact hn)
  have lo := c2.1.2.2.2.1
  omega
def g_232y_s_6 : vG := ([(35, [10], [], 0), (20, [10, 0], [3], 13), (23, [0], [3], 12), (90, [10], [], 0), (91, [10], [], 2), (1217, [0, 9], [2, 3], 0), (0, [9], [], 2), (40, [7, 8], [], 0), (0, [8], [], 12), (22, [7, 5, 6], [2], 0), (90, [7], [], 0), (91, [7], [], 12), (20, [6, 0], [2], 35), (23, [0], [2], 12), (90, [6], [], 0), (91, [6], [], 1), (20, [5, 0], [2], 36), (23, [0], [2], 12), (0, [5], [], 306), (31, [4], [], 0), (1216, [4, 0, 3], [1, 2], 0), (90, [4], [], 0), (91, [4], [], 1), (0, [3], [], 44), (30, [2], [], 0), (1216, [2, 0, 1], [0, 1], 0), (90, [2], [], 0), (91, [2], [], 1), (0, [1], [], 42), (6000, [0], [0], 0), (0, [0], [], 285)], (4000, [0], [3], 53))
theorem c_232y_s_6 : vOkm T0 (eN e_232w L_232y (eAB A_232 B_232) mu_232 y_232 By_232 none) 1 g_232y_s_6 := vOk_inI fun ρ η f0 f1 f2 f3 f4 f5 f6 f7 f8 f9 f10 f11 f12 f13 f14 f15 f16 f17 f18 f19 f20 f21 f22 f23 f24 f25 f26 f27 f28 f29 f30 => q_232y_6 (n0 := ρ 0) (n1 := ρ 1) (n2 := ρ 2) (n3 := ρ 3) (n4 := ρ 4) (n5 := ρ 5) (n6 := ρ 6) (n7 := ρ 7) (n8 := ρ 8) (n9 := ρ 9) (n10 := ρ 10) (H0 := η 0) (H1 := η 1) (H2 := η 2) (H3 := η 3) f30 f29 f28 f27 f26 f25 f24 f23 f22 f21 f20 f19 f18 f17 f16 f15 f14 f13 f12 f11 f10 f9 f8 f7 f6 f5 f4 f3 f2 f1 f0
theorem q_232y_7 {n0 n1 n2 n3 n4 n5 n6 n7 n8 n9 n10 : Int} {H0 H1 H2 H3 : gH} (f0 : n0 = 285) (f1 : hWt T0 H0 ∧ preb_232 n0 H0) (f2 : n1 = 42) (f3 : n2 ≤ 1) (f4 : 0 ≤ n2) (f5 : (hLe T0 H0 H1 ∧ hFr s_216.2.2.2.2 H0 H1 ∧ ((0 : Int) = 0 → H1.length = H0.length) ∧ hWt T0 H1) ∧ postb_216 n2 n0 n1 H0 H1) (f6 : n2 = 0) (f7 : n3 = 44) (f8 : n4 ≤ 1) (f9 : 0 ≤ n4) (f10 : (hLe T0 H1 H2 ∧ hFr s_216.2.2.2.2 H1 H2 ∧ ((0 : Int) = 0 → H2.length = H1.length) ∧ hWt T0 H2) ∧ postb_216 n4 n0 n3 H1 H2) (f11 : n4 ≠ 0) (f12 : n5 = 306) (f13 : hK H2 (n0).toNat = 12) (f14 : n5 = hV H2 (n0).toNat 36) (f15 : n6 ≤ 1) (f16 : 0 ≤ n6) (f17 : hK H2 (n0).toNat = 12) (f18 : n6 = hV H2 (n0).toNat 35) (f19 : n7 ≤ 12) (f20 : 0 ≤ n7) (f21 : n7 = hV H2 (n5).toNat (n6).toNat) (f22 : n8 = 12) (f23 : n7 = n8) (f24 : n9 = 2) (f25 : (hLe T0 H2 H3 ∧ hFr s_217.2.2.2.2 H2 H3 ∧ ((0 : Int) = 0 → H3.length = H2.length) ∧ hWt T0 H3) ∧ (postb_217 n0 n9 H2 H3 ∧ nb_217 n0 n9 H2 H3)) (f26 : n10 ≤ 2) (f27 : 0 ≤ n10) (f28 : hK H3 (n0).toNat = 12) (f29 : n10 = hV H3 (n0).toNat 13) (f30 : 0 < n10) : yb_232 n0 H0 H3 := by
  unfold yb_232
  intro z s0 l0
  have d18 := rdS (q := 285) f18 f0
  have d21 := rdW (q := 306) f21 f12
  have d29 := rdS (q := 285) f29 f0
  have q6 := f6
  have q11 := f11
  have q23 := f23
  have qc22 := f22
  have q30 := f30
  have p0 := PR_fr f5.1.2.1 (by decide +kernel) z
  have v0 : vwR H1 = vwR H0 := p0.2.1
  have ah0 : absR H1 = (absR H0) := p0.1
  have i0 := f5.2
  unfold postb_216 at i0
  rw [f2] at i0
  have cm0 := f6
  have b0 := (isR_or (k := 42) p0.2.2.1 (by decide) i0).resolve_left (fun w => absurd (w.1.symm.trans cm0) (by decide))
  replace b0 := b0.2
  rw [v0, ah0, kmc_42] at b0
  have p1 := PR_fr f10.1.2.1 (by decide +kernel) p0.2.2.1
  have v1 : vwR H2 = vwR H0 := p1.2.1.trans v0
  have ah1 : absR H2 = (absR H0) := p1.1.trans ah0
  have i1 := f10.2
  unfold postb_216 at i1
  rw [f7] at i1
  have cm1 := f11
  have b1 := (isR_or (k := 44) p1.2.2.1 (by decide) i1).resolve_right (fun w => cm1 w.1)
  replace b1 := b1.2
  rw [v1, ah1, kmc_44] at b1
  have c2 := f25.2.2 p1.2.2.1
  try rw [f24] at c2
  rw [v1, ah1] at c2
  have v2 : vwR H3 = vwR H0 := (vwR_fr f25.1.2.1 (by decide +kernel)).trans v1
  have zz : ZRs H0 H3 := (ZRs_tr (ZRs_fr f5.1.2.1 (by decide +kernel)) (ZRs_tr (ZRs_fr f10.1.2.1 (by decide +kernel)) (ZRs_fr f25.1.2.1 (by decide +kernel))))
  refine ⟨KPc_x (XRk_tr (XRk_fr f5.1.2.1 (by decide +kernel)) (XRk_tr (XRk_fr f10.1.2.1 (by decide +kernel)) (XRk_fr f25.1.2.1 (by decide +kernel)))), KPl_y (YRs_tr (YRs_fr f5.1.2.1 (by decide +kernel)) (YRs_tr (YRs_fr f10.1.2.1 (by decide +kernel)) (YRs_fr f25.1.2.1 (by decide +kernel)))), fun q q1 q2 i _ => by rw [zz q (by omega) q2], fun i _ => by rw [zz 306 (by decide) (by decide)], fun hp => ?_⟩
  exfalso
  rw [c2.2] at hp
  have := pfailR_lt z (f := 2) (p := absR H0) (by decide)
  omega
def g_232y_s_7 : vG := ([(34, [10], [], 0), (20, [10, 0], [3], 13), (23, [0], [3], 12), (90, [10], [], 0), (91, [10], [], 2), (1217, [0, 9], [2, 3], 0), (0, [9], [], 2), (40, [7, 8], [], 0), (0, [8], [], 12), (22, [7, 5, 6], [2], 0), (90, [7], [], 0), (91, [7], [], 12), (20, [6, 0], [2], 35), (23, [0], [2], 12), (90, [6], [], 0), (91, [6], [], 1), (20, [5, 0], [2], 36), (23, [0], [2], 12), (0, [5], [], 306), (31, [4], [], 0), (1216, [4, 0, 3], [1, 2], 0), (90, [4], [], 0), (91, [4], [], 1), (0, [3], [], 44), (30, [2], [], 0), (1216, [2, 0, 1], [0, 1], 0), (90, [2], [], 0), (91, [2], [], 1), (0, [1], [], 42), (6000, [0], [0], 0), (0, [0], [], 285)], (3000, [], [3], 52))
theorem c_232y_s_7 : vOkm T0 (eN e_232w L_232y (eAB A_232 B_232) mu_232 y_232 By_232 none) 1 g_232y_s_7 := vOk_inI fun ρ η f0 f1 f2 f3 f4 f5 f6 f7 f8 f9 f10 f11 f12 f13 f14 f15 f16 f17 f18 f19 f20 f21 f22 f23 f24 f25 f26 f27 f28 f29 f30 => q_232y_7 (n0 := ρ 0) (n1 := ρ 1) (n2 := ρ 2) (n3 := ρ 3) (n4 := ρ 4) (n5 := ρ 5) (n6 := ρ 6) (n7 := ρ 7) (n8 := ρ 8) (n9 := ρ 9) (n10 := ρ 10) (H0 := η 0) (H1 := η 1) (H2 := η 2) (H3 := η 3) f30 f29 f28 f27 f26 f25 f24 f23 f22 f21 f20 f19 f18 f17 f16 f15 f14 f13 f12 f11 f10 f9 f8 f7 f6 f5 f4 f3 f2 f1 f0
theorem q_232y_8 {n0 n1 n2 n3 n4 n5 n6 : Int} {H0 H1 H2 H3 : gH} (f0 : n0 = 285) (f1 : hWt T0 H0 ∧ preb_232 n0 H0) (f2 : n1 = 42) (f3 : n2 ≤ 1) (f4 : 0 ≤ n2) (f5 : (hLe T0 H0 H1 ∧ hFr s_216.2.2.2.2 H0 H1 ∧ ((0 : Int) = 0 → H1.length = H0.length) ∧ hWt T0 H1) ∧ postb_216 n2 n0 n1 H0 H1) (f6 : n2 = 0) (f7 : n3 = 44) (f8 : n4 ≤ 1) (f9 : 0 ≤ n4) (f10 : (hLe T0 H1 H2 ∧ hFr s_216.2.2.2.2 H1 H2 ∧ ((0 : Int) = 0 → H2.length = H1.length) ∧ hWt T0 H2) ∧ postb_216 n4 n0 n3 H1 H2) (f11 : n4 = 0) (f12 : n5 = 1) (f13 : (hLe T0 H2 H3 ∧ hFr s_217.2.2.2.2 H2 H3 ∧ ((0 : Int) = 0 → H3.length = H2.length) ∧ hWt T0 H3) ∧ (postb_217 n0 n5 H2 H3 ∧ nb_217 n0 n5 H2 H3)) (f14 : n6 ≤ 2) (f15 : 0 ≤ n6) (f16 : hK H3 (n0).toNat = 12) (f17 : n6 = hV H3 (n0).toNat 13) (f18 : n6 ≤ 0) : Byb_232_53 n0 n0 H0 H3 := by
  unfold Byb_232_53
  intro z s0 l0
  have d17 := rdS (q := 285) f17 f0
  have q6 := f6
  have q11 := f11
  have q18 := f18
  have p0 := PR_fr f5.1.2.1 (by decide +kernel) z
  have v0 : vwR H1 = vwR H0 := p0.2.1
  have ah0 : absR H1 = (absR H0) := p0.1
  have i0 := f5.2
  unfold postb_216 at i0
  rw [f2] at i0
  have cm0 := f6
  have b0 := (isR_or (k := 42) p0.2.2.1 (by decide) i0).resolve_left (fun w => absurd (w.1.symm.trans cm0) (by decide))
  replace b0 := b0.2
  rw [v0, ah0, kmc_42] at b0
  have p1 := PR_fr f10.1.2.1 (by decide +kernel) p0.2.2.1
  have v1 : vwR H2 = vwR H0 := p1.2.1.trans v0
  have ah1 : absR H2 = (absR H0) := p1.1.trans ah0
  have i1 := f10.2
  unfold postb_216 at i1
  rw [f7] at i1
  have cm1 := f11
  have b1 := (isR_or (k := 44) p1.2.2.1 (by decide) i1).resolve_left (fun w => absurd (w.1.symm.trans cm1) (by decide))
  replace b1 := b1.2
  rw [v1, ah1, kmc_44] at b1
  have c2 := f13.2.2 p1.2.2.1
  try rw [f12] at c2
  rw [v1, ah1] at c2
  have v2 : vwR H3 = vwR H0 := (vwR_fr f13.1.2.1 (by decide +kernel)).trans v1
  exfalso
  have hn := pfailR_lt z (f := 1) (p := absR H0) (by decide)
  have hz := faultR_of c2.1 (by rw [c2.2]; exact hn)
  have lo := c2.1.2.2.2.1
  omega
def g_232y_s_8 : vG := ([(35, [6], [], 0), (20, [6, 0], [3], 13), (23, [0], [3], 12), (90, [6], [], 0), (91, [6], [], 2), (1217, [0, 5], [2, 3], 0), (0, [5], [], 1), (30, [4], [], 0), (1216, [4, 0, 3], [1, 2], 0), (90, [4], [], 0), (91, [4], [], 1), (0, [3], [], 44), (30, [2], [], 0), (1216, [2, 0, 1], [0, 1], 0), (90, [2], [], 0), (91, [2], [], 1), (0, [1], [], 42), (6000, [0], [0], 0), (0, [0], [], 285)], (4000, [0], [3], 53))
theorem c_232y_s_8 : vOkm T0 (eN e_232w L_232y (eAB A_232 B_232) mu_232 y_232 By_232 none) 1 g_232y_s_8 := vOk_inI fun ρ η f0 f1 f2 f3 f4 f5 f6 f7 f8 f9 f10 f11 f12 f13 f14 f15 f16 f17 f18 => q_232y_8 (n0 := ρ 0) (n1 := ρ 1) (n2 := ρ 2) (n3 := ρ 3) (n4 := ρ 4) (n5 := ρ 5) (n6 := ρ 6) (H0 := η 0) (H1 := η 1) (H2 := η 2) (H3 := η 3) f18 f17 f16 f15 f14 f13 f12 f11 f10 f9 f8 f7 f6 f5 f4 f3 f2 f1 f0
theorem q_232y_9 {n0 n1 n2 n3 n4 n5 n6 : Int} {H0 H1 H2 H3 : gH} (f0 : n0 = 285) (f1 : hWt T0 H0 ∧ preb_232 n0 H0) (f2 : n1 = 42) (f3 : n2 ≤ 1) (f4 : 0 ≤ n2) (f5 : (hLe T0 H0 H1 ∧ hFr s_216.2.2.2.2 H0 H1 ∧ ((0 : Int) = 0 → H1.length = H0.length) ∧ hWt T0 H1) ∧ postb_216 n2 n0 n1 H0 H1) (f6 : n2 = 0) (f7 : n3 = 44) (f8 : n4 ≤ 1) (f9 : 0 ≤ n4) (f10 : (hLe T0 H1 H2 ∧ hFr s_216.2.2.2.2 H1 H2 ∧ ((0 : Int) = 0 → H2.length = H1.length) ∧ hWt T0 H2) ∧ postb_216 n4 n0 n3 H1 H2) (f11 : n4 = 0) (f12 : n5 = 1) (f13 : (hLe T0 H2 H3 ∧ hFr s_217.2.2.2.2 H2 H3 ∧ ((0 : Int) = 0 → H3.length = H2.length) ∧ hWt T0 H3) ∧ (postb_217 n0 n5 H2 H3 ∧ nb_217 n0 n5 H2 H3)) (f14 : n6 ≤ 2) (f15 : 0 ≤ n6) (f16 : hK H3 (n0).toNat = 12) (f17 : n6 = hV H3 (n0).toNat 13) (f18 : 0 < n6) : yb_232 n0 H0 H3 := by
  unfold yb_232
  intro z s0 l0
  have d17 := rdS (q := 285) f17 f0
  have q6 := f6
  have q11 := f11
  have q18 := f18
  have p0 := PR_fr f5.1.2.1 (by decide +kernel) z
  have v0 : vwR H1 = vwR H0 := p0.2.1
  have ah0 : absR H1 = (absR H0) := p0.1
  have i0 := f5.2
  unfold postb_216 at i0
  rw [f2] at i0
  have cm0 := f6
  have b0 := (isR_or (k := 42) p0.2.2.1 (by decide) i0).resolve_left (fun w => absurd (w.1.symm.trans cm0) (by decide))
  replace b0 := b0.2
  rw [v0, ah0, kmc_42] at b0
  have p1 := PR_fr f10.1.2.1 (by decide +kernel) p0.2.2.1
  have v1 : vwR H2 = vwR H0 := p1.2.1.trans v0
  have ah1 : absR H2 = (absR H0) := p1.1.trans ah0
  have i1 := f10.2
  unfold postb_216 at i1
  rw [f7] at i1
  have cm1 := f11
  have b1 := (isR_or (k := 44) p1.2.2.1 (by decide) i1).resolve_left (fun w => absurd (w.1.symm.trans cm1) (by decide))
  replace b1 := b1.2
  rw [v1, ah1, kmc_44] at b1
  have c2 := f13.2.2 p1.2.2.1
  try rw [f12] at c2
  rw [v1, ah1] at c2
  have v2 : vwR H3 = vwR H0 := (vwR_fr f13.1.2.1 (by decide +kernel)).trans v1
  have zz : ZRs H0 H3 := (ZRs_tr (ZRs_fr f5.1.2.1 (by decide +kernel)) (ZRs_tr (ZRs_fr f10.1.2.1 (by decide +kernel)) (ZRs_fr f13.1.2.1 (by decide +kernel))))
  refine ⟨KPc_x (XRk_tr (XRk_fr f5.1.2.1 (by decide +kernel)) (XRk_tr (XRk_fr f10.1.2.1 (by decide +kernel)) (XRk_fr f13.1.2.1 (by decide +kernel)))), KPl_y (YRs_tr (YRs_fr f5.1.2.1 (by decide +kernel)) (YRs_tr (YRs_fr f10.1.2.1 (by decide +kernel)) (YRs_fr f13.1.2.1 (by decide +kernel)))), fun q q1 q2 i _ => by rw [zz q (by omega) q2], fun i _ => by rw [zz 306 (by decide) (by decide)], fun hp => ?_⟩
  exfalso
  rw [c2.2] at hp
  have := pfailR_lt z (f := 1) (p := absR H0) (by decide)
  omega
def g_232y_s_9 : vG := ([(34, [6], [], 0), (20, [6, 0], [3], 13), (23, [0], [3], 12), (90, [6], [], 0), (91, [6], [], 2), (1217, [0, 5], [2, 3], 0), (0, [5], [], 1), (30, [4], [], 0), (1216, [4, 0, 3], [1, 2], 0), (90, [4], [], 0), (91, [4], [], 1), (0, [3], [], 44), (30, [2], [], 0), (1216, [2, 0, 1], [0, 1], 0), (90, [2], [], 0), (91, [2], [], 1), (0, [1], [], 42), (6000, [0], [0], 0), (0, [0], [], 285)], (3000, [], [3], 52))
theorem c_232y_s_9 : vOkm T0 (eN e_232w L_232y (eAB A_232 B_232) mu_232 y_232 By_232 none) 1 g_232y_s_9 := vOk_inI fun ρ η f0 f1 f2 f3 f4 f5 f6 f7 f8 f9 f10 f11 f12 f13 f14 f15 f16 f17 f18 => q_232y_9 (n0 := ρ 0) (n1 := ρ 1) (n2 := ρ 2) (n3 := ρ 3) (n4 := ρ 4) (n5 := ρ 5) (n6 := ρ 6) (H0 := η 0) (H1 := η 1) (H2 := η 2) (H3 := η 3) f18 f17 f16 f15 f14 f13 f12 f11 f10 f9 f8 f7 f6 f5 f4 f3 f2 f1 f0
def p_232y_s : List vG := [g_232y_s_0,
  g_232y_s_1,
  g_232y_s_2,
  g_232y_s_3,
  g_232y_s_4,
  g_232y_s_5,
  g_232y_s_6,
  g_232y_s_7,
  g_232y_s_8,
  g_232y_s_9]
theorem r_232y_s : vCovBO (eR0 e_232w L_232w cs_232 2000) p_232y_s = true := by decide +kernel
theorem q_232y_10 {q0 : Nat} {n0 n1 n2 n3 n4 n5 n6 n7 n8 n9 n10 n11 n12 n13 n14 n15 n16 n17 n18 : Int} {H0 H1 H2 H3 H4 H5 H6 H7 : gH} (f0 : n0 = 285) (f1 : n1 = 285) (f2 : (hLe T0 H0 H1 ∧ hFr s_232.2.2.2.2 H0 H1 ∧ hWt T0 H1) ∧ (((Ab_232_53 n1 n0 H0 H1 ∧ Bb_232_53 n1 n0 H0 H1) ∧ Byb_232_53 n1 n0 H0 H1) ∧ preb_232 n1 H0) ∧ some q0 = some (mub_232_53 n1 n0 H0 H1)) (f3 : n2 = 12) (f4 : n3 ≤ 1) (f5 : 0 ≤ n3) (f6 : hK H1 (n0).toNat = 12) (f7 : n3 = hV H1 (n0).toNat 35) (f8 : n4 = w32 (n2 * n3)) (f9 : n5 = 306) (f10 : hK H1 (n0).toNat = 12) (f11 : n5 = hV H1 (n0).toNat 36) (f12 : n6 ≤ 1) (f13 : 0 ≤ n6) (f14 : hK H1 (n0).toNat = 12) (f15 : n6 = hV H1 (n0).toNat 35) (f16 : n7 ≤ 12) (f17 : 0 ≤ n7) (f18 : n7 = hV H1 (n5).toNat (n6).toNat) (f19 : n8 = w32 (n4 + n7)) (f20 : n9 = 307) (f21 : hK H1 (n0).toNat = 12) (f22 : n9 = hV H1 (n0).toNat 37) (f23 : n10 = 42) (f24 : n11 ≤ 1) (f25 : 0 ≤ n11) (f26 : (hLe T0 H1 H2 ∧ hFr s_216.2.2.2.2 H1 H2 ∧ ((0 : Int) = 0 → H2.length = H1.length) ∧ hWt T0 H2) ∧ postb_216 n11 n0 n10 H1 H2) (f27 : n11 = 0) (f28 : n12 = 1) (f29 : hK H2 (n9).toNat = 284) (f30 : hUpd H3 H2 n9 n8 n12) (f31 : (hLe T0 H3 H4 ∧ hFr s_219.2.2.2.2 H3 H4 ∧ ((0 : Int) = 0 → H4.length = H3.length) ∧ hWt T0 H4) ∧ (postb_219 n0 H3 H4 ∧ nb_219 n0 H3 H4)) (f32 : n13 = 308) (f33 : hK H4 (n0).toNat = 12) (f34 : n13 = hV H4 (n0).toNat 38) (f35 : n14 ≤ 1200) (f36 : 0 ≤ n14) (f37 : hK H4 (n0).toNat = 12) (f38 : n14 = hV H4 (n0).toNat 51) (f39 : hK H4 (n13).toNat = 292) (f40 : hUpd H5 H4 n13 n8 n14) (f41 : n15 = 309) (f42 : hK H5 (n0).toNat = 12) (f43 : n15 = hV H5 (n0).toNat 39) (f44 : n16 ≤ 1200) (f45 : 0 ≤ n16) (f46 : hK H5 (n0).toNat = 12) (f47 : n16 = hV H5 (n0).toNat 51) (f48 : hK H5 (n15).toNat = 300) (f49 : hUpd H6 H5 n15 n8 n16) (f50 : n17 = 310) (f51 : hK H6 (n0).toNat = 12) (f52 : n17 = hV H6 (n0).toNat 40) (f53 : n18 ≤ 400) (f54 : 0 ≤ n18) (f55 : hK H6 (n0).toNat = 12) (f56 : n18 = hV H6 (n0).toNat 44) (f57 : hK H6 (n17).toNat = 308) (f58 : hUpd H7 H6 n17 n8 n18) : Byb_232_125 n1 n0 n8 H0 H7 := by
  unfold Byb_232_125
  intro z s0 l0
  have ga := f2.2.1.1.1.2
  unfold Bb_232_53 at ga
  obtain ⟨z1, a1, rs, h12, kk⟩ := ga z
  have vz : vwR H1 = vwR H0 := vwR_fr f2.1.2.1 (by decide +kernel)
  have gy := f2.2.1.1.2
  unfold Byb_232_53 at gy
  obtain ⟨xk, yk, zk⟩ := gy z s0 l0
  have d7 := rdS (q := 285) f7 f0
  have d15 := rdS (q := 285) f15 f0
  have d18 := rdW (q := 306) f18 f9
  have d38 := rdS (q := 285) f38 f0
  have d47 := rdS (q := 285) f47 f0
  have d56 := rdS (q := 285) f56 f0
  have q27 := f27
  have rg4 := f4
  have rg5 := f5
  have rg12 := f12
  have rg13 := f13
  have rg16 := f16
  have rg17 := f17
  have rg35 := f35
  have rg36 := f36
  have rg44 := f44
  have rg45 := f45
  have rg53 := f53
  have rg54 := f54
  have wm := f8
  rw [f3, w32_id (by omega) (by omega)] at wm
  have wa := f19
  rw [w32_id (by omega) (by omega)] at wa
  exact ⟨XRk_tr xk (XRk_tr (XRk_fr f26.1.2.1 (by decide +kernel)) (XRk_tr (XRk_up f30 (.inr (by rw [f20]; decide))) (XRk_tr (XRk_fr f31.1.2.1 (by decide +kernel)) (XRk_tr (XRk_up f40 (.inr (by rw [f32]; decide))) (XRk_tr (XRk_up f49 (.inr (by rw [f41]; decide))) (XRk_up f58 (.inr (by rw [f50]; decide)))))))), YRs_tr yk (YRs_tr (YRs_fr f26.1.2.1 (by decide +kernel)) (YRs_tr (YRs_up f30 (.inr (by rw [f20]; decide))) (YRs_tr (YRs_fr f31.1.2.1 (by decide +kernel)) (YRs_tr (YRs_up f40 (.inr (by rw [f32]; decide))) (YRs_tr (YRs_up f49 (.inr (by rw [f41]; decide))) (YRs_up f58 (.inr (by rw [f50]; decide)))))))), KRr_tr (KRr_z zk) (KRr_tr (KRr_z (ZRs_fr f26.1.2.1 (by decide +kernel))) (KRr_tr (KRr_up f30 (by rw [f20]; decide) (show n8 = n8 by omega) (by omega)) (KRr_tr (KRr_z (ZRs_fr f31.1.2.1 (by decide +kernel))) (KRr_tr (KRr_up f40 (by rw [f32]; decide) (show n8 = n8 by omega) (by omega)) (KRr_tr (KRr_up f49 (by rw [f41]; decide) (show n8 = n8 by omega) (by omega)) (KRr_up f58 (by rw [f50]; decide) (show n8 = n8 by omega) (by omega)))))))⟩
def g_232y_53_0 : vG := ([(80, [17, 8, 18], [7, 6], 0), (23, [17], [6], 308), (20, [18, 1], [6], 44), (23, [1], [6], 12), (90, [18], [], 0), (91, [18], [], 400), (20, [17, 1], [6], 40), (23, [1], [6], 12), (0, [17], [], 310), (80, [15, 8, 16], [6, 5], 0), (23, [15], [5], 300), (20, [16, 1], [5], 51), (23, [1], [5], 12), (90, [16], [], 0), (91, [16], [], 1200), (20, [15, 1], [5], 39), (23, [1], [5], 12), (0, [15], [], 309), (80, [13, 8, 14], [5, 4], 0), (23, [13], [4], 292), (20, [14, 1], [4], 51), (23, [1], [4], 12), (90, [14], [], 0), (91, [14], [], 1200), (20, [13, 1], [4], 38), (23, [1], [4], 12), (0, [13], [], 308), (1219, [1], [3, 4], 0), (80, [9, 8, 12], [3, 2], 0), (23, [9], [2], 284), (0, [12], [], 1), (30, [11], [], 0), (1216, [11, 1, 10], [1, 2], 0), (90, [11], [], 0), (91, [11], [], 1), (0, [10], [], 42), (20, [9, 1], [1], 37), (23, [1], [1], 12), (0, [9], [], 307), (1, [8, 4, 7], [], 0), (22, [7, 5, 6], [1], 0), (90, [7], [], 0), (91, [7], [], 12), (20, [6, 1], [1], 35), (23, [1], [1], 12), (90, [6], [], 0), (91, [6], [], 1), (20, [5, 1], [1], 36), (23, [1], [1], 12), (0, [5], [], 306), (3, [4, 2, 3], [], 0), (20, [3, 1], [1], 35), (23, [1], [1], 12), (90, [3], [], 0), (91, [3], [], 1), (0, [2], [], 12), (5000, [0, 1], [0, 1], 53), (0, [0], [], 285), (0, [1], [], 285)], (4000, [1, 8], [7], 125))
theorem c_232y_53_0 {q0 : Nat} : vOkm T0 (eN e_232w L_232y (eAB A_232 B_232) mu_232 y_232 By_232 (some q0)) 1 g_232y_53_0 := vOk_inI fun ρ η f0 f1 f2 f3 f4 f5 f6 f7 f8 f9 f10 f11 f12 f13 f14 f15 f16 f17 f18 f19 f20 f21 f22 f23 f24 f25 f26 f27 f28 f29 f30 f31 f32 f33 f34 f35 f36 f37 f38 f39 f40 f41 f42 f43 f44 f45 f46 f47 f48 f49 f50 f51 f52 f53 f54 f55 f56 f57 f58 => q_232y_10 (q0 := q0) (n0 := ρ 1) (n1 := ρ 0) (n2 := ρ 2) (n3 := ρ 3) (n4 := ρ 4) (n5 := ρ 5) (n6 := ρ 6) (n7 := ρ 7) (n8 := ρ 8) (n9 := ρ 9) (n10 := ρ 10) (n11 := ρ 11) (n12 := ρ 12) (n13 := ρ 13) (n14 := ρ 14) (n15 := ρ 15) (n16 := ρ 16) (n17 := ρ 17) (n18 := ρ 18) (H0 := η 0) (H1 := η 1) (H2 := η 2) (H3 := η 3) (H4 := η 4) (H5 := η 5) (H6 := η 6) (H7 := η 7) f58 f57 f56 f55 f54 f53 f52 f51 f50 f49 f48 f47 f46 f45 f44 f43 f42 f41 f40 f39 f38 f37 f36 f35 f34 f33 f32 f31 f30 f29 f28 f27 f26 f25 f24 f23 f22 f21 f20 f19 f18 f17 f16 f15 f14 f13 f12 f11 f10 f9 f8 f7 f6 f5 f4 f3 f2 f1 f0
theorem q_232y_11 {q0 : Nat} {n0 n1 n2 n3 n4 n5 n6 n7 n8 n9 n10 n11 n12 n13 n14 n15 n16 n17 n18 : Int} {H0 H1 H2 H3 H4 H5 H6 H7 : gH} (f0 : n0 = 285) (f1 : n1 = 285) (f2 : (hLe T0 H0 H1 ∧ hFr s_232.2.2.2.2 H0 H1 ∧ hWt T0 H1) ∧ (((Ab_232_53 n1 n0 H0 H1 ∧ Bb_232_53 n1 n0 H0 H1) ∧ Byb_232_53 n1 n0 H0 H1) ∧ preb_232 n1 H0) ∧ some q0 = some (mub_232_53 n1 n0 H0 H1)) (f3 : n2 = 12) (f4 : n3 ≤ 1) (f5 : 0 ≤ n3) (f6 : hK H1 (n0).toNat = 12) (f7 : n3 = hV H1 (n0).toNat 35) (f8 : n4 = w32 (n2 * n3)) (f9 : n5 = 306) (f10 : hK H1 (n0).toNat = 12) (f11 : n5 = hV H1 (n0).toNat 36) (f12 : n6 ≤ 1) (f13 : 0 ≤ n6) (f14 : hK H1 (n0).toNat = 12) (f15 : n6 = hV H1 (n0).toNat 35) (f16 : n7 ≤ 12) (f17 : 0 ≤ n7) (f18 : n7 = hV H1 (n5).toNat (n6).toNat) (f19 : n8 = w32 (n4 + n7)) (f20 : n9 = 307) (f21 : hK H1 (n0).toNat = 12) (f22 : n9 = hV H1 (n0).toNat 37) (f23 : n10 = 42) (f24 : n11 ≤ 1) (f25 : 0 ≤ n11) (f26 : (hLe T0 H1 H2 ∧ hFr s_216.2.2.2.2 H1 H2 ∧ ((0 : Int) = 0 → H2.length = H1.length) ∧ hWt T0 H2) ∧ postb_216 n11 n0 n10 H1 H2) (f27 : n11 ≠ 0) (f28 : n12 = 0) (f29 : hK H2 (n9).toNat = 284) (f30 : hUpd H3 H2 n9 n8 n12) (f31 : (hLe T0 H3 H4 ∧ hFr s_219.2.2.2.2 H3 H4 ∧ ((0 : Int) = 0 → H4.length = H3.length) ∧ hWt T0 H4) ∧ (postb_219 n0 H3 H4 ∧ nb_219 n0 H3 H4)) (f32 : n13 = 308) (f33 : hK H4 (n0).toNat = 12) (f34 : n13 = hV H4 (n0).toNat 38) (f35 : n14 ≤ 1200) (f36 : 0 ≤ n14) (f37 : hK H4 (n0).toNat = 12) (f38 : n14 = hV H4 (n0).toNat 51) (f39 : hK H4 (n13).toNat = 292) (f40 : hUpd H5 H4 n13 n8 n14) (f41 : n15 = 309) (f42 : hK H5 (n0).toNat = 12) (f43 : n15 = hV H5 (n0).toNat 39) (f44 : n16 ≤ 1200) (f45 : 0 ≤ n16) (f46 : hK H5 (n0).toNat = 12) (f47 : n16 = hV H5 (n0).toNat 51) (f48 : hK H5 (n15).toNat = 300) (f49 : hUpd H6 H5 n15 n8 n16) (f50 : n17 = 310) (f51 : hK H6 (n0).toNat = 12) (f52 : n17 = hV H6 (n0).toNat 40) (f53 : n18 ≤ 400) (f54 : 0 ≤ n18) (f55 : hK H6 (n0).toNat = 12) (f56 : n18 = hV H6 (n0).toNat 44) (f57 : hK H6 (n17).toNat = 308) (f58 : hUpd H7 H6 n17 n8 n18) : Byb_232_125 n1 n0 n8 H0 H7 := by
  unfold Byb_232_125
  intro z s0 l0
  have ga := f2.2.1.1.1.2
  unfold Bb_232_53 at ga
  obtain ⟨z1, a1, rs, h12, kk⟩ := ga z
  have vz : vwR H1 = vwR H0 := vwR_fr f2.1.2.1 (by decide +kernel)
  have gy := f2.2.1.1.2
  unfold Byb_232_53 at gy
  obtain ⟨xk, yk, zk⟩ := gy z s0 l0
  have d7 := rdS (q := 285) f7 f0
  have d15 := rdS (q := 285) f15 f0
  have d18 := rdW (q := 306) f18 f9
  have d38 := rdS (q := 285) f38 f0
  have d47 := rdS (q := 285) f47 f0
  have d56 := rdS (q := 285) f56 f0
  have q27 := f27
  have rg4 := f4
  have rg5 := f5
  have rg12 := f12
  have rg13 := f13
  have rg16 := f16
  have rg17 := f17
  have rg35 := f35
  have rg36 := f36
  have rg44 := f44
  have rg45 := f45
  have rg53 := f53
  have rg54 := f54
  have wm := f8
  rw [f3, w32_id (by omega) (by omega)] at wm
  have wa := f19
  rw [w32_id (by omega) (by omega)] at wa
  exact ⟨XRk_tr xk (XRk_tr (XRk_fr f26.1.2.1 (by decide +kernel)) (XRk_tr (XRk_up f30 (.inr (by rw [f20]; decide))) (XRk_tr (XRk_fr f31.1.2.1 (by decide +kernel)) (XRk_tr (XRk_up f40 (.inr (by rw [f32]; decide))) (XRk_tr (XRk_up f49 (.inr (by rw [f41]; decide))) (XRk_up f58 (.inr (by rw [f50]; decide)))))))), YRs_tr yk (YRs_tr (YRs_fr f26.1.2.1 (by decide +kernel)) (YRs_tr (YRs_up f30 (.inr (by rw [f20]; decide))) (YRs_tr (YRs_fr f31.1.2.1 (by decide +kernel)) (YRs_tr (YRs_up f40 (.inr (by rw [f32]; decide))) (YRs_tr (YRs_up f49 (.inr (by rw [f41]; decide))) (YRs_up f58 (.inr (by rw [f50]; decide)))))))), KRr_tr (KRr_z zk) (KRr_tr (KRr_z (ZRs_fr f26.1.2.1 (by decide +kernel))) (KRr_tr (KRr_up f30 (by rw [f20]; decide) (show n8 = n8 by omega) (by omega)) (KRr_tr (KRr_z (ZRs_fr f31.1.2.1 (by decide +kernel))) (KRr_tr (KRr_up f40 (by rw [f32]; decide) (show n8 = n8 by omega) (by omega)) (KRr_tr (KRr_up f49 (by rw [f41]; decide) (show n8 = n8 by omega) (by omega)) (KRr_up f58 (by rw [f50]; decide) (show n8 = n8 by omega) (by omega)))))))⟩
def g_232y_53_1 : vG := ([(80, [17, 8, 18], [7, 6], 0), (23, [17], [6], 308), (20, [18, 1], [6], 44), (23, [1], [6], 12), (90, [18], [], 0), (91, [18], [], 400), (20, [17, 1], [6], 40), (23, [1], [6], 12), (0, [17], [], 310), (80, [15, 8, 16], [6, 5], 0), (23, [15], [5], 300), (20, [16, 1], [5], 51), (23, [1], [5], 12), (90, [16], [], 0), (91, [16], [], 1200), (20, [15, 1], [5], 39), (23, [1], [5], 12), (0, [15], [], 309), (80, [13, 8, 14], [5, 4], 0), (23, [13], [4], 292), (20, [14, 1], [4], 51), (23, [1], [4], 12), (90, [14], [], 0), (91, [14], [], 1200), (20, [13, 1], [4], 38), (23, [1], [4], 12), (0, [13], [], 308), (1219, [1], [3, 4], 0), (80, [9, 8, 12], [3, 2], 0), (23, [9], [2], 284), (0, [12], [], 0), (31, [11], [], 0), (1216, [11, 1, 10], [1, 2], 0), (90, [11], [], 0), (91, [11], [], 1), (0, [10], [], 42), (20, [9, 1], [1], 37), (23, [1], [1], 12), (0, [9], [], 307), (1, [8, 4, 7], [], 0), (22, [7, 5, 6], [1], 0), (90, [7], [], 0), (91, [7], [], 12), (20, [6, 1], [1], 35), (23, [1], [1], 12), (90, [6], [], 0), (91, [6], [], 1), (20, [5, 1], [1], 36), (23, [1], [1], 12), (0, [5], [], 306), (3, [4, 2, 3], [], 0), (20, [3, 1], [1], 35), (23, [1], [1], 12), (90, [3], [], 0), (91, [3], [], 1), (0, [2], [], 12), (5000, [0, 1], [0, 1], 53), (0, [0], [], 285), (0, [1], [], 285)], (4000, [1, 8], [7], 125))
theorem c_232y_53_1 {q0 : Nat} : vOkm T0 (eN e_232w L_232y (eAB A_232 B_232) mu_232 y_232 By_232 (some q0)) 1 g_232y_53_1 := vOk_inI fun ρ η f0 f1 f2 f3 f4 f5 f6 f7 f8 f9 f10 f11 f12 f13 f14 f15 f16 f17 f18 f19 f20 f21 f22 f23 f24 f25 f26 f27 f28 f29 f30 f31 f32 f33 f34 f35 f36 f37 f38 f39 f40 f41 f42 f43 f44 f45 f46 f47 f48 f49 f50 f51 f52 f53 f54 f55 f56 f57 f58 => q_232y_11 (q0 := q0) (n0 := ρ 1) (n1 := ρ 0) (n2 := ρ 2) (n3 := ρ 3) (n4 := ρ 4) (n5 := ρ 5) (n6 := ρ 6) (n7 := ρ 7) (n8 := ρ 8) (n9 := ρ 9) (n10 := ρ 10) (n11 := ρ 11) (n12 := ρ 12) (n13 := ρ 13) (n14 := ρ 14) (n15 := ρ 15) (n16 := ρ 16) (n17 := ρ 17) (n18 := ρ 18) (H0 := η 0) (H1 := η 1) (H2 := η 2) (H3 := η 3) (H4 := η 4) (H5 := η 5) (H6 := η 6) (H7 := η 7) f58 f57 f56 f55 f54 f53 f52 f51 f50 f49 f48 f47 f46 f45 f44 f43 f42 f41 f40 f39 f38 f37 f36 f35 f34 f33 f32 f31 f30 f29 f28 f27 f26 f25 f24 f23 f22 f21 f20 f19 f18 f17 f16 f15 f14 f13 f12 f11 f10 f9 f8 f7 f6 f5 f4 f3 f2 f1 f0
def p_232y_53 : List vG := [g_232y_53_0,
  g_232y_53_1]
theorem r_232y_53 : vCovBO (eRc e_232w L_232w cs_232 2000 (53, [(0, (3, 12, 285, 0))])) p_232y_53 = true := by decide +kernel
theorem q_232y_12 {q0 : Nat} {n0 n1 n2 n3 n4 n5 n6 n7 n8 n9 n10 : Int} {H0 H1 H2 H3 H4 : gH} (f0 : n0 ≤ 23) (f1 : 0 ≤ n0) (f2 : n1 = 285) (f3 : n2 = 285) (f4 : (hLe T0 H0 H1 ∧ hFr s_232.2.2.2.2 H0 H1 ∧ hWt T0 H1) ∧ (((Ab_232_125 n2 n1 n0 H0 H1 ∧ Bb_232_125 n2 n1 n0 H0 H1) ∧ Byb_232_125 n2 n1 n0 H0 H1) ∧ preb_232 n2 H0) ∧ some q0 = some (mub_232_125 n2 n1 n0 H0 H1)) (f5 : n3 = 307) (f6 : hK H1 (n1).toNat = 12) (f7 : n3 = hV H1 (n1).toNat 37) (f8 : n4 ≤ 1) (f9 : 0 ≤ n4) (f10 : n4 = hV H1 (n3).toNat (n0).toNat) (f11 : n5 = 1) (f12 : n4 ≠ n5) (f13 : (hLe T0 H1 H2 ∧ hFr s_236.2.2.2.2 H1 H2 ∧ ((0 : Int) = 0 → H2.length = H1.length) ∧ hWt T0 H2) ∧ ((postb_236 n1 H1 H2 ∧ nb_236 n1 H1 H2) ∧ yb_236 n1 H1 H2)) (f14 : n6 = 309) (f15 : hK H2 (n1).toNat = 12) (f16 : n6 = hV H2 (n1).toNat 39) (f17 : n7 ≤ 1200) (f18 : 0 ≤ n7) (f19 : hK H2 (n1).toNat = 12) (f20 : n7 = hV H2 (n1).toNat 51) (f21 : hK H2 (n6).toNat = 300) (f22 : hUpd H3 H2 n6 n0 n7) (f23 : n8 = 43) (f24 : n9 ≤ 1) (f25 : 0 ≤ n9) (f26 : (hLe T0 H3 H4 ∧ hFr s_216.2.2.2.2 H3 H4 ∧ ((0 : Int) = 0 → H4.length = H3.length) ∧ hWt T0 H4) ∧ postb_216 n9 n1 n8 H3 H4) (f27 : n9 = 0) (f28 : n10 = 1) : Byb_232_202 n2 n1 n0 n9 n10 H0 H4 := by
  unfold Byb_232_202
  intro z s0 l0
  have ga := f4.2.1.1.1.2
  unfold Bb_232_125 at ga
  obtain ⟨z1, a1, rs, h12, kk⟩ := ga z
  have vz : vwR H1 = vwR H0 := vwR_fr f4.1.2.1 (by decide +kernel)
  have gy := f4.2.1.1.2
  unfold Byb_232_125 at gy
  obtain ⟨xk, yk, kr⟩ := gy z s0 l0
  have d10 := rdW (q := 307) f10 f5
  have d20 := rdS (q := 285) f20 f2
  have q12 := f12
  have qc11 := f11
  have q27 := f27
  have rg0 := f0
  have rg1 := f1
  have rg8 := f8
  have rg9 := f9
  have kd : (vwR H0).1 (absR H0).1 = 38 := by omega
  rw [kd] at a1
  have c0 := f13.2.1.2 z1
  rw [vz, a1] at c0
  have v0 : vwR H2 = vwR H0 := (vwR_fr f13.1.2.1 (by decide +kernel)).trans vz
  have p1 := PR_row (q := 309) f22 f14 (by decide) c0.1
  have v1 : vwR H3 = vwR H0 := p1.2.1.trans v0
  have ah1 : absR H3 = (pExp (vwR H0) (ptk (vwR H0) 38 (absR H0))) := p1.1.trans c0.2
  have p2 := PR_fr f26.1.2.1 (by decide +kernel) p1.2.2.1
  have v2 : vwR H4 = vwR H0 := p2.2.1.trans v1
  have ah2 : absR H4 = (pExp (vwR H0) (ptk (vwR H0) 38 (absR H0))) := p2.1.trans ah1
  have i2 := f26.2
  unfold postb_216 at i2
  rw [f23] at i2
  have cm2 := f27
  have b2 := (isR_or (k := 43) p2.2.2.1 (by decide) i2).resolve_left (fun w => absurd (w.1.symm.trans cm2) (by decide))
  replace b2 := b2.2
  rw [v2, ah2, kmc_43] at b2
  have xb : XRk H1 H1 := XRk_rfl
  have sb : 0 ≤ hV H1 285 51 := by
    rw [xb.1, xk.1]
    exact s0
  have ex := f13.2.2
  unfold yb_236 at ex
  have ex := ex z1 sb
  rw [vz, a1] at ex
  have ch := f27
  have rg24 := f24
  have rg25 := f25
  have bq := f26.2
  unfold postb_216 at bq
  have ab := f4.2.1.1.1.1
  unfold Ab_232_125 at ab
  refine ⟨KPc_tr (KPc_x xk) (KPc_tr ex.1 (KPc_tr (KPc_x (XRk_up f22 (.inr (by rw [f14]; decide)))) (KPc_x (XRk_fr f26.1.2.1 (by decide +kernel))))), KPl_y (YRs_tr yk (YRs_tr (YRs_fr f13.1.2.1 (by decide +kernel)) (YRs_tr (YRs_up f22 (.inr (by rw [f14]; decide))) (YRs_fr f26.1.2.1 (by decide +kernel))))), KRr_tr kr (KRr_tr (KRr_z (ZRs_fr f13.1.2.1 (by decide +kernel))) (KRr_tr (KRr_up f22 (by rw [f14]; decide) (show n0 = n0 by omega) (by omega)) (KRr_z (ZRs_fr f26.1.2.1 (by decide +kernel))))), fun hp => ?_⟩
  have aH : absR H4 = (pExp (vwR H0) (ptk (vwR H0) 38 (absR H0))) := ah2
  have hx_ : 0 ≤ (absR H2).1 := by
    rw [c0.2, ← aH]
    exact hp
  obtain ⟨e1, e2, e3⟩ := ex.2 hx_
  rw [xb.1, xk.1, c0.2] at e2
  rw [c0.2] at e3
  have r7 : hV H4 307 (n0).toNat = 0 := by
    rw [show hV H4 307 = hV H1 307 from (fRow f26.1.2.1 307 (by decide +kernel)).trans ((uRowNe f22 307 (by rw [f14]; decide)).trans (fRow f13.1.2.1 307 (by decide +kernel)))]
    omega
  have r8 : hV H4 308 (n0).toNat = hV H0 285 51 := by
    rw [show hV H4 308 = hV H1 308 from (fRow f26.1.2.1 308 (by decide +kernel)).trans ((uRowNe f22 308 (by rw [f14]; decide)).trans (fRow f13.1.2.1 308 (by decide +kernel))), ← xk.1]
    omega
  have r10 : hV H4 310 (n0).toNat = hV H0 285 44 := by
    rw [show hV H4 310 = hV H1 310 from (fRow f26.1.2.1 310 (by decide +kernel)).trans ((uRowNe f22 310 (by rw [f14]; decide)).trans (fRow f13.1.2.1 310 (by decide +kernel))), ← yk.1]
    omega
  have r9 : hV H4 309 (n0).toNat = hV H2 285 51 := by
    have w : hV H4 309 = uF (hV H1 309) n0 n7 := (fRow f26.1.2.1 309 (by decide +kernel)).trans ((uRowQ f22 309 f14).trans (congrArg (fun g => uF g n0 n7) ((fRow f13.1.2.1 309 (by decide +kernel)).trans rfl)))
    rw [w, uF_at, if_pos (by omega), d20] <;> exact rfl
  have xg : XRk H2 H4 := (XRk_tr (XRk_up f22 (.inr (by rw [f14]; decide))) (XRk_fr f26.1.2.1 (by decide +kernel)))
  have y44 : hV H4 285 44 = hV H0 285 44 := (YRs_tr yk (YRs_tr (YRs_fr f13.1.2.1 (by decide +kernel)) (YRs_tr (YRs_up f22 (.inr (by rw [f14]; decide))) (YRs_fr f26.1.2.1 (by decide +kernel))))).1
  exact RUm_0 (b := H1) r7 (xb.1.trans xk.1) ex.1 e2 e3 xg r8 r9 r10 y44 (fun w => by exfalso; omega) (fun _ => b2)
def g_232y_125_0 : vG := ([(0, [10], [], 1), (30, [9], [], 0), (1216, [9, 1, 8], [3, 4], 0), (90, [9], [], 0), (91, [9], [], 1), (0, [8], [], 43), (80, [6, 2, 7], [3, 2], 0), (23, [6], [2], 300), (20, [7, 1], [2], 51), (23, [1], [2], 12), (90, [7], [], 0), (91, [7], [], 1200), (20, [6, 1], [2], 39), (23, [1], [2], 12), (0, [6], [], 309), (1236, [1], [1, 2], 0), (41, [4, 5], [], 0), (0, [5], [], 1), (22, [4, 3, 2], [1], 0), (90, [4], [], 0), (91, [4], [], 1), (20, [3, 1], [1], 37), (23, [1], [1], 12), (0, [3], [], 307), (5000, [0, 1, 2], [0, 1], 125), (0, [0], [], 285), (0, [1], [], 285), (90, [2], [], 0), (91, [2], [], 23)], (4000, [1, 2, 9, 10], [4], 202))
theorem c_232y_125_0 {q0 : Nat} : vOkm T0 (eN e_232w L_232y (eAB A_232 B_232) mu_232 y_232 By_232 (some q0)) 1 g_232y_125_0 := vOk_inI fun ρ η f0 f1 f2 f3 f4 f5 f6 f7 f8 f9 f10 f11 f12 f13 f14 f15 f16 f17 f18 f19 f20 f21 f22 f23 f24 f25 f26 f27 f28 => q_232y_12 (q0 := q0) (n0 := ρ 2) (n1 := ρ 1) (n2 := ρ 0) (n3 := ρ 3) (n4 := ρ 4) (n5 := ρ 5) (n6 := ρ 6) (n7 := ρ 7) (n8 := ρ 8) (n9 := ρ 9) (n10 := ρ 10) (H0 := η 0) (H1 := η 1) (H2 := η 2) (H3 := η 3) (H4 := η 4) f28 f27 f26 f25 f24 f23 f22 f21 f20 f19 f18 f17 f16 f15 f14 f13 f12 f11 f10 f9 f8 f7 f6 f5 f4 f3 f2 f1 f0
theorem q_232y_13 {q0 : Nat} {n0 n1 n2 n3 n4 n5 n6 n7 n8 n9 n10 : Int} {H0 H1 H2 H3 H4 H5 : gH} (f0 : n0 ≤ 23) (f1 : 0 ≤ n0) (f2 : n1 = 285) (f3 : n2 = 285) (f4 : (hLe T0 H0 H1 ∧ hFr s_232.2.2.2.2 H0 H1 ∧ hWt T0 H1) ∧ (((Ab_232_125 n2 n1 n0 H0 H1 ∧ Bb_232_125 n2 n1 n0 H0 H1) ∧ Byb_232_125 n2 n1 n0 H0 H1) ∧ preb_232 n2 H0) ∧ some q0 = some (mub_232_125 n2 n1 n0 H0 H1)) (f5 : n3 = 307) (f6 : hK H1 (n1).toNat = 12) (f7 : n3 = hV H1 (n1).toNat 37) (f8 : n4 ≤ 1) (f9 : 0 ≤ n4) (f10 : n4 = hV H1 (n3).toNat (n0).toNat) (f11 : n5 = 1) (f12 : n4 ≠ n5) (f13 : (hLe T0 H1 H2 ∧ hFr s_236.2.2.2.2 H1 H2 ∧ ((0 : Int) = 0 → H2.length = H1.length) ∧ hWt T0 H2) ∧ ((postb_236 n1 H1 H2 ∧ nb_236 n1 H1 H2) ∧ yb_236 n1 H1 H2)) (f14 : n6 = 309) (f15 : hK H2 (n1).toNat = 12) (f16 : n6 = hV H2 (n1).toNat 39) (f17 : n7 ≤ 1200) (f18 : 0 ≤ n7) (f19 : hK H2 (n1).toNat = 12) (f20 : n7 = hV H2 (n1).toNat 51) (f21 : hK H2 (n6).toNat = 300) (f22 : hUpd H3 H2 n6 n0 n7) (f23 : n8 = 43) (f24 : n9 ≤ 1) (f25 : 0 ≤ n9) (f26 : (hLe T0 H3 H4 ∧ hFr s_216.2.2.2.2 H3 H4 ∧ ((0 : Int) = 0 → H4.length = H3.length) ∧ hWt T0 H4) ∧ postb_216 n9 n1 n8 H3 H4) (f27 : n9 ≠ 0) (f28 : (hLe T0 H4 H5 ∧ hFr s_219.2.2.2.2 H4 H5 ∧ ((0 : Int) = 0 → H5.length = H4.length) ∧ hWt T0 H5) ∧ (postb_219 n1 H4 H5 ∧ nb_219 n1 H4 H5)) (f29 : n10 = 1) : Byb_232_202 n2 n1 n0 n9 n10 H0 H5 := by
  unfold Byb_232_202
  intro z s0 l0
  have ga := f4.2.1.1.1.2
  unfold Bb_232_125 at ga
  obtain ⟨z1, a1, rs, h12, kk⟩ := ga z
  have vz : vwR H1 = vwR H0 := vwR_fr f4.1.2.1 (by decide +kernel)
  have gy := f4.2.1.1.2
  unfold Byb_232_125 at gy
  obtain ⟨xk, yk, kr⟩ := gy z s0 l0
  have d10 := rdW (q := 307) f10 f5
  have d20 := rdS (q := 285) f20 f2
  have q12 := f12
  have qc11 := f11
  have q27 := f27
  have rg0 := f0
  have rg1 := f1
  have rg8 := f8
  have rg9 := f9
  have kd : (vwR H0).1 (absR H0).1 = 38 := by omega
  rw [kd] at a1
  have c0 := f13.2.1.2 z1
  rw [vz, a1] at c0
  have v0 : vwR H2 = vwR H0 := (vwR_fr f13.1.2.1 (by decide +kernel)).trans vz
  have p1 := PR_row (q := 309) f22 f14 (by decide) c0.1
  have v1 : vwR H3 = vwR H0 := p1.2.1.trans v0
  have ah1 : absR H3 = (pExp (vwR H0) (ptk (vwR H0) 38 (absR H0))) := p1.1.trans c0.2
  have p2 := PR_fr f26.1.2.1 (by decide +kernel) p1.2.2.1
  have v2 : vwR H4 = vwR H0 := p2.2.1.trans v1
  have ah2 : absR H4 = (pExp (vwR H0) (ptk (vwR H0) 38 (absR H0))) := p2.1.trans ah1
  have i2 := f26.2
  unfold postb_216 at i2
  rw [f23] at i2
  have cm2 := f27
  have b2 := (isR_or (k := 43) p2.2.2.1 (by decide) i2).resolve_right (fun w => cm2 w.1)
  replace b2 := b2.2
  rw [v2, ah2, kmc_43] at b2
  have c3 := f28.2.2 p2.2.2.1 (by rw [v2, ah2]; rw [b2]; decide)
  rw [v2, ah2, b2] at c3
  have v3 : vwR H5 = vwR H0 := (vwR_fr f28.1.2.1 (by decide +kernel)).trans v2
  have xb : XRk H1 H1 := XRk_rfl
  have sb : 0 ≤ hV H1 285 51 := by
    rw [xb.1, xk.1]
    exact s0
  have ex := f13.2.2
  unfold yb_236 at ex
  have ex := ex z1 sb
  rw [vz, a1] at ex
  have ch := f27
  have rg24 := f24
  have rg25 := f25
  have bq := f26.2
  unfold postb_216 at bq
  have ab := f4.2.1.1.1.1
  unfold Ab_232_125 at ab
  refine ⟨KPc_tr (KPc_x xk) (KPc_tr ex.1 (KPc_tr (KPc_x (XRk_up f22 (.inr (by rw [f14]; decide)))) (KPc_tr (KPc_x (XRk_fr f26.1.2.1 (by decide +kernel))) (KPc_x (XRk_fr f28.1.2.1 (by decide +kernel)))))), KPl_y (YRs_tr yk (YRs_tr (YRs_fr f13.1.2.1 (by decide +kernel)) (YRs_tr (YRs_up f22 (.inr (by rw [f14]; decide))) (YRs_tr (YRs_fr f26.1.2.1 (by decide +kernel)) (YRs_fr f28.1.2.1 (by decide +kernel)))))), KRr_tr kr (KRr_tr (KRr_z (ZRs_fr f13.1.2.1 (by decide +kernel))) (KRr_tr (KRr_up f22 (by rw [f14]; decide) (show n0 = n0 by omega) (by omega)) (KRr_tr (KRr_z (ZRs_fr f26.1.2.1 (by decide +kernel))) (KRr_z (ZRs_fr f28.1.2.1 (by decide +kernel)))))), fun hp => ?_⟩
  have aH : absR H5 = (ptk (vwR H0) 39 (pExp (vwR H0) (ptk (vwR H0) 38 (absR H0)))) := c3.2
  have hq := hp
  rw [aH] at hq
  have hx_ : 0 ≤ (absR H2).1 := by
    rw [c0.2]
    exact (pt1R_kind z hq).1
  obtain ⟨e1, e2, e3⟩ := ex.2 hx_
  rw [xb.1, xk.1, c0.2] at e2
  rw [c0.2] at e3
  have r7 : hV H5 307 (n0).toNat = 0 := by
    rw [show hV H5 307 = hV H1 307 from (fRow f28.1.2.1 307 (by decide +kernel)).trans ((fRow f26.1.2.1 307 (by decide +kernel)).trans ((uRowNe f22 307 (by rw [f14]; decide)).trans (fRow f13.1.2.1 307 (by decide +kernel))))]
    omega
  have r8 : hV H5 308 (n0).toNat = hV H0 285 51 := by
    rw [show hV H5 308 = hV H1 308 from (fRow f28.1.2.1 308 (by decide +kernel)).trans ((fRow f26.1.2.1 308 (by decide +kernel)).trans ((uRowNe f22 308 (by rw [f14]; decide)).trans (fRow f13.1.2.1 308 (by decide +kernel)))), ← xk.1]
    omega
  have r10 : hV H5 310 (n0).toNat = hV H0 285 44 := by
    rw [show hV H5 310 = hV H1 310 from (fRow f28.1.2.1 310 (by decide +kernel)).trans ((fRow f26.1.2.1 310 (by decide +kernel)).trans ((uRowNe f22 310 (by rw [f14]; decide)).trans (fRow f13.1.2.1 310 (by decide +kernel)))), ← yk.1]
    omega
  have r9 : hV H5 309 (n0).toNat = hV H2 285 51 := by
    have w : hV H5 309 = uF (hV H1 309) n0 n7 := (fRow f28.1.2.1 309 (by decide +kernel)).trans ((fRow f26.1.2.1 309 (by decide +kernel)).trans ((uRowQ f22 309 f14).trans (congrArg (fun g => uF g n0 n7) ((fRow f13.1.2.1 309 (by decide +kernel)).trans rfl))))
    rw [w, uF_at, if_pos (by omega), d20] <;> exact rfl
  have xg : XRk H2 H5 := (XRk_tr (XRk_up f22 (.inr (by rw [f14]; decide))) (XRk_tr (XRk_fr f26.1.2.1 (by decide +kernel)) (XRk_fr f28.1.2.1 (by decide +kernel))))
  have y44 : hV H5 285 44 = hV H0 285 44 := (YRs_tr yk (YRs_tr (YRs_fr f13.1.2.1 (by decide +kernel)) (YRs_tr (YRs_up f22 (.inr (by rw [f14]; decide))) (YRs_tr (YRs_fr f26.1.2.1 (by decide +kernel)) (YRs_fr f28.1.2.1 (by decide +kernel)))))).1
  exact RUm_0 (b := H1) r7 (xb.1.trans xk.1) ex.1 e2 e3 xg r8 r9 r10 y44 (fun _ => ⟨b2, by omega, hp, aH⟩) (fun w => by exfalso; omega)
def g_232y_125_1 : vG := ([(0, [10], [], 1), (1219, [1], [4, 5], 0), (31, [9], [], 0), (1216, [9, 1, 8], [3, 4], 0), (90, [9], [], 0), (91, [9], [], 1), (0, [8], [], 43), (80, [6, 2, 7], [3, 2], 0), (23, [6], [2], 300), (20, [7, 1], [2], 51), (23, [1], [2], 12), (90, [7], [], 0), (91, [7], [], 1200), (20, [6, 1], [2], 39), (23, [1], [2], 12), (0, [6], [], 309), (1236, [1], [1, 2], 0), (41, [4, 5], [], 0), (0, [5], [], 1), (22, [4, 3, 2], [1], 0), (90, [4], [], 0), (91, [4], [], 1), (20, [3, 1], [1], 37), (23, [1], [1], 12), (0, [3], [], 307), (5000, [0, 1, 2], [0, 1], 125), (0, [0], [], 285), (0, [1], [], 285), (90, [2], [], 0), (91, [2], [], 23)], (4000, [1, 2, 9, 10], [5], 202))
theorem c_232y_125_1 {q0 : Nat} : vOkm T0 (eN e_232w L_232y (eAB A_232 B_232) mu_232 y_232 By_232 (some q0)) 1 g_232y_125_1 := vOk_inI fun ρ η f0 f1 f2 f3 f4 f5 f6 f7 f8 f9 f10 f11 f12 f13 f14 f15 f16 f17 f18 f19 f20 f21 f22 f23 f24 f25 f26 f27 f28 f29 => q_232y_13 (q0 := q0) (n0 := ρ 2) (n1 := ρ 1) (n2 := ρ 0) (n3 := ρ 3) (n4 := ρ 4) (n5 := ρ 5) (n6 := ρ 6) (n7 := ρ 7) (n8 := ρ 8) (n9 := ρ 9) (n10 := ρ 10) (H0 := η 0) (H1 := η 1) (H2 := η 2) (H3 := η 3) (H4 := η 4) (H5 := η 5) f29 f28 f27 f26 f25 f24 f23 f22 f21 f20 f19 f18 f17 f16 f15 f14 f13 f12 f11 f10 f9 f8 f7 f6 f5 f4 f3 f2 f1 f0
theorem q_232y_14 {q0 : Nat} {n0 n1 n2 n3 n4 n5 n6 n7 n8 n9 n10 n11 n12 n13 n14 : Int} {H0 H1 H2 H3 H4 H5 H6 : gH} (f0 : n0 ≤ 23) (f1 : 0 ≤ n0) (f2 : n1 = 285) (f3 : n2 = 285) (f4 : (hLe T0 H0 H1 ∧ hFr s_232.2.2.2.2 H0 H1 ∧ hWt T0 H1) ∧ (((Ab_232_125 n2 n1 n0 H0 H1 ∧ Bb_232_125 n2 n1 n0 H0 H1) ∧ Byb_232_125 n2 n1 n0 H0 H1) ∧ preb_232 n2 H0) ∧ some q0 = some (mub_232_125 n2 n1 n0 H0 H1)) (f5 : n3 = 307) (f6 : hK H1 (n1).toNat = 12) (f7 : n3 = hV H1 (n1).toNat 37) (f8 : n4 ≤ 1) (f9 : 0 ≤ n4) (f10 : n4 = hV H1 (n3).toNat (n0).toNat) (f11 : n5 = 1) (f12 : n4 = n5) (f13 : n6 = 312) (f14 : hK H1 (n1).toNat = 12) (f15 : n6 = hV H1 (n1).toNat 42) (f16 : n7 = 0) (f17 : n8 = 9999) (f18 : n9 ≤ 9999) (f19 : 0 ≤ n9) (f20 : (hLe T0 H1 H2 ∧ hFr s_223.2.2.2.2 H1 H2 ∧ ((0 : Int) = 0 → H2.length = H1.length) ∧ hWt T0 H2) ∧ (postb_223 n9 n1 n7 n8 H1 H2 ∧ nb_223 n9 n1 n7 n8 H1 H2)) (f21 : hK H2 (n6).toNat = 324) (f22 : hUpd H3 H2 n6 n0 n9) (f23 : n10 = 45) (f24 : (hLe T0 H3 H4 ∧ hFr s_220.2.2.2.2 H3 H4 ∧ ((0 : Int) = 0 → H4.length = H3.length) ∧ hWt T0 H4) ∧ (postb_220 n1 n10 H3 H4 ∧ nb_220 n1 n10 H3 H4)) (f25 : n11 = 313) (f26 : hK H4 (n1).toNat = 12) (f27 : n11 = hV H4 (n1).toNat 43) (f28 : n12 = 1) (f29 : n13 = 60) (f30 : n14 ≤ 9999) (f31 : 0 ≤ n14) (f32 : (hLe T0 H4 H5 ∧ hFr s_223.2.2.2.2 H4 H5 ∧ ((0 : Int) = 0 → H5.length = H4.length) ∧ hWt T0 H5) ∧ (postb_223 n14 n1 n12 n13 H4 H5 ∧ nb_223 n14 n1 n12 n13 H4 H5)) (f33 : hK H5 (n11).toNat = 332) (f34 : hUpd H6 H5 n11 n0 n14) : Byb_232_255 n2 n1 n0 H0 H6 := by
  unfold Byb_232_255
  intro z s0 l0
  have ga := f4.2.1.1.1.2
  unfold Bb_232_125 at ga
  obtain ⟨z1, a1, rs, h12, kk⟩ := ga z
  have vz : vwR H1 = vwR H0 := vwR_fr f4.1.2.1 (by decide +kernel)
  have gy := f4.2.1.1.2
  unfold Byb_232_125 at gy
  obtain ⟨xk, yk, kr⟩ := gy z s0 l0
  have d10 := rdW (q := 307) f10 f5
  have q12 := f12
  have qc11 := f11
  have rg0 := f0
  have rg1 := f1
  have rg8 := f8
  have rg9 := f9
  have kd : (vwR H0).1 (absR H0).1 = 40 := by omega
  rw [kd] at a1
  have c0 := f20.2.2 z1
  try rw [f16] at c0
  try rw [f17] at c0
  rw [vz, a1] at c0
  have v0 : vwR H2 = vwR H0 := (vwR_fr f20.1.2.1 (by decide +kernel)).trans vz
  have p1 := PR_row (q := 312) f22 f13 (by decide) c0.1
  have v1 : vwR H3 = vwR H0 := p1.2.1.trans v0
  have ah1 : absR H3 = (pnm (vwR H0) 0 9999 (ptk (vwR H0) 40 (absR H0))) := p1.1.trans c0.2
  have c2 := f24.2.2 p1.2.2.1 (by rw [f23]; decide)
  try rw [f23] at c2
  rw [v1, ah1, kmc_45] at c2
  have v2 : vwR H4 = vwR H0 := (vwR_fr f24.1.2.1 (by decide +kernel)).trans v1
  have c3 := f32.2.2 c2.1
  try rw [f28] at c3
  try rw [f29] at c3
  rw [v2, c2.2] at c3
  have v3 : vwR H5 = vwR H0 := (vwR_fr f32.1.2.1 (by decide +kernel)).trans v2
  have p4 := PR_row (q := 313) f34 f25 (by decide) c3.1
  have v4 : vwR H6 = vwR H0 := p4.2.1.trans v3
  have ah4 : absR H6 = (pnm (vwR H0) 1 60 (ptk (vwR H0) 41 (pnm (vwR H0) 0 9999 (ptk (vwR H0) 40 (absR H0))))) := p4.1.trans c3.2
  refine ⟨KPc_x (XRk_tr xk (XRk_tr (XRk_fr f20.1.2.1 (by decide +kernel)) (XRk_tr (XRk_up f22 (.inr (by rw [f13]; decide))) (XRk_tr (XRk_fr f24.1.2.1 (by decide +kernel)) (XRk_tr (XRk_fr f32.1.2.1 (by decide +kernel)) (XRk_up f34 (.inr (by rw [f25]; decide)))))))), KPl_y (YRs_tr yk (YRs_tr (YRs_fr f20.1.2.1 (by decide +kernel)) (YRs_tr (YRs_up f22 (.inr (by rw [f13]; decide))) (YRs_tr (YRs_fr f24.1.2.1 (by decide +kernel)) (YRs_tr (YRs_fr f32.1.2.1 (by decide +kernel)) (YRs_up f34 (.inr (by rw [f25]; decide)))))))), KRr_tr kr (KRr_tr (KRr_z (ZRs_fr f20.1.2.1 (by decide +kernel))) (KRr_tr (KRr_z (ZRs_up f22 (by rw [f13]; decide))) (KRr_tr (KRr_z (ZRs_fr f24.1.2.1 (by decide +kernel))) (KRr_tr (KRr_z (ZRs_fr f32.1.2.1 (by decide +kernel))) (KRr_z (ZRs_up f34 (by rw [f25]; decide))))))), fun hp => ?_⟩
  have xl : xRule (vwR H0) (absR H0) = none := if_neg (by omega)
  rw [xl]
  refine ⟨?_, GRl_none⟩
  show hV H6 307 (n0).toNat = 1
  rw [show hV H6 307 = hV H1 307 from ((uRowNe f34 307 (by rw [f25]; decide)).trans ((fRow f32.1.2.1 307 (by decide +kernel)).trans ((fRow f24.1.2.1 307 (by decide +kernel)).trans ((uRowNe f22 307 (by rw [f13]; decide)).trans (fRow f20.1.2.1 307 (by decide +kernel))))))]
  omega
def g_232y_125_2 : vG := ([(80, [11, 2, 14], [6, 5], 0), (23, [11], [5], 332), (1223, [14, 1, 12, 13], [4, 5], 0), (90, [14], [], 0), (91, [14], [], 9999), (0, [13], [], 60), (0, [12], [], 1), (20, [11, 1], [4], 43), (23, [1], [4], 12), (0, [11], [], 313), (1220, [1, 10], [3, 4], 0), (0, [10], [], 45), (80, [6, 2, 9], [3, 2], 0), (23, [6], [2], 324), (1223, [9, 1, 7, 8], [1, 2], 0), (90, [9], [], 0), (91, [9], [], 9999), (0, [8], [], 9999), (0, [7], [], 0), (20, [6, 1], [1], 42), (23, [1], [1], 12), (0, [6], [], 312), (40, [4, 5], [], 0), (0, [5], [], 1), (22, [4, 3, 2], [1], 0), (90, [4], [], 0), (91, [4], [], 1), (20, [3, 1], [1], 37), (23, [1], [1], 12), (0, [3], [], 307), (5000, [0, 1, 2], [0, 1], 125), (0, [0], [], 285), (0, [1], [], 285), (90, [2], [], 0), (91, [2], [], 23)], (4000, [1, 2], [6], 255))
theorem c_232y_125_2 {q0 : Nat} : vOkm T0 (eN e_232w L_232y (eAB A_232 B_232) mu_232 y_232 By_232 (some q0)) 1 g_232y_125_2 := vOk_inI fun ρ η f0 f1 f2 f3 f4 f5 f6 f7 f8 f9 f10 f11 f12 f13 f14 f15 f16 f17 f18 f19 f20 f21 f22 f23 f24 f25 f26 f27 f28 f29 f30 f31 f32 f33 f34 => q_232y_14 (q0 := q0) (n0 := ρ 2) (n1 := ρ 1) (n2 := ρ 0) (n3 := ρ 3) (n4 := ρ 4) (n5 := ρ 5) (n6 := ρ 6) (n7 := ρ 7) (n8 := ρ 8) (n9 := ρ 9) (n10 := ρ 10) (n11 := ρ 11) (n12 := ρ 12) (n13 := ρ 13) (n14 := ρ 14) (H0 := η 0) (H1 := η 1) (H2 := η 2) (H3 := η 3) (H4 := η 4) (H5 := η 5) (H6 := η 6) f34 f33 f32 f31 f30 f29 f28 f27 f26 f25 f24 f23 f22 f21 f20 f19 f18 f17 f16 f15 f14 f13 f12 f11 f10 f9 f8 f7 f6 f5 f4 f3 f2 f1 f0
def p_232y_125 : List vG := [g_232y_125_0,
  g_232y_125_1,
  g_232y_125_2]
theorem r_232y_125 : vCovBO (eRc e_232w L_232w cs_232 2000 (125, [(0, (3, 12, 285, 0)), (1, (0, 0, 23, 0))])) p_232y_125 = true := by decide +kernel
theorem q_232y_15 {q0 : Nat} {n0 n1 n2 n3 n4 : Int} {H0 H1 : gH} (f0 : n0 ≤ 1) (f1 : 0 ≤ n0) (f2 : n1 ≤ 1) (f3 : 0 ≤ n1) (f4 : n2 ≤ 23) (f5 : 0 ≤ n2) (f6 : n3 = 285) (f7 : n4 = 285) (f8 : (hLe T0 H0 H1 ∧ hFr s_232.2.2.2.2 H0 H1 ∧ hWt T0 H1) ∧ (((Ab_232_202 n4 n3 n2 n1 n0 H0 H1 ∧ Bb_232_202 n4 n3 n2 n1 n0 H0 H1) ∧ Byb_232_202 n4 n3 n2 n1 n0 H0 H1) ∧ preb_232 n4 H0) ∧ some q0 = some (mub_232_202 n4 n3 n2 n1 n0 H0 H1)) (f9 : n1 = 0) : Byb_232_255 n4 n3 n2 H0 H1 := by
  unfold Byb_232_255
  intro z s0 l0
  have ga := f8.2.1.1.1.2
  unfold Bb_232_202 at ga
  obtain ⟨z1, rs, h12, kd, y1, y0⟩ := ga z
  have vz : vwR H1 = vwR H0 := vwR_fr f8.1.2.1 (by decide +kernel)
  have gy := f8.2.1.1.2
  unfold Byb_232_202 at gy
  obtain ⟨kc, kl, kr, ky⟩ := gy z s0 l0
  have q9 := f9
  have rg0 := f0
  have rg1 := f1
  have rg2 := f2
  have rg3 := f3
  have rg4 := f4
  have rg5 := f5
  exact ⟨kc, kl, kr, fun hp => RUm_end (ky hp) (by omega) kd⟩
def g_232y_202_0 : vG := ([(30, [3], [], 0), (5000, [0, 1, 2, 3, 4], [0, 1], 202), (0, [0], [], 285), (0, [1], [], 285), (90, [2], [], 0), (91, [2], [], 23), (90, [3], [], 0), (91, [3], [], 1), (90, [4], [], 0), (91, [4], [], 1)], (4000, [1, 2], [1], 255))
theorem c_232y_202_0 {q0 : Nat} : vOkm T0 (eN e_232w L_232y (eAB A_232 B_232) mu_232 y_232 By_232 (some q0)) 1 g_232y_202_0 := vOk_inI fun ρ η f0 f1 f2 f3 f4 f5 f6 f7 f8 f9 => q_232y_15 (q0 := q0) (n0 := ρ 4) (n1 := ρ 3) (n2 := ρ 2) (n3 := ρ 1) (n4 := ρ 0) (H0 := η 0) (H1 := η 1) f9 f8 f7 f6 f5 f4 f3 f2 f1 f0
theorem q_232y_16 {q0 : Nat} {n0 n1 n2 n3 n4 n5 : Int} {H0 H1 : gH} (f0 : n0 ≤ 1) (f1 : 0 ≤ n0) (f2 : n1 ≤ 1) (f3 : 0 ≤ n1) (f4 : n2 ≤ 23) (f5 : 0 ≤ n2) (f6 : n3 = 285) (f7 : n4 = 285) (f8 : (hLe T0 H0 H1 ∧ hFr s_232.2.2.2.2 H0 H1 ∧ hWt T0 H1) ∧ (((Ab_232_202 n4 n3 n2 n1 n0 H0 H1 ∧ Bb_232_202 n4 n3 n2 n1 n0 H0 H1) ∧ Byb_232_202 n4 n3 n2 n1 n0 H0 H1) ∧ preb_232 n4 H0) ∧ some q0 = some (mub_232_202 n4 n3 n2 n1 n0 H0 H1)) (f9 : n1 ≠ 0) (f10 : n5 ≤ 2) (f11 : 0 ≤ n5) (f12 : hK H1 (n3).toNat = 12) (f13 : n5 = hV H1 (n3).toNat 13) (f14 : n5 ≠ 0) : Byb_232_255 n4 n3 n2 H0 H1 := by
  unfold Byb_232_255
  intro z s0 l0
  have ga := f8.2.1.1.1.2
  unfold Bb_232_202 at ga
  obtain ⟨z1, rs, h12, kd, y1, y0⟩ := ga z
  have vz : vwR H1 = vwR H0 := vwR_fr f8.1.2.1 (by decide +kernel)
  have gy := f8.2.1.1.2
  unfold Byb_232_202 at gy
  obtain ⟨kc, kl, kr, ky⟩ := gy z s0 l0
  have d13 := rdS (q := 285) f13 f6
  have q9 := f9
  have q14 := f14
  have rg0 := f0
  have rg1 := f1
  have rg2 := f2
  have rg3 := f3
  have rg4 := f4
  have rg5 := f5
  refine ⟨kc, kl, kr, fun hp => ?_⟩
  exfalso
  have := absR_neg z1 (by omega)
  omega
def g_232y_202_1 : vG := ([(31, [5], [], 0), (20, [5, 1], [1], 13), (23, [1], [1], 12), (90, [5], [], 0), (91, [5], [], 2), (31, [3], [], 0), (5000, [0, 1, 2, 3, 4], [0, 1], 202), (0, [0], [], 285), (0, [1], [], 285), (90, [2], [], 0), (91, [2], [], 23), (90, [3], [], 0), (91, [3], [], 1), (90, [4], [], 0), (91, [4], [], 1)], (4000, [1, 2], [1], 255))
theorem c_232y_202_1 {q0 : Nat} : vOkm T0 (eN e_232w L_232y (eAB A_232 B_232) mu_232 y_232 By_232 (some q0)) 1 g_232y_202_1 := vOk_inI fun ρ η f0 f1 f2 f3 f4 f5 f6 f7 f8 f9 f10 f11 f12 f13 f14 => q_232y_16 (q0 := q0) (n0 := ρ 4) (n1 := ρ 3) (n2 := ρ 2) (n3 := ρ 1) (n4 := ρ 0) (n5 := ρ 5) (H0 := η 0) (H1 := η 1) f14 f13 f12 f11 f10 f9 f8 f7 f6 f5 f4 f3 f2 f1 f0
theorem q_232y_17 {q0 : Nat} {n0 n1 n2 n3 n4 n5 n6 n7 n8 : Int} {H0 H1 H2 H3 : gH} (f0 : n0 ≤ 1) (f1 : 0 ≤ n0) (f2 : n1 ≤ 1) (f3 : 0 ≤ n1) (f4 : n2 ≤ 23) (f5 : 0 ≤ n2) (f6 : n3 = 285) (f7 : n4 = 285) (f8 : (hLe T0 H0 H1 ∧ hFr s_232.2.2.2.2 H0 H1 ∧ hWt T0 H1) ∧ (((Ab_232_202 n4 n3 n2 n1 n0 H0 H1 ∧ Bb_232_202 n4 n3 n2 n1 n0 H0 H1) ∧ Byb_232_202 n4 n3 n2 n1 n0 H0 H1) ∧ preb_232 n4 H0) ∧ some q0 = some (mub_232_202 n4 n3 n2 n1 n0 H0 H1)) (f9 : n1 ≠ 0) (f10 : n5 ≤ 2) (f11 : 0 ≤ n5) (f12 : hK H1 (n3).toNat = 12) (f13 : n5 = hV H1 (n3).toNat 13) (f14 : n5 = 0) (f15 : (hLe T0 H1 H2 ∧ hFr s_233.2.2.2.2 H1 H2 ∧ ((0 : Int) = 0 → H2.length = H1.length) ∧ hWt T0 H2) ∧ ((postb_233 n3 n0 H1 H2 ∧ nb_233 n3 n0 H1 H2) ∧ yb_233 n3 n0 H1 H2)) (f16 : n6 = 46) (f17 : n7 ≤ 1) (f18 : 0 ≤ n7) (f19 : (hLe T0 H2 H3 ∧ hFr s_216.2.2.2.2 H2 H3 ∧ ((0 : Int) = 0 → H3.length = H2.length) ∧ hWt T0 H3) ∧ postb_216 n7 n3 n6 H2 H3) (f20 : n7 ≠ 0) (f21 : n8 = 1) (f22 : n8 = 0) : Byb_232_202 n4 n3 n2 n8 n7 H0 H3 := by
  unfold Byb_232_202
  intro z s0 l0
  exfalso
  have dd := f22
  have dc21 := f21
  omega
def g_232y_202_2 : vG := ([(30, [8], [], 0), (0, [8], [], 1), (31, [7], [], 0), (1216, [7, 1, 6], [2, 3], 0), (90, [7], [], 0), (91, [7], [], 1), (0, [6], [], 46), (1233, [1, 4], [1, 2], 0), (30, [5], [], 0), (20, [5, 1], [1], 13), (23, [1], [1], 12), (90, [5], [], 0), (91, [5], [], 2), (31, [3], [], 0), (5000, [0, 1, 2, 3, 4], [0, 1], 202), (0, [0], [], 285), (0, [1], [], 285), (90, [2], [], 0), (91, [2], [], 23), (90, [3], [], 0), (91, [3], [], 1), (90, [4], [], 0), (91, [4], [], 1)], (4000, [1, 2, 8, 7], [3], 202))
theorem c_232y_202_2 {q0 : Nat} : vOkm T0 (eN e_232w L_232y (eAB A_232 B_232) mu_232 y_232 By_232 (some q0)) 1 g_232y_202_2 := vOk_inI fun ρ η f0 f1 f2 f3 f4 f5 f6 f7 f8 f9 f10 f11 f12 f13 f14 f15 f16 f17 f18 f19 f20 f21 f22 => q_232y_17 (q0 := q0) (n0 := ρ 4) (n1 := ρ 3) (n2 := ρ 2) (n3 := ρ 1) (n4 := ρ 0) (n5 := ρ 5) (n6 := ρ 6) (n7 := ρ 7) (n8 := ρ 8) (H0 := η 0) (H1 := η 1) (H2 := η 2) (H3 := η 3) f22 f21 f20 f19 f18 f17 f16 f15 f14 f13 f12 f11 f10 f9 f8 f7 f6 f5 f4 f3 f2 f1 f0
theorem q_232y_18 {q0 : Nat} {n0 n1 n2 n3 n4 n5 n6 n7 n8 : Int} {H0 H1 H2 H3 H4 : gH} (f0 : n0 ≤ 1) (f1 : 0 ≤ n0) (f2 : n1 ≤ 1) (f3 : 0 ≤ n1) (f4 : n2 ≤ 23) (f5 : 0 ≤ n2) (f6 : n3 = 285) (f7 : n4 = 285) (f8 : (hLe T0 H0 H1 ∧ hFr s_232.2.2.2.2 H0 H1 ∧ hWt T0 H1) ∧ (((Ab_232_202 n4 n3 n2 n1 n0 H0 H1 ∧ Bb_232_202 n4 n3 n2 n1 n0 H0 H1) ∧ Byb_232_202 n4 n3 n2 n1 n0 H0 H1) ∧ preb_232 n4 H0) ∧ some q0 = some (mub_232_202 n4 n3 n2 n1 n0 H0 H1)) (f9 : n1 ≠ 0) (f10 : n5 ≤ 2) (f11 : 0 ≤ n5) (f12 : hK H1 (n3).toNat = 12) (f13 : n5 = hV H1 (n3).toNat 13) (f14 : n5 = 0) (f15 : (hLe T0 H1 H2 ∧ hFr s_233.2.2.2.2 H1 H2 ∧ ((0 : Int) = 0 → H2.length = H1.length) ∧ hWt T0 H2) ∧ ((postb_233 n3 n0 H1 H2 ∧ nb_233 n3 n0 H1 H2) ∧ yb_233 n3 n0 H1 H2)) (f16 : n6 = 46) (f17 : n7 ≤ 1) (f18 : 0 ≤ n7) (f19 : (hLe T0 H2 H3 ∧ hFr s_216.2.2.2.2 H2 H3 ∧ ((0 : Int) = 0 → H3.length = H2.length) ∧ hWt T0 H3) ∧ postb_216 n7 n3 n6 H2 H3) (f20 : n7 ≠ 0) (f21 : n8 = 1) (f22 : n8 ≠ 0) (f23 : (hLe T0 H3 H4 ∧ hFr s_219.2.2.2.2 H3 H4 ∧ ((0 : Int) = 0 → H4.length = H3.length) ∧ hWt T0 H4) ∧ (postb_219 n3 H3 H4 ∧ nb_219 n3 H3 H4)) : Byb_232_202 n4 n3 n2 n8 n7 H0 H4 := by
  unfold Byb_232_202
  intro z s0 l0
  have ga := f8.2.1.1.1.2
  unfold Bb_232_202 at ga
  obtain ⟨z1, rs, h12, kd, y1, y0⟩ := ga z
  have vz : vwR H1 = vwR H0 := vwR_fr f8.1.2.1 (by decide +kernel)
  have gy := f8.2.1.1.2
  unfold Byb_232_202 at gy
  obtain ⟨kc, kl, kr, ky⟩ := gy z s0 l0
  have d13 := rdS (q := 285) f13 f6
  have q9 := f9
  have q14 := f14
  have q20 := f20
  have q22 := f22
  have rg0 := f0
  have rg1 := f1
  have rg2 := f2
  have rg3 := f3
  have rg4 := f4
  have rg5 := f5
  have c0 := f15.2.1.2 z1
  rw [vz] at c0
  have v0 : vwR H2 = vwR H0 := (vwR_fr f15.1.2.1 (by decide +kernel)).trans vz
  have p1 := PR_fr f19.1.2.1 (by decide +kernel) c0.1
  have v1 : vwR H3 = vwR H0 := p1.2.1.trans v0
  have ah1 : absR H3 = (pLit (vwR H0) (absR H1)) := p1.1.trans c0.2
  have i1 := f19.2
  unfold postb_216 at i1
  rw [f16] at i1
  have cm1 := f20
  have b1 := (isR_or (k := 46) p1.2.2.1 (by decide) i1).resolve_right (fun w => cm1 w.1)
  replace b1 := b1.2
  rw [v1, ah1, kmc_46] at b1
  have c2 := f23.2.2 p1.2.2.1 (by rw [v1, ah1]; rw [b1]; decide)
  rw [v1, ah1, b1] at c2
  have v2 : vwR H4 = vwR H0 := (vwR_fr f23.1.2.1 (by decide +kernel)).trans v1
  have xb : XRk H1 H1 := XRk_rfl
  have yb : YRs H1 H1 := YRs_rfl
  have zb : ZRs H1 H1 := ZRs_rfl
  have kc0 := kc.1
  have kl0 := kl.1
  have lq := f15.2.2
  unfold yb_233 at lq
  have lq := lq z1 (by rw [xb.1]; omega) (by rw [yb.1]; omega)
  rw [vz] at lq
  refine ⟨KPc_tr kc (KPc_tr lq.1 (KPc_tr (KPc_x (XRk_fr f19.1.2.1 (by decide +kernel))) (KPc_x (XRk_fr f23.1.2.1 (by decide +kernel))))), KPl_tr kl (KPl_tr lq.2.1 (KPl_tr (KPl_y (YRs_fr f19.1.2.1 (by decide +kernel))) (KPl_y (YRs_fr f23.1.2.1 (by decide +kernel))))), KRr_tr kr (KRr_tr (KRr_z (ZRs_fr f15.1.2.1 (by decide +kernel))) (KRr_tr (KRr_z (ZRs_fr f19.1.2.1 (by decide +kernel))) (KRr_z (ZRs_fr f23.1.2.1 (by decide +kernel))))), fun hp => ?_⟩
  have aH : absR H4 = (ptk (vwR H0) 42 (pLit (vwR H0) (absR H1))) := c2.2
  have h1 : hV H1 285 13 = 0 := by omega
  have r5 := absR_500 z1 h1
  have ru := ky r5.1
  have hq := hp
  rw [aH] at hq
  have pn := ptkR_next z hq
  have hc : 0 ≤ (absR H2).1 := by
    rw [c0.2]
    exact (pt1R_kind z hq).1
  obtain ⟨l1, l2, l3⟩ := lq.2.2 hc
  have mv := pLit_mvR z (absR_ok z1) (by rw [← c0.2]; exact hc)
  exact RUm_lit (b := H1) (c := H2) s0 l0 ru (by omega) zb xb yb r5.2 lq.1 lq.2.1 (ZRs_fr f15.1.2.1 (by decide +kernel)) l1 l2 l3 mv (XRk_tr (XRk_fr f19.1.2.1 (by decide +kernel)) (XRk_fr f23.1.2.1 (by decide +kernel))) (YRs_tr (YRs_fr f19.1.2.1 (by decide +kernel)) (YRs_fr f23.1.2.1 (by decide +kernel))) (ZRs_tr (ZRs_fr f19.1.2.1 (by decide +kernel)) (ZRs_fr f23.1.2.1 (by decide +kernel))) (fun _ => ⟨.inl ⟨b1, by omega⟩, by rw [aH, b1], by rw [aH]; exact pn⟩) (fun w => by exfalso; omega)
def g_232y_202_3 : vG := ([(1219, [1], [3, 4], 0), (31, [8], [], 0), (0, [8], [], 1), (31, [7], [], 0), (1216, [7, 1, 6], [2, 3], 0), (90, [7], [], 0), (91, [7], [], 1), (0, [6], [], 46), (1233, [1, 4], [1, 2], 0), (30, [5], [], 0), (20, [5, 1], [1], 13), (23, [1], [1], 12), (90, [5], [], 0), (91, [5], [], 2), (31, [3], [], 0), (5000, [0, 1, 2, 3, 4], [0, 1], 202), (0, [0], [], 285), (0, [1], [], 285), (90, [2], [], 0), (91, [2], [], 23), (90, [3], [], 0), (91, [3], [], 1), (90, [4], [], 0), (91, [4], [], 1)], (4000, [1, 2, 8, 7], [4], 202))
theorem c_232y_202_3 {q0 : Nat} : vOkm T0 (eN e_232w L_232y (eAB A_232 B_232) mu_232 y_232 By_232 (some q0)) 1 g_232y_202_3 := vOk_inI fun ρ η f0 f1 f2 f3 f4 f5 f6 f7 f8 f9 f10 f11 f12 f13 f14 f15 f16 f17 f18 f19 f20 f21 f22 f23 => q_232y_18 (q0 := q0) (n0 := ρ 4) (n1 := ρ 3) (n2 := ρ 2) (n3 := ρ 1) (n4 := ρ 0) (n5 := ρ 5) (n6 := ρ 6) (n7 := ρ 7) (n8 := ρ 8) (H0 := η 0) (H1 := η 1) (H2 := η 2) (H3 := η 3) (H4 := η 4) f23 f22 f21 f20 f19 f18 f17 f16 f15 f14 f13 f12 f11 f10 f9 f8 f7 f6 f5 f4 f3 f2 f1 f0
theorem q_232y_19 {q0 : Nat} {n0 n1 n2 n3 n4 n5 n6 n7 n8 n9 n10 : Int} {H0 H1 H2 H3 H4 : gH} (f0 : n0 ≤ 1) (f1 : 0 ≤ n0) (f2 : n1 ≤ 1) (f3 : 0 ≤ n1) (f4 : n2 ≤ 23) (f5 : 0 ≤ n2) (f6 : n3 = 285) (f7 : n4 = 285) (f8 : (hLe T0 H0 H1 ∧ hFr s_232.2.2.2.2 H0 H1 ∧ hWt T0 H1) ∧ (((Ab_232_202 n4 n3 n2 n1 n0 H0 H1 ∧ Bb_232_202 n4 n3 n2 n1 n0 H0 H1) ∧ Byb_232_202 n4 n3 n2 n1 n0 H0 H1) ∧ preb_232 n4 H0) ∧ some q0 = some (mub_232_202 n4 n3 n2 n1 n0 H0 H1)) (f9 : n1 ≠ 0) (f10 : n5 ≤ 2) (f11 : 0 ≤ n5) (f12 : hK H1 (n3).toNat = 12) (f13 : n5 = hV H1 (n3).toNat 13) (f14 : n5 = 0) (f15 : (hLe T0 H1 H2 ∧ hFr s_233.2.2.2.2 H1 H2 ∧ ((0 : Int) = 0 → H2.length = H1.length) ∧ hWt T0 H2) ∧ ((postb_233 n3 n0 H1 H2 ∧ nb_233 n3 n0 H1 H2) ∧ yb_233 n3 n0 H1 H2)) (f16 : n6 = 46) (f17 : n7 ≤ 1) (f18 : 0 ≤ n7) (f19 : (hLe T0 H2 H3 ∧ hFr s_216.2.2.2.2 H2 H3 ∧ ((0 : Int) = 0 → H3.length = H2.length) ∧ hWt T0 H3) ∧ postb_216 n7 n3 n6 H2 H3) (f20 : n7 = 0) (f21 : n8 = 47) (f22 : n9 ≤ 1) (f23 : 0 ≤ n9) (f24 : (hLe T0 H3 H4 ∧ hFr s_216.2.2.2.2 H3 H4 ∧ ((0 : Int) = 0 → H4.length = H3.length) ∧ hWt T0 H4) ∧ postb_216 n9 n3 n8 H3 H4) (f25 : n9 = 0) (f26 : n10 = 0) (f27 : n10 = 0) : Byb_232_202 n4 n3 n2 n10 n7 H0 H4 := by
  unfold Byb_232_202
  intro z s0 l0
  have ga := f8.2.1.1.1.2
  unfold Bb_232_202 at ga
  obtain ⟨z1, rs, h12, kd, y1, y0⟩ := ga z
  have vz : vwR H1 = vwR H0 := vwR_fr f8.1.2.1 (by decide +kernel)
  have gy := f8.2.1.1.2
  unfold Byb_232_202 at gy
  obtain ⟨kc, kl, kr, ky⟩ := gy z s0 l0
  have d13 := rdS (q := 285) f13 f6
  have q9 := f9
  have q14 := f14
  have q20 := f20
  have q25 := f25
  have q27 := f27
  have rg0 := f0
  have rg1 := f1
  have rg2 := f2
  have rg3 := f3
  have rg4 := f4
  have rg5 := f5
  have c0 := f15.2.1.2 z1
  rw [vz] at c0
  have v0 : vwR H2 = vwR H0 := (vwR_fr f15.1.2.1 (by decide +kernel)).trans vz
  have p1 := PR_fr f19.1.2.1 (by decide +kernel) c0.1
  have v1 : vwR H3 = vwR H0 := p1.2.1.trans v0
  have ah1 : absR H3 = (pLit (vwR H0) (absR H1)) := p1.1.trans c0.2
  have i1 := f19.2
  unfold postb_216 at i1
  rw [f16] at i1
  have cm1 := f20
  have b1 := (isR_or (k := 46) p1.2.2.1 (by decide) i1).resolve_left (fun w => absurd (w.1.symm.trans cm1) (by decide))
  replace b1 := b1.2
  rw [v1, ah1, kmc_46] at b1
  have p2 := PR_fr f24.1.2.1 (by decide +kernel) p1.2.2.1
  have v2 : vwR H4 = vwR H0 := p2.2.1.trans v1
  have ah2 : absR H4 = (pLit (vwR H0) (absR H1)) := p2.1.trans ah1
  have i2 := f24.2
  unfold postb_216 at i2
  rw [f21] at i2
  have cm2 := f25
  have b2 := (isR_or (k := 47) p2.2.2.1 (by decide) i2).resolve_left (fun w => absurd (w.1.symm.trans cm2) (by decide))
  replace b2 := b2.2
  rw [v2, ah2, kmc_47] at b2
  have xb : XRk H1 H1 := XRk_rfl
  have yb : YRs H1 H1 := YRs_rfl
  have zb : ZRs H1 H1 := ZRs_rfl
  have kc0 := kc.1
  have kl0 := kl.1
  have lq := f15.2.2
  unfold yb_233 at lq
  have lq := lq z1 (by rw [xb.1]; omega) (by rw [yb.1]; omega)
  rw [vz] at lq
  refine ⟨KPc_tr kc (KPc_tr lq.1 (KPc_tr (KPc_x (XRk_fr f19.1.2.1 (by decide +kernel))) (KPc_x (XRk_fr f24.1.2.1 (by decide +kernel))))), KPl_tr kl (KPl_tr lq.2.1 (KPl_tr (KPl_y (YRs_fr f19.1.2.1 (by decide +kernel))) (KPl_y (YRs_fr f24.1.2.1 (by decide +kernel))))), KRr_tr kr (KRr_tr (KRr_z (ZRs_fr f15.1.2.1 (by decide +kernel))) (KRr_tr (KRr_z (ZRs_fr f19.1.2.1 (by decide +kernel))) (KRr_z (ZRs_fr f24.1.2.1 (by decide +kernel))))), fun hp => ?_⟩
  have aH : absR H4 = (pLit (vwR H0) (absR H1)) := ah2
  have h1 : hV H1 285 13 = 0 := by omega
  have r5 := absR_500 z1 h1
  have ru := ky r5.1
  have hc : 0 ≤ (absR H2).1 := by
    rw [c0.2, ← aH]
    exact hp
  obtain ⟨l1, l2, l3⟩ := lq.2.2 hc
  have mv := pLit_mvR z (absR_ok z1) (by rw [← c0.2]; exact hc)
  exact RUm_lit (b := H1) (c := H2) s0 l0 ru (by omega) zb xb yb r5.2 lq.1 lq.2.1 (ZRs_fr f15.1.2.1 (by decide +kernel)) l1 l2 l3 mv (XRk_tr (XRk_fr f19.1.2.1 (by decide +kernel)) (XRk_fr f24.1.2.1 (by decide +kernel))) (YRs_tr (YRs_fr f19.1.2.1 (by decide +kernel)) (YRs_fr f24.1.2.1 (by decide +kernel))) (ZRs_tr (ZRs_fr f19.1.2.1 (by decide +kernel)) (ZRs_fr f24.1.2.1 (by decide +kernel))) (fun w => by exfalso; omega) (fun _ c => c.elim b1 b2)
def g_232y_202_4 : vG := ([(30, [10], [], 0), (0, [10], [], 0), (30, [9], [], 0), (1216, [9, 1, 8], [3, 4], 0), (90, [9], [], 0), (91, [9], [], 1), (0, [8], [], 47), (30, [7], [], 0), (1216, [7, 1, 6], [2, 3], 0), (90, [7], [], 0), (91, [7], [], 1), (0, [6], [], 46), (1233, [1, 4], [1, 2], 0), (30, [5], [], 0), (20, [5, 1], [1], 13), (23, [1], [1], 12), (90, [5], [], 0), (91, [5], [], 2), (31, [3], [], 0), (5000, [0, 1, 2, 3, 4], [0, 1], 202), (0, [0], [], 285), (0, [1], [], 285), (90, [2], [], 0), (91, [2], [], 23), (90, [3], [], 0), (91, [3], [], 1), (90, [4], [], 0), (91, [4], [], 1)], (4000, [1, 2, 10, 7], [4], 202))
theorem c_232y_202_4 {q0 : Nat} : vOkm T0 (eN e_232w L_232y (eAB A_232 B_232) mu_232 y_232 By_232 (some q0)) 1 g_232y_202_4 := vOk_inI fun ρ η f0 f1 f2 f3 f4 f5 f6 f7 f8 f9 f10 f11 f12 f13 f14 f15 f16 f17 f18 f19 f20 f21 f22 f23 f24 f25 f26 f27 => q_232y_19 (q0 := q0) (n0 := ρ 4) (n1 := ρ 3) (n2 := ρ 2) (n3 := ρ 1) (n4 := ρ 0) (n5 := ρ 5) (n6 := ρ 6) (n7 := ρ 7) (n8 := ρ 8) (n9 := ρ 9) (n10 := ρ 10) (H0 := η 0) (H1 := η 1) (H2 := η 2) (H3 := η 3) (H4 := η 4) f27 f26 f25 f24 f23 f22 f21 f20 f19 f18 f17 f16 f15 f14 f13 f12 f11 f10 f9 f8 f7 f6 f5 f4 f3 f2 f1 f0
theorem q_232y_20 {q0 : Nat} {n0 n1 n2 n3 n4 n5 n6 n7 n8 n9 n10 : Int} {H0 H1 H2 H3 H4 H5 : gH} (f0 : n0 ≤ 1) (f1 : 0 ≤ n0) (f2 : n1 ≤ 1) (f3 : 0 ≤ n1) (f4 : n2 ≤ 23) (f5 : 0 ≤ n2) (f6 : n3 = 285) (f7 : n4 = 285) (f8 : (hLe T0 H0 H1 ∧ hFr s_232.2.2.2.2 H0 H1 ∧ hWt T0 H1) ∧ (((Ab_232_202 n4 n3 n2 n1 n0 H0 H1 ∧ Bb_232_202 n4 n3 n2 n1 n0 H0 H1) ∧ Byb_232_202 n4 n3 n2 n1 n0 H0 H1) ∧ preb_232 n4 H0) ∧ some q0 = some (mub_232_202 n4 n3 n2 n1 n0 H0 H1)) (f9 : n1 ≠ 0) (f10 : n5 ≤ 2) (f11 : 0 ≤ n5) (f12 : hK H1 (n3).toNat = 12) (f13 : n5 = hV H1 (n3).toNat 13) (f14 : n5 = 0) (f15 : (hLe T0 H1 H2 ∧ hFr s_233.2.2.2.2 H1 H2 ∧ ((0 : Int) = 0 → H2.length = H1.length) ∧ hWt T0 H2) ∧ ((postb_233 n3 n0 H1 H2 ∧ nb_233 n3 n0 H1 H2) ∧ yb_233 n3 n0 H1 H2)) (f16 : n6 = 46) (f17 : n7 ≤ 1) (f18 : 0 ≤ n7) (f19 : (hLe T0 H2 H3 ∧ hFr s_216.2.2.2.2 H2 H3 ∧ ((0 : Int) = 0 → H3.length = H2.length) ∧ hWt T0 H3) ∧ postb_216 n7 n3 n6 H2 H3) (f20 : n7 = 0) (f21 : n8 = 47) (f22 : n9 ≤ 1) (f23 : 0 ≤ n9) (f24 : (hLe T0 H3 H4 ∧ hFr s_216.2.2.2.2 H3 H4 ∧ ((0 : Int) = 0 → H4.length = H3.length) ∧ hWt T0 H4) ∧ postb_216 n9 n3 n8 H3 H4) (f25 : n9 = 0) (f26 : n10 = 0) (f27 : n10 ≠ 0) (f28 : (hLe T0 H4 H5 ∧ hFr s_219.2.2.2.2 H4 H5 ∧ ((0 : Int) = 0 → H5.length = H4.length) ∧ hWt T0 H5) ∧ (postb_219 n3 H4 H5 ∧ nb_219 n3 H4 H5)) : Byb_232_202 n4 n3 n2 n10 n7 H0 H5 := by
  unfold Byb_232_202
  intro z s0 l0
  exfalso
  have dd := f27
  have dc26 := f26
  omega
def g_232y_202_5 : vG := ([(1219, [1], [4, 5], 0), (31, [10], [], 0), (0, [10], [], 0), (30, [9], [], 0), (1216, [9, 1, 8], [3, 4], 0), (90, [9], [], 0), (91, [9], [], 1), (0, [8], [], 47), (30, [7], [], 0), (1216, [7, 1, 6], [2, 3], 0), (90, [7], [], 0), (91, [7], [], 1), (0, [6], [], 46), (1233, [1, 4], [1, 2], 0), (30, [5], [], 0), (20, [5, 1], [1], 13), (23, [1], [1], 12), (90, [5], [], 0), (91, [5], [], 2), (31, [3], [], 0), (5000, [0, 1, 2, 3, 4], [0, 1], 202), (0, [0], [], 285), (0, [1], [], 285), (90, [2], [], 0), (91, [2], [], 23), (90, [3], [], 0), (91, [3], [], 1), (90, [4], [], 0), (91, [4], [], 1)], (4000, [1, 2, 10, 7], [5], 202))
theorem c_232y_202_5 {q0 : Nat} : vOkm T0 (eN e_232w L_232y (eAB A_232 B_232) mu_232 y_232 By_232 (some q0)) 1 g_232y_202_5 := vOk_inI fun ρ η f0 f1 f2 f3 f4 f5 f6 f7 f8 f9 f10 f11 f12 f13 f14 f15 f16 f17 f18 f19 f20 f21 f22 f23 f24 f25 f26 f27 f28 => q_232y_20 (q0 := q0) (n0 := ρ 4) (n1 := ρ 3) (n2 := ρ 2) (n3 := ρ 1) (n4 := ρ 0) (n5 := ρ 5) (n6 := ρ 6) (n7 := ρ 7) (n8 := ρ 8) (n9 := ρ 9) (n10 := ρ 10) (H0 := η 0) (H1 := η 1) (H2 := η 2) (H3 := η 3) (H4 := η 4) (H5 := η 5) f28 f27 f26 f25 f24 f23 f22 f21 f20 f19 f18 f17 f16 f15 f14 f13 f12 f11 f10 f9 f8 f7 f6 f5 f4 f3 f2 f1 f0
theorem q_232y_21 {q0 : Nat} {n0 n1 n2 n3 n4 n5 n6 n7 n8 n9 n10 : Int} {H0 H1 H2 H3 H4 : gH} (f0 : n0 ≤ 1) (f1 : 0 ≤ n0) (f2 : n1 ≤ 1) (f3 : 0 ≤ n1) (f4 : n2 ≤ 23) (f5 : 0 ≤ n2) (f6 : n3 = 285) (f7 : n4 = 285) (f8 : (hLe T0 H0 H1 ∧ hFr s_232.2.2.2.2 H0 H1 ∧ hWt T0 H1) ∧ (((Ab_232_202 n4 n3 n2 n1 n0 H0 H1 ∧ Bb_232_202 n4 n3 n2 n1 n0 H0 H1) ∧ Byb_232_202 n4 n3 n2 n1 n0 H0 H1) ∧ preb_232 n4 H0) ∧ some q0 = some (mub_232_202 n4 n3 n2 n1 n0 H0 H1)) (f9 : n1 ≠ 0) (f10 : n5 ≤ 2) (f11 : 0 ≤ n5) (f12 : hK H1 (n3).toNat = 12) (f13 : n5 = hV H1 (n3).toNat 13) (f14 : n5 = 0) (f15 : (hLe T0 H1 H2 ∧ hFr s_233.2.2.2.2 H1 H2 ∧ ((0 : Int) = 0 → H2.length = H1.length) ∧ hWt T0 H2) ∧ ((postb_233 n3 n0 H1 H2 ∧ nb_233 n3 n0 H1 H2) ∧ yb_233 n3 n0 H1 H2)) (f16 : n6 = 46) (f17 : n7 ≤ 1) (f18 : 0 ≤ n7) (f19 : (hLe T0 H2 H3 ∧ hFr s_216.2.2.2.2 H2 H3 ∧ ((0 : Int) = 0 → H3.length = H2.length) ∧ hWt T0 H3) ∧ postb_216 n7 n3 n6 H2 H3) (f20 : n7 = 0) (f21 : n8 = 47) (f22 : n9 ≤ 1) (f23 : 0 ≤ n9) (f24 : (hLe T0 H3 H4 ∧ hFr s_216.2.2.2.2 H3 H4 ∧ ((0 : Int) = 0 → H4.length = H3.length) ∧ hWt T0 H4) ∧ postb_216 n9 n3 n8 H3 H4) (f25 : n9 ≠ 0) (f26 : n10 = 1) (f27 : n10 = 0) : Byb_232_202 n4 n3 n2 n10 n7 H0 H4 := by
  unfold Byb_232_202
  intro z s0 l0
  exfalso
  have dd := f27
  have dc26 := f26
  omega
def g_232y_202_6 : vG := ([(30, [10], [], 0), (0, [10], [], 1), (31, [9], [], 0), (1216, [9, 1, 8], [3, 4], 0), (90, [9], [], 0), (91, [9], [], 1), (0, [8], [], 47), (30, [7], [], 0), (1216, [7, 1, 6], [2, 3], 0), (90, [7], [], 0), (91, [7], [], 1), (0, [6], [], 46), (1233, [1, 4], [1, 2], 0), (30, [5], [], 0), (20, [5, 1], [1], 13), (23, [1], [1], 12), (90, [5], [], 0), (91, [5], [], 2), (31, [3], [], 0), (5000, [0, 1, 2, 3, 4], [0, 1], 202), (0, [0], [], 285), (0, [1], [], 285), (90, [2], [], 0), (91, [2], [], 23), (90, [3], [], 0), (91, [3], [], 1), (90, [4], [], 0), (91, [4], [], 1)], (4000, [1, 2, 10, 7], [4], 202))
theorem c_232y_202_6 {q0 : Nat} : vOkm T0 (eN e_232w L_232y (eAB A_232 B_232) mu_232 y_232 By_232 (some q0)) 1 g_232y_202_6 := vOk_inI fun ρ η f0 f1 f2 f3 f4 f5 f6 f7 f8 f9 f10 f11 f12 f13 f14 f15 f16 f17 f18 f19 f20 f21 f22 f23 f24 f25 f26 f27 => q_232y_21 (q0 := q0) (n0 := ρ 4) (n1 := ρ 3) (n2 := ρ 2) (n3 := ρ 1) (n4 := ρ 0) (n5 := ρ 5) (n6 := ρ 6) (n7 := ρ 7) (n8 := ρ 8) (n9 := ρ 9) (n10 := ρ 10) (H0 := η 0) (H1 := η 1) (H2 := η 2) (H3 := η 3) (H4 := η 4) f27 f26 f25 f24 f23 f22 f21 f20 f19 f18 f17 f16 f15 f14 f13 f12 f11 f10 f9 f8 f7 f6 f5 f4 f3 f2 f1 f0
theorem q_232y_22 {q0 : Nat} {n0 n1 n2 n3 n4 n5 n6 n7 n8 n9 n10 : Int} {H0 H1 H2 H3 H4 H5 : gH} (f0 : n0 ≤ 1) (f1 : 0 ≤ n0) (f2 : n1 ≤ 1) (f3 : 0 ≤ n1) (f4 : n2 ≤ 23) (f5 : 0 ≤ n2) (f6 : n3 = 285) (f7 : n4 = 285) (f8 : (hLe T0 H0 H1 ∧ hFr s_232.2.2.2.2 H0 H1 ∧ hWt T0 H1) ∧ (((Ab_232_202 n4 n3 n2 n1 n0 H0 H1 ∧ Bb_232_202 n4 n3 n2 n1 n0 H0 H1) ∧ Byb_232_202 n4 n3 n2 n1 n0 H0 H1) ∧ preb_232 n4 H0) ∧ some q0 = some (mub_232_202 n4 n3 n2 n1 n0 H0 H1)) (f9 : n1 ≠ 0) (f10 : n5 ≤ 2) (f11 : 0 ≤ n5) (f12 : hK H1 (n3).toNat = 12) (f13 : n5 = hV H1 (n3).toNat 13) (f14 : n5 = 0) (f15 : (hLe T0 H1 H2 ∧ hFr s_233.2.2.2.2 H1 H2 ∧ ((0 : Int) = 0 → H2.length = H1.length) ∧ hWt T0 H2) ∧ ((postb_233 n3 n0 H1 H2 ∧ nb_233 n3 n0 H1 H2) ∧ yb_233 n3 n0 H1 H2)) (f16 : n6 = 46) (f17 : n7 ≤ 1) (f18 : 0 ≤ n7) (f19 : (hLe T0 H2 H3 ∧ hFr s_216.2.2.2.2 H2 H3 ∧ ((0 : Int) = 0 → H3.length = H2.length) ∧ hWt T0 H3) ∧ postb_216 n7 n3 n6 H2 H3) (f20 : n7 = 0) (f21 : n8 = 47) (f22 : n9 ≤ 1) (f23 : 0 ≤ n9) (f24 : (hLe T0 H3 H4 ∧ hFr s_216.2.2.2.2 H3 H4 ∧ ((0 : Int) = 0 → H4.length = H3.length) ∧ hWt T0 H4) ∧ postb_216 n9 n3 n8 H3 H4) (f25 : n9 ≠ 0) (f26 : n10 = 1) (f27 : n10 ≠ 0) (f28 : (hLe T0 H4 H5 ∧ hFr s_219.2.2.2.2 H4 H5 ∧ ((0 : Int) = 0 → H5.length = H4.length) ∧ hWt T0 H5) ∧ (postb_219 n3 H4 H5 ∧ nb_219 n3 H4 H5)) : Byb_232_202 n4 n3 n2 n10 n7 H0 H5 := by
  unfold Byb_232_202
  intro z s0 l0
  have ga := f8.2.1.1.1.2
  unfold Bb_232_202 at ga
  obtain ⟨z1, rs, h12, kd, y1, y0⟩ := ga z
  have vz : vwR H1 = vwR H0 := vwR_fr f8.1.2.1 (by decide +kernel)
  have gy := f8.2.1.1.2
  unfold Byb_232_202 at gy
  obtain ⟨kc, kl, kr, ky⟩ := gy z s0 l0
  have d13 := rdS (q := 285) f13 f6
  have q9 := f9
  have q14 := f14
  have q20 := f20
  have q25 := f25
  have q27 := f27
  have rg0 := f0
  have rg1 := f1
  have rg2 := f2
  have rg3 := f3
  have rg4 := f4
  have rg5 := f5
  have c0 := f15.2.1.2 z1
  rw [vz] at c0
  have v0 : vwR H2 = vwR H0 := (vwR_fr f15.1.2.1 (by decide +kernel)).trans vz
  have p1 := PR_fr f19.1.2.1 (by decide +kernel) c0.1
  have v1 : vwR H3 = vwR H0 := p1.2.1.trans v0
  have ah1 : absR H3 = (pLit (vwR H0) (absR H1)) := p1.1.trans c0.2
  have i1 := f19.2
  unfold postb_216 at i1
  rw [f16] at i1
  have cm1 := f20
  have b1 := (isR_or (k := 46) p1.2.2.1 (by decide) i1).resolve_left (fun w => absurd (w.1.symm.trans cm1) (by decide))
  replace b1 := b1.2
  rw [v1, ah1, kmc_46] at b1
  have p2 := PR_fr f24.1.2.1 (by decide +kernel) p1.2.2.1
  have v2 : vwR H4 = vwR H0 := p2.2.1.trans v1
  have ah2 : absR H4 = (pLit (vwR H0) (absR H1)) := p2.1.trans ah1
  have i2 := f24.2
  unfold postb_216 at i2
  rw [f21] at i2
  have cm2 := f25
  have b2 := (isR_or (k := 47) p2.2.2.1 (by decide) i2).resolve_right (fun w => cm2 w.1)
  replace b2 := b2.2
  rw [v2, ah2, kmc_47] at b2
  have c3 := f28.2.2 p2.2.2.1 (by rw [v2, ah2]; rw [b2]; decide)
  rw [v2, ah2, b2] at c3
  have v3 : vwR H5 = vwR H0 := (vwR_fr f28.1.2.1 (by decide +kernel)).trans v2
  have xb : XRk H1 H1 := XRk_rfl
  have yb : YRs H1 H1 := YRs_rfl
  have zb : ZRs H1 H1 := ZRs_rfl
  have kc0 := kc.1
  have kl0 := kl.1
  have lq := f15.2.2
  unfold yb_233 at lq
  have lq := lq z1 (by rw [xb.1]; omega) (by rw [yb.1]; omega)
  rw [vz] at lq
  refine ⟨KPc_tr kc (KPc_tr lq.1 (KPc_tr (KPc_x (XRk_fr f19.1.2.1 (by decide +kernel))) (KPc_tr (KPc_x (XRk_fr f24.1.2.1 (by decide +kernel))) (KPc_x (XRk_fr f28.1.2.1 (by decide +kernel)))))), KPl_tr kl (KPl_tr lq.2.1 (KPl_tr (KPl_y (YRs_fr f19.1.2.1 (by decide +kernel))) (KPl_tr (KPl_y (YRs_fr f24.1.2.1 (by decide +kernel))) (KPl_y (YRs_fr f28.1.2.1 (by decide +kernel)))))), KRr_tr kr (KRr_tr (KRr_z (ZRs_fr f15.1.2.1 (by decide +kernel))) (KRr_tr (KRr_z (ZRs_fr f19.1.2.1 (by decide +kernel))) (KRr_tr (KRr_z (ZRs_fr f24.1.2.1 (by decide +kernel))) (KRr_z (ZRs_fr f28.1.2.1 (by decide +kernel)))))), fun hp => ?_⟩
  have aH : absR H5 = (ptk (vwR H0) 43 (pLit (vwR H0) (absR H1))) := c3.2
  have h1 : hV H1 285 13 = 0 := by omega
  have r5 := absR_500 z1 h1
  have ru := ky r5.1
  have hq := hp
  rw [aH] at hq
  have pn := ptkR_next z hq
  have hc : 0 ≤ (absR H2).1 := by
    rw [c0.2]
    exact (pt1R_kind z hq).1
  obtain ⟨l1, l2, l3⟩ := lq.2.2 hc
  have mv := pLit_mvR z (absR_ok z1) (by rw [← c0.2]; exact hc)
  exact RUm_lit (b := H1) (c := H2) s0 l0 ru (by omega) zb xb yb r5.2 lq.1 lq.2.1 (ZRs_fr f15.1.2.1 (by decide +kernel)) l1 l2 l3 mv (XRk_tr (XRk_fr f19.1.2.1 (by decide +kernel)) (XRk_tr (XRk_fr f24.1.2.1 (by decide +kernel)) (XRk_fr f28.1.2.1 (by decide +kernel)))) (YRs_tr (YRs_fr f19.1.2.1 (by decide +kernel)) (YRs_tr (YRs_fr f24.1.2.1 (by decide +kernel)) (YRs_fr f28.1.2.1 (by decide +kernel)))) (ZRs_tr (ZRs_fr f19.1.2.1 (by decide +kernel)) (ZRs_tr (ZRs_fr f24.1.2.1 (by decide +kernel)) (ZRs_fr f28.1.2.1 (by decide +kernel)))) (fun _ => ⟨.inr ⟨b2, by omega⟩, by rw [aH, b2], by rw [aH]; exact pn⟩) (fun w => by exfalso; omega)
def g_232y_202_7 : vG := ([(1219, [1], [4, 5], 0), (31, [10], [], 0), (0, [10], [], 1), (31, [9], [], 0), (1216, [9, 1, 8], [3, 4], 0), (90, [9], [], 0), (91, [9], [], 1), (0, [8], [], 47), (30, [7], [], 0), (1216, [7, 1, 6], [2, 3], 0), (90, [7], [], 0), (91, [7], [], 1), (0, [6], [], 46), (1233, [1, 4], [1, 2], 0), (30, [5], [], 0), (20, [5, 1], [1], 13), (23, [1], [1], 12), (90, [5], [], 0), (91, [5], [], 2), (31, [3], [], 0), (5000, [0, 1, 2, 3, 4], [0, 1], 202), (0, [0], [], 285), (0, [1], [], 285), (90, [2], [], 0), (91, [2], [], 23), (90, [3], [], 0), (91, [3], [], 1), (90, [4], [], 0), (91, [4], [], 1)], (4000, [1, 2, 10, 7], [5], 202))
theorem c_232y_202_7 {q0 : Nat} : vOkm T0 (eN e_232w L_232y (eAB A_232 B_232) mu_232 y_232 By_232 (some q0)) 1 g_232y_202_7 := vOk_inI fun ρ η f0 f1 f2 f3 f4 f5 f6 f7 f8 f9 f10 f11 f12 f13 f14 f15 f16 f17 f18 f19 f20 f21 f22 f23 f24 f25 f26 f27 f28 => q_232y_22 (q0 := q0) (n0 := ρ 4) (n1 := ρ 3) (n2 := ρ 2) (n3 := ρ 1) (n4 := ρ 0) (n5 := ρ 5) (n6 := ρ 6) (n7 := ρ 7) (n8 := ρ 8) (n9 := ρ 9) (n10 := ρ 10) (H0 := η 0) (H1 := η 1) (H2 := η 2) (H3 := η 3) (H4 := η 4) (H5 := η 5) f28 f27 f26 f25 f24 f23 f22 f21 f20 f19 f18 f17 f16 f15 f14 f13 f12 f11 f10 f9 f8 f7 f6 f5 f4 f3 f2 f1 f0
def p_232y_202 : List vG := [g_232y_202_0,
  g_232y_202_1,
  g_232y_202_2,
  g_232y_202_3,
  g_232y_202_4,
  g_232y_202_5,
  g_232y_202_6,
  g_232y_202_7]
theorem r_232y_202 : vCovBO (eRc e_232w L_232w cs_232 2000 (202, [(0, (3, 12, 285, 0)), (1, (0, 0, 23, 0)), (2, (0, 0, 1, 0)), (3, (0, 0, 1, 0))])) p_232y_202 = true := by decide +kernel
theorem q_232y_23 {q0 : Nat} {n0 n1 n2 n3 n4 n5 n6 n7 n8 n9 n10 n11 : Int} {H0 H1 H2 H3 H4 : gH} (f0 : n0 ≤ 23) (f1 : 0 ≤ n0) (f2 : n1 = 285) (f3 : n2 = 285) (f4 : (hLe T0 H0 H1 ∧ hFr s_232.2.2.2.2 H0 H1 ∧ hWt T0 H1) ∧ (((Ab_232_255 n2 n1 n0 H0 H1 ∧ Bb_232_255 n2 n1 n0 H0 H1) ∧ Byb_232_255 n2 n1 n0 H0 H1) ∧ preb_232 n2 H0) ∧ some q0 = some (mub_232_255 n2 n1 n0 H0 H1)) (f5 : n3 = 4) (f6 : (hLe T0 H1 H2 ∧ hFr s_220.2.2.2.2 H1 H2 ∧ ((0 : Int) = 0 → H2.length = H1.length) ∧ hWt T0 H2) ∧ (postb_220 n1 n3 H1 H2 ∧ nb_220 n1 n3 H1 H2)) (f7 : n4 ≤ 2) (f8 : 0 ≤ n4) (f9 : hK H2 (n1).toNat = 12) (f10 : n4 = hV H2 (n1).toNat 13) (f11 : n4 ≤ 0) (f12 : n5 = 311) (f13 : hK H2 (n1).toNat = 12) (f14 : n5 = hV H2 (n1).toNat 41) (f15 : n6 ≤ 400) (f16 : 0 ≤ n6) (f17 : hK H2 (n1).toNat = 12) (f18 : n6 = hV H2 (n1).toNat 44) (f19 : hK H2 (n5).toNat = 316) (f20 : hUpd H3 H2 n5 n0 n6) (f21 : n7 = 306) (f22 : hK H3 (n1).toNat = 12) (f23 : n7 = hV H3 (n1).toNat 36) (f24 : n8 ≤ 1) (f25 : 0 ≤ n8) (f26 : hK H3 (n1).toNat = 12) (f27 : n8 = hV H3 (n1).toNat 35) (f28 : n9 ≤ 12) (f29 : 0 ≤ n9) (f30 : n9 = hV H3 (n7).toNat (n8).toNat) (f31 : n10 = 1) (f32 : n11 = w32 (n9 + n10)) (f33 : hK H3 (n7).toNat = 276) (f34 : hUpd H4 H3 n7 n8 n11) : yb_232 n2 H0 H4 := by
  unfold yb_232
  intro z s0 l0
  have ga := f4.2.1.1.1.2
  unfold Bb_232_255 at ga
  obtain ⟨z1, rs, h12, kk, a1⟩ := ga z
  have vz : vwR H1 = vwR H0 := vwR_fr f4.1.2.1 (by decide +kernel)
  have gy := f4.2.1.1.2
  unfold Byb_232_255 at gy
  obtain ⟨kc, kl, kr, ky⟩ := gy z s0 l0
  have d10 := rdS (q := 285) f10 f2
  have d18 := rdS (q := 285) f18 f2
  have d27 := rdS (q := 285) f27 f2
  have d30 := rdW (q := 306) f30 f21
  have q11 := f11
  have ab := f4.2.1.1.1.1
  unfold Ab_232_255 at ab
  have rg0 := f0
  have rg1 := f1
  have c0 := f6.2.2 z1 (by rw [f5]; decide)
  try rw [f5] at c0
  rw [vz, a1, kmc_4] at c0
  have v0 : vwR H2 = vwR H0 := (vwR_fr f6.1.2.1 (by decide +kernel)).trans vz
  have p1 := PR_row (q := 311) f20 f12 (by decide) c0.1
  have v1 : vwR H3 = vwR H0 := p1.2.1.trans v0
  have ah1 : absR H3 = (ptk (vwR H0) 4 (if ((vwR H0).1 (absR H0).1) = 38 then pRight (vwR H0) (absR H0) else pLoud (vwR H0) (absR H0))) := p1.1.trans c0.2
  have p2 := PR_row (q := 306) f34 f21 (by decide) p1.2.2.1
  have v2 : vwR H4 = vwR H0 := p2.2.1.trans v1
  have ah2 : absR H4 = (ptk (vwR H0) 4 (if ((vwR H0).1 (absR H0).1) = 38 then pRight (vwR H0) (absR H0) else pLoud (vwR H0) (absR H0))) := p2.1.trans ah1
  have f35_ : hV H1 285 35 = hV H0 285 35 := f4.1.2.1.1 285 35 (by decide +kernel)
  have b35 := f4.1.2.2 285 35 _ _ rW_35
  have ex1 : n0 = 12 * hV H0 285 35 + hV H0 306 (hV H0 285 35).toNat := by
    rw [← f35_, ← kr.1]
    omega
  have e35 : n8 = hV H0 285 35 := by rw [d27, show hV H3 285 35 = hV H1 285 35 from (uPlace f20 285 35 (by rw [f12]; decide)).trans (f6.1.2.1.1 285 35 (by decide +kernel)), f35_]
  have e44 : n6 = hV H1 285 44 := by rw [d18, show hV H2 285 44 = hV H1 285 44 from f6.1.2.1.1 285 44 (by decide +kernel)]
  have ka := KRr_tr kr (KRr_tr (KRr_z (ZRs_fr f6.1.2.1 (by decide +kernel))) (KRr_up f20 (by rw [f12]; decide) (show n0 = n0 by omega) (by omega)))
  rw [ex1] at ka
  have u6 := uRowQ f34 306 f21
  have kz : KRr H4 H4 (12 * hV H0 285 35 + hV H0 306 (hV H0 285 35).toNat) := KRr_rfl
  have rows : ∀ q : Nat, 307 ≤ q → q ≤ 311 → hV H4 q = hV H3 q := fun q q1 q2 => uRowNe f34 q (by rw [f21]; omega)
  have r6 : hV H4 306 = uF (hV H0 306) (hV H0 285 35) n11 := by rw [kz.1, u6, ka.1, e35]
  refine ⟨(KPc_tr kc (KPc_tr (KPc_x (XRk_fr f6.1.2.1 (by decide +kernel))) (KPc_tr (KPc_x (XRk_up f20 (.inr (by rw [f12]; decide)))) (KPc_x (XRk_up f34 (.inr (by rw [f21]; decide))))))), (KPl_tr kl (KPl_tr (KPl_y (YRs_fr f6.1.2.1 (by decide +kernel))) (KPl_tr (KPl_y (YRs_up f20 (.inr (by rw [f12]; decide)))) (KPl_y (YRs_up f34 (.inr (by rw [f21]; decide))))))), fun q q1 q2 i n => by rw [kz.2 q q1 q2 i (n.resolve_right h12), rows q q1 q2, ka.2 q q1 q2 i (n.resolve_right h12)], fun i n => by rw [r6, uF_at, if_neg n], fun hp => ?_⟩
  have aH : absR H4 = (ptk (vwR H0) 4 (if ((vwR H0).1 (absR H0).1) = 38 then pRight (vwR H0) (absR H0) else pLoud (vwR H0) (absR H0))) := ah2
  have hq := hp
  rw [aH] at hq
  have h1 : 0 ≤ (absR H1).1 := by
    rw [a1]
    exact (pt1R_kind z hq).1
  obtain ⟨rb, gl⟩ := ky h1
  rw [← ex1]
  have x1 : XRk H1 H4 := (XRk_tr (XRk_fr f6.1.2.1 (by decide +kernel)) (XRk_tr (XRk_up f20 (.inr (by rw [f12]; decide))) (XRk_up f34 (.inr (by rw [f21]; decide)))))
  have y1 : YRs H1 H4 := (YRs_tr (YRs_fr f6.1.2.1 (by decide +kernel)) (YRs_tr (YRs_up f20 (.inr (by rw [f12]; decide))) (YRs_up f34 (.inr (by rw [f21]; decide)))))
  have r4 : ∀ q : Nat, 307 ≤ q → q ≤ 310 → hV H4 q (n0).toNat = hV H1 q (n0).toNat := fun q q1 q2 => by
    rcases (show q = 307 ∨ q = 308 ∨ q = 309 ∨ q = 310 by omega) with w | w | w | w <;> subst w
    · rw [show hV H4 307 = hV H1 307 from (uRowNe f34 307 (by rw [f21]; decide)).trans ((uRowNe f20 307 (by rw [f12]; decide)).trans (fRow f6.1.2.1 307 (by decide +kernel)))]
    · rw [show hV H4 308 = hV H1 308 from (uRowNe f34 308 (by rw [f21]; decide)).trans ((uRowNe f20 308 (by rw [f12]; decide)).trans (fRow f6.1.2.1 308 (by decide +kernel)))]
    · rw [show hV H4 309 = hV H1 309 from (uRowNe f34 309 (by rw [f21]; decide)).trans ((uRowNe f20 309 (by rw [f12]; decide)).trans (fRow f6.1.2.1 309 (by decide +kernel)))]
    · rw [show hV H4 310 = hV H1 310 from (uRowNe f34 310 (by rw [f21]; decide)).trans ((uRowNe f20 310 (by rw [f12]; decide)).trans (fRow f6.1.2.1 310 (by decide +kernel)))]
  refine ⟨rgB_end s0 rb x1 y1 r4 ?_, gl⟩
  have w : hV H4 311 = uF (hV H1 311) n0 n6 := (uRowNe f34 311 (by rw [f21]; decide)).trans ((uRowQ f20 311 f12).trans (congrArg (fun g => uF g n0 n6) ((fRow f6.1.2.1 311 (by decide +kernel)).trans rfl)))
  rw [w, uF_at, if_pos (by omega)]
  exact e44
def g_232y_255_0 : vG := ([(80, [7, 8, 11], [4, 3], 0), (23, [7], [3], 276), (1, [11, 9, 10], [], 0), (0, [10], [], 1), (22, [9, 7, 8], [3], 0), (90, [9], [], 0), (91, [9], [], 12), (20, [8, 1], [3], 35), (23, [1], [3], 12), (90, [8], [], 0), (91, [8], [], 1), (20, [7, 1], [3], 36), (23, [1], [3], 12), (0, [7], [], 306), (80, [5, 2, 6], [3, 2], 0), (23, [5], [2], 316), (20, [6, 1], [2], 44), (23, [1], [2], 12), (90, [6], [], 0), (91, [6], [], 400), (20, [5, 1], [2], 41), (23, [1], [2], 12), (0, [5], [], 311), (35, [4], [], 0), (20, [4, 1], [2], 13), (23, [1], [2], 12), (90, [4], [], 0), (91, [4], [], 2), (1220, [1, 3], [1, 2], 0), (0, [3], [], 4), (5000, [0, 1, 2], [0, 1], 255), (0, [0], [], 285), (0, [1], [], 285), (90, [2], [], 0), (91, [2], [], 23)], (3000, [], [4], 291))
theorem c_232y_255_0 {q0 : Nat} : vOkm T0 (eN e_232w L_232y (eAB A_232 B_232) mu_232 y_232 By_232 (some q0)) 1 g_232y_255_0 := vOk_inI fun ρ η f0 f1 f2 f3 f4 f5 f6 f7 f8 f9 f10 f11 f12 f13 f14 f15 f16 f17 f18 f19 f20 f21 f22 f23 f24 f25 f26 f27 f28 f29 f30 f31 f32 f33 f34 => q_232y_23 (q0 := q0) (n0 := ρ 2) (n1 := ρ 1) (n2 := ρ 0) (n3 := ρ 3) (n4 := ρ 4) (n5 := ρ 5) (n6 := ρ 6) (n7 := ρ 7) (n8 := ρ 8) (n9 := ρ 9) (n10 := ρ 10) (n11 := ρ 11) (H0 := η 0) (H1 := η 1) (H2 := η 2) (H3 := η 3) (H4 := η 4) f34 f33 f32 f31 f30 f29 f28 f27 f26 f25 f24 f23 f22 f21 f20 f19 f18 f17 f16 f15 f14 f13 f12 f11 f10 f9 f8 f7 f6 f5 f4 f3 f2 f1 f0
theorem q_232y_24 {q0 : Nat} {n0 n1 n2 n3 n4 : Int} {H0 H1 H2 : gH} (f0 : n0 ≤ 23) (f1 : 0 ≤ n0) (f2 : n1 = 285) (f3 : n2 = 285) (f4 : (hLe T0 H0 H1 ∧ hFr s_232.2.2.2.2 H0 H1 ∧ hWt T0 H1) ∧ (((Ab_232_255 n2 n1 n0 H0 H1 ∧ Bb_232_255 n2 n1 n0 H0 H1) ∧ Byb_232_255 n2 n1 n0 H0 H1) ∧ preb_232 n2 H0) ∧ some q0 = some (mub_232_255 n2 n1 n0 H0 H1)) (f5 : n3 = 4) (f6 : (hLe T0 H1 H2 ∧ hFr s_220.2.2.2.2 H1 H2 ∧ ((0 : Int) = 0 → H2.length = H1.length) ∧ hWt T0 H2) ∧ (postb_220 n1 n3 H1 H2 ∧ nb_220 n1 n3 H1 H2)) (f7 : n4 ≤ 2) (f8 : 0 ≤ n4) (f9 : hK H2 (n1).toNat = 12) (f10 : n4 = hV H2 (n1).toNat 13) (f11 : 0 < n4) : yb_232 n2 H0 H2 := by
  unfold yb_232
  intro z s0 l0
  have ga := f4.2.1.1.1.2
  unfold Bb_232_255 at ga
  obtain ⟨z1, rs, h12, kk, a1⟩ := ga z
  have vz : vwR H1 = vwR H0 := vwR_fr f4.1.2.1 (by decide +kernel)
  have gy := f4.2.1.1.2
  unfold Byb_232_255 at gy
  obtain ⟨kc, kl, kr, ky⟩ := gy z s0 l0
  have d10 := rdS (q := 285) f10 f2
  have q11 := f11
  have ab := f4.2.1.1.1.1
  unfold Ab_232_255 at ab
  have rg0 := f0
  have rg1 := f1
  have c0 := f6.2.2 z1 (by rw [f5]; decide)
  try rw [f5] at c0
  rw [vz, a1, kmc_4] at c0
  have v0 : vwR H2 = vwR H0 := (vwR_fr f6.1.2.1 (by decide +kernel)).trans vz
  have f35_ : hV H1 285 35 = hV H0 285 35 := f4.1.2.1.1 285 35 (by decide +kernel)
  have b35 := f4.1.2.2 285 35 _ _ rW_35
  have ex1 : n0 = 12 * hV H0 285 35 + hV H0 306 (hV H0 285 35).toNat := by
    rw [← f35_, ← kr.1]
    omega
  have kz := KRr_tr kr (KRr_z (ZRs_fr f6.1.2.1 (by decide +kernel)))
  rw [ex1] at kz
  refine ⟨(KPc_tr kc (KPc_x (XRk_fr f6.1.2.1 (by decide +kernel)))), (KPl_tr kl (KPl_y (YRs_fr f6.1.2.1 (by decide +kernel)))), fun q q1 q2 i n => kz.2 q q1 q2 i (n.resolve_right h12), fun i _ => by rw [kz.1], fun hp => ?_⟩
  exfalso
  have := absR_neg c0.1 (by omega)
  omega
def g_232y_255_1 : vG := ([(34, [4], [], 0), (20, [4, 1], [2], 13), (23, [1], [2], 12), (90, [4], [], 0), (91, [4], [], 2), (1220, [1, 3], [1, 2], 0), (0, [3], [], 4), (5000, [0, 1, 2], [0, 1], 255), (0, [0], [], 285), (0, [1], [], 285), (90, [2], [], 0), (91, [2], [], 23)], (3000, [], [2], 267))
theorem c_232y_255_1 {q0 : Nat} : vOkm T0 (eN e_232w L_232y (eAB A_232 B_232) mu_232 y_232 By_232 (some q0)) 1 g_232y_255_1 := vOk_inI fun ρ η f0 f1 f2 f3 f4 f5 f6 f7 f8 f9 f10 f11 => q_232y_24 (q0 := q0) (n0 := ρ 2) (n1 := ρ 1) (n2 := ρ 0) (n3 := ρ 3) (n4 := ρ 4) (H0 := η 0) (H1 := η 1) (H2 := η 2) f11 f10 f9 f8 f7 f6 f5 f4 f3 f2 f1 f0
def p_232y_255 : List vG := [g_232y_255_0,
  g_232y_255_1]
theorem r_232y_255 : vCovBO (eRc e_232w L_232w cs_232 2000 (255, [(0, (3, 12, 285, 0)), (1, (0, 0, 23, 0))])) p_232y_255 = true := by decide +kernel
theorem o_232y : eOK e_232y L_232y cs_232 2000 (eAB (eAB A_232 B_232) By_232) mu_232 := eOK_ref (p1 := p_232y_s) o_232w (sub0 (sub0 (sub0 (sub0 (sub0 (sub1 (sub1 trivial))))))) r_232y_s (allC c_232y_s_0 (allC c_232y_s_1 (allC c_232y_s_2 (allC c_232y_s_3 (allC c_232y_s_4 (allC c_232y_s_5 (allC c_232y_s_6 (allC c_232y_s_7 (allC c_232y_s_8 (allC c_232y_s_9 allN)))))))))) (allC ⟨p_232y_53, r_232y_53, fun q0 => (allC c_232y_53_0 (allC c_232y_53_1 allN))⟩ (allC ⟨p_232y_125, r_232y_125, fun q0 => (allC c_232y_125_0 (allC c_232y_125_1 (allC c_232y_125_2 allN)))⟩ (allC ⟨p_232y_202, r_232y_202, fun q0 => (allC c_232y_202_0 (allC c_232y_202_1 (allC c_232y_202_2 (allC c_232y_202_3 (allC c_232y_202_4 (allC c_232y_202_5 (allC c_232y_202_6 (allC c_232y_202_7 allN))))))))⟩ (allC ⟨p_232y_255, r_232y_255, fun q0 => (allC c_232y_255_0 (allC c_232y_255_1 allN))⟩ allN))))
theorem m_232y (d : Nat) : eC e_232y (d + 6) := eC_OK (d := d + 5) o_232y rfl ⟨m_216 (d + 4), ⟨m_217w (d + 4), ⟨m_219w (d + 3), ⟨m_220w (d + 2), ⟨m_223w (d + 1), ⟨m_233y d, ⟨m_236y (d + 1), trivial⟩⟩⟩⟩⟩⟩⟩ rfl (.inl rfl) (by decide +kernel)
