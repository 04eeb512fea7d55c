/-! CONTRACTS of methods told more fully. -/
/- MixStageModel.tellTaps (I)V, more fully still -/
theorem o_230 : eOK e_230 L_230 cs_230 2000 A_230 mu_230 := eOK_of (tp := false) (p0 := p_230_s) (fun z => nomatch z) r_230_s (allC c_230_s_0 allN) (allC (.inl ⟨p_230_22, r_230_22, fun q0 => (allC c_230_22_0 (allC c_230_22_1 (allC c_230_22_2 (allC c_230_22_3 (allC c_230_22_4 (allC c_230_22_5 (allC c_230_22_6 (allC c_230_22_7 (allC c_230_22_8 (allC c_230_22_9 (allC c_230_22_10 (allC c_230_22_11 (allC c_230_22_12 (allC c_230_22_13 (allC c_230_22_14 (allC c_230_22_15 (allC c_230_22_16 (allC c_230_22_17 (allC c_230_22_18 (allC c_230_22_19 (allC c_230_22_20 (allC c_230_22_21 (allC c_230_22_22 (allC c_230_22_23 (allC c_230_22_24 (allC c_230_22_25 (allC c_230_22_26 (allC c_230_22_27 (allC c_230_22_28 (allC c_230_22_29 (allC c_230_22_30 (allC c_230_22_31 (allC c_230_22_32 (allC c_230_22_33 (allC c_230_22_34 (allC c_230_22_35 (allC c_230_22_36 (allC c_230_22_37 (allC c_230_22_38 (allC c_230_22_39 (allC c_230_22_40 (allC c_230_22_41 (allC c_230_22_42 allN)))))))))))))))))))))))))))))))))))))))))))⟩) allN)
theorem o_230w : eOK e_230w L_230w cs_230 2000 (eAB A_230 B_230) mu_230 := eOK_ref (p1 := p_230w_s) o_230 (sub0 (sub1 (sub1 (sub1 (sub1 trivial))))) r_230w_s (allC c_230w_s_0 allN) (allC ⟨p_230w_22, r_230w_22, fun q0 => (allC c_230w_22_0 (allC c_230w_22_1 (allC c_230w_22_2 (allC c_230w_22_3 (allC c_230w_22_4 (allC c_230w_22_5 (allC c_230w_22_6 (allC c_230w_22_7 (allC c_230w_22_8 (allC c_230w_22_9 (allC c_230w_22_10 (allC c_230w_22_11 (allC c_230w_22_12 (allC c_230w_22_13 allN))))))))))))))⟩ allN)
def yb_230 (a0 a1 : Int) (h0 h : gH) : Prop := RI h0 → CRo h0 h a1 ∧ hV h 298 = hV h0 298 ∧ hV h 299 = hV h0 299 ∧ hV h 301 = hV h0 301 ∧ hV h 302 = hV h0 302 ∧ hV h 303 = hV h0 303 ∧ hV h 304 = hV h0 304 ∧ (hV h 285 13 = 0 → hV h 300 (a1).toNat = tvl (vwR h0) (absR h0))
def y_230 : List Int → gH → gH → Prop := fun xs h0 h => match xs with
  | [a0, a1] => yb_230 a0 a1 h0 h
  | _ => True
noncomputable def e_230y : vE := eV e_230w y_230
noncomputable def L_230y : List vE := [e_216, e_217w, e_219w, e_220w, e_223y]
def Byb_230_22 (a0 a1 x0 x1 x2 x3 : Int) (h0 h : gH) : Prop := RI h0 → CRo h0 h a1 ∧ hV h 298 = hV h0 298 ∧ hV h 299 = hV h0 299 ∧ hV h 301 = hV h0 301 ∧ hV h 302 = hV h0 302 ∧ hV h 303 = hV h0 303 ∧ hV h 304 = hV h0 304 ∧ (hV h 285 13 = 0 → hV h 300 (a1).toNat = tvl (vwR h0) (absR h0))
def By_230 : Int → List Int → gH → gH → Prop := fun c xs h0 h => match c.toNat with
  | 22 => (match xs with
    | [a0, a1, x0, x1, x2, x3] => Byb_230_22 a0 a1 x0 x1 x2 x3 h0 h
    | _ => False)
  | _ => True
theorem q_230y_0 {n0 n1 n2 n3 n4 n5 n6 n7 n8 : Int} {H0 H1 H2 H3 : gH} (f0 : n0 ≤ 1007) (f1 : 0 ≤ n0) (f2 : n1 = 285) (f3 : hWt T0 H0 ∧ preb_230 n1 n0 H0) (f4 : n2 = 300) (f5 : hK H0 (n1).toNat = 12) (f6 : n2 = hV H0 (n1).toNat 26) (f7 : n3 = 0) (f8 : n4 = 2) (f9 : n5 ≤ 9999) (f10 : 0 ≤ n5) (f11 : (hLe T0 H0 H1 ∧ hFr s_223.2.2.2.2 H0 H1 ∧ ((0 : Int) = 0 → H1.length = H0.length) ∧ hWt T0 H1) ∧ ((postb_223 n5 n1 n3 n4 H0 H1 ∧ nb_223 n5 n1 n3 n4 H0 H1) ∧ yb_223 n5 n1 n3 n4 H0 H1)) (f12 : hK H1 (n2).toNat = 228) (f13 : hUpd H2 H1 n2 n0 n5) (f14 : n6 = 38) (f15 : (hLe T0 H2 H3 ∧ hFr s_220.2.2.2.2 H2 H3 ∧ ((0 : Int) = 0 → H3.length = H2.length) ∧ hWt T0 H3) ∧ (postb_220 n1 n6 H2 H3 ∧ nb_220 n1 n6 H2 H3)) (f16 : n7 = 0) (f17 : n8 = 1) : Byb_230_22 n1 n0 n1 n0 n7 n8 H0 H3 := by
  unfold Byb_230_22
  intro z
  have c0 := f11.2.1.2 z
  try rw [f7] at c0
  try rw [f8] at c0
  have v0 : vwR H1 = vwR H0 := (vwR_fr f11.1.2.1 (by decide +kernel))
  have p1 := PR_row (q := 300) f13 f4 (by decide) c0.1
  have v1 : vwR H2 = vwR H0 := p1.2.1.trans v0
  have ah1 : absR H2 = (pnm (vwR H0) 0 2 (absR H0)) := p1.1.trans c0.2
  have c2 := f15.2.2 p1.2.2.1 (by rw [f14]; decide)
  try rw [f14] at c2
  rw [v1, ah1, kmc_38] at c2
  have v2 : vwR H3 = vwR H0 := (vwR_fr f15.1.2.1 (by decide +kernel)).trans v1
  refine ⟨(CRo_tr (CRo_8 (CR8_fr f11.1.2.1 (by decide +kernel))) (CRo_tr (CRo_up f13 rfl (by rw [f4]; decide)) (CRo_8 (CR8_fr f15.1.2.1 (by decide +kernel))))), (fRow f15.1.2.1 298 (by decide +kernel)).trans ((uRowNe f13 298 (by rw [f4]; decide)).trans (fRow f11.1.2.1 298 (by decide +kernel))), (fRow f15.1.2.1 299 (by decide +kernel)).trans ((uRowNe f13 299 (by rw [f4]; decide)).trans (fRow f11.1.2.1 299 (by decide +kernel))), (fRow f15.1.2.1 301 (by decide +kernel)).trans ((uRowNe f13 301 (by rw [f4]; decide)).trans (fRow f11.1.2.1 301 (by decide +kernel))), (fRow f15.1.2.1 302 (by decide +kernel)).trans ((uRowNe f13 302 (by rw [f4]; decide)).trans (fRow f11.1.2.1 302 (by decide +kernel))), (fRow f15.1.2.1 303 (by decide +kernel)).trans ((uRowNe f13 303 (by rw [f4]; decide)).trans (fRow f11.1.2.1 303 (by decide +kernel))), (fRow f15.1.2.1 304 (by decide +kernel)).trans ((uRowNe f13 304 (by rw [f4]; decide)).trans (fRow f11.1.2.1 304 (by decide +kernel))), fun hf => ?_⟩
  have hzH2 := fzR p1.2.2.1 c2.1 ah1 c2.2 (fun n k => ptk_neg n k) hf
  have hzH1 := fzR c0.1 p1.2.2.1 c0.2 ah1 (fun _ _ => rfl) hzH2.1
  have hzH0 := fzR z c0.1 rfl c0.2 (fun n k => pnm_neg n k) hzH1.1
  have tv11 := f11.2.2
  unfold yb_223 at tv11
  have tv11 := tv11 z hzH1.1
  exact ((congrFun (fRow f15.1.2.1 300 (by decide +kernel)) _).trans ((congrFun (uRowQ f13 300 f4) _).trans (by rw [uF_at, if_pos (Int.toNat_of_nonneg (by omega))]))).trans tv11
def g_230y_s_0 : vG := ([(0, [8], [], 1), (0, [7], [], 0), (1220, [0, 6], [2, 3], 0), (0, [6], [], 38), (80, [2, 1, 5], [2, 1], 0), (23, [2], [1], 228), (1223, [5, 0, 3, 4], [0, 1], 0), (90, [5], [], 0), (91, [5], [], 9999), (0, [4], [], 2), (0, [3], [], 0), (20, [2, 0], [0], 26), (23, [0], [0], 12), (0, [2], [], 300), (6000, [0, 1], [0], 0), (0, [0], [], 285), (90, [1], [], 0), (91, [1], [], 1007)], (4000, [0, 1, 7, 8], [3], 22))
theorem c_230y_s_0 : vOkm T0 (eN e_230w L_230y (eAB A_230 B_230) mu_230 y_230 By_230 none) 2 g_230y_s_0 := vOk_inI fun ρ η f0 f1 f2 f3 f4 f5 f6 f7 f8 f9 f10 f11 f12 f13 f14 f15 f16 f17 => q_230y_0 (n0 := ρ 1) (n1 := ρ 0) (n2 := ρ 2) (n3 := ρ 3) (n4 := ρ 4) (n5 := ρ 5) (n6 := ρ 6) (n7 := ρ 7) (n8 := ρ 8) (H0 := η 0) (H1 := η 1) (H2 := η 2) (H3 := η 3) f17 f16 f15 f14 f13 f12 f11 f10 f9 f8 f7 f6 f5 f4 f3 f2 f1 f0
def p_230y_s : List vG := [g_230y_s_0]
theorem r_230y_s : vCovBO (eR0 e_230w L_230w cs_230 2000) p_230y_s = true := by decide +kernel
theorem q_230y_1 {q0 : Nat} {n0 n1 n2 n3 n4 n5 n6 n7 n8 : Int} {H0 H1 H2 : gH} (f0 : n0 ≤ 1) (f1 : 0 ≤ n0) (f2 : n1 ≤ 5) (f3 : 0 ≤ n1) (f4 : n2 ≤ 1007) (f5 : 0 ≤ n2) (f6 : n3 = 285) (f7 : n4 ≤ 1007) (f8 : 0 ≤ n4) (f9 : n5 = 285) (f10 : (hLe T0 H0 H1 ∧ hFr s_230.2.2.2.2 H0 H1 ∧ hWt T0 H1) ∧ (((Ab_230_22 n5 n4 n3 n2 n1 n0 H0 H1 ∧ Bb_230_22 n5 n4 n3 n2 n1 n0 H0 H1) ∧ Byb_230_22 n5 n4 n3 n2 n1 n0 H0 H1) ∧ preb_230 n5 n4 H0) ∧ some q0 = some (mub_230_22 n5 n4 n3 n2 n1 n0 H0 H1)) (f11 : n0 = 0) (f12 : n6 = 305) (f13 : hK H1 (n3).toNat = 12) (f14 : n6 = hV H1 (n3).toNat 31) (f15 : n7 = 6) (f16 : n8 = w32 (n7 * n2)) (f17 : hK H1 (n6).toNat = 268) (f18 : hUpd H2 H1 n6 n8 n1) : yb_230 n5 n4 H0 H2 := by
  unfold yb_230
  intro z
  have ga := f10.2.1.1.1.2
  unfold Bb_230_22 at ga
  obtain ⟨z1, k0, k5, w1, w0⟩ := ga z
  have vz : vwR H1 = vwR H0 := vwR_fr f10.1.2.1 (by decide +kernel)
  have gy := f10.2.1.1.2
  unfold Byb_230_22 at gy
  obtain ⟨y1, y2, y3, y4, y5, y6, y7, y8⟩ := gy z
  have aa := f10.2.1.1.1.1
  unfold Ab_230_22 at aa
  obtain ⟨ea, _, _, _, _, _, _, _, _, _, _, x4⟩ := aa
  subst ea
  have q11 := f11
  have p0 := PR_row (q := 305) f18 f12 (by decide) z1
  have v0 : vwR H2 = vwR H0 := p0.2.1.trans vz
  have ah0 : absR H2 = (absR H1) := p0.1
  have ix8 : n8 = 6 * n2 := by
    have w := f16
    rw [f15] at w
    unfold w32 at w
    omega
  have cu : CRo H1 H2 n2 := (CRo_up5 f18 f12 (k := 0) (by omega) (by decide) (by decide))
  refine ⟨CRo_tr y1 cu, (uRowNe f18 298 (by rw [f12]; decide)).trans y2, (uRowNe f18 299 (by rw [f12]; decide)).trans y3, (uRowNe f18 301 (by rw [f12]; decide)).trans y4, (uRowNe f18 302 (by rw [f12]; decide)).trans y5, (uRowNe f18 303 (by rw [f12]; decide)).trans y6, (uRowNe f18 304 (by rw [f12]; decide)).trans y7, fun hf => ?_⟩
  have hzH1 := fzR z1 p0.2.2.1 rfl ah0 (fun _ _ => rfl) hf
  exact (congrFun (uRowNe f18 300 (by rw [f12]; decide)) _).trans (y8 hzH1.1)
def g_230y_22_0 : vG := ([(80, [6, 8, 4], [2, 1], 0), (23, [6], [1], 268), (3, [8, 7, 3], [], 0), (0, [7], [], 6), (20, [6, 2], [1], 31), (23, [2], [1], 12), (0, [6], [], 305), (30, [5], [], 0), (5000, [0, 1, 2, 3, 4, 5], [0, 1], 22), (0, [0], [], 285), (90, [1], [], 0), (91, [1], [], 1007), (0, [2], [], 285), (90, [3], [], 0), (91, [3], [], 1007), (90, [4], [], 0), (91, [4], [], 5), (90, [5], [], 0), (91, [5], [], 1)], (3000, [], [2], 113))
theorem c_230y_22_0 {q0 : Nat} : vOkm T0 (eN e_230w L_230y (eAB A_230 B_230) mu_230 y_230 By_230 (some q0)) 2 g_230y_22_0 := vOk_inI fun ρ η f0 f1 f2 f3 f4 f5 f6 f7 f8 f9 f10 f11 f12 f13 f14 f15 f16 f17 f18 => q_230y_1 (q0 := q0) (n0 := ρ 5) (n1 := ρ 4) (n2 := ρ 3) (n3 := ρ 2) (n4 := ρ 1) (n5 := ρ 0) (n6 := ρ 6) (n7 := ρ 7) (n8 := ρ 8) (H0 := η 0) (H1 := η 1) (H2 := η 2) f18 f17 f16 f15 f14 f13 f12 f11 f10 f9 f8 f7 f6 f5 f4 f3 f2 f1 f0
theorem q_230y_2 {q0 : Nat} {n0 n1 n2 n3 n4 n5 n6 n7 n8 n9 : Int} {H0 H1 H2 : gH} (f0 : n0 ≤ 1) (f1 : 0 ≤ n0) (f2 : n1 ≤ 5) (f3 : 0 ≤ n1) (f4 : n2 ≤ 1007) (f5 : 0 ≤ n2) (f6 : n3 = 285) (f7 : n4 ≤ 1007) (f8 : 0 ≤ n4) (f9 : n5 = 285) (f10 : (hLe T0 H0 H1 ∧ hFr s_230.2.2.2.2 H0 H1 ∧ hWt T0 H1) ∧ (((Ab_230_22 n5 n4 n3 n2 n1 n0 H0 H1 ∧ Bb_230_22 n5 n4 n3 n2 n1 n0 H0 H1) ∧ Byb_230_22 n5 n4 n3 n2 n1 n0 H0 H1) ∧ preb_230 n5 n4 H0) ∧ some q0 = some (mub_230_22 n5 n4 n3 n2 n1 n0 H0 H1)) (f11 : n0 ≠ 0) (f12 : n6 ≤ 2) (f13 : 0 ≤ n6) (f14 : hK H1 (n3).toNat = 12) (f15 : n6 = hV H1 (n3).toNat 13) (f16 : n6 ≠ 0) (f17 : n7 = 305) (f18 : hK H1 (n3).toNat = 12) (f19 : n7 = hV H1 (n3).toNat 31) (f20 : n8 = 6) (f21 : n9 = w32 (n8 * n2)) (f22 : hK H1 (n7).toNat = 268) (f23 : hUpd H2 H1 n7 n9 n1) : yb_230 n5 n4 H0 H2 := by
  unfold yb_230
  intro z
  have ga := f10.2.1.1.1.2
  unfold Bb_230_22 at ga
  obtain ⟨z1, k0, k5, w1, w0⟩ := ga z
  have vz : vwR H1 = vwR H0 := vwR_fr f10.1.2.1 (by decide +kernel)
  have gy := f10.2.1.1.2
  unfold Byb_230_22 at gy
  obtain ⟨y1, y2, y3, y4, y5, y6, y7, y8⟩ := gy z
  have aa := f10.2.1.1.1.1
  unfold Ab_230_22 at aa
  obtain ⟨ea, _, _, _, _, _, _, _, _, _, _, x4⟩ := aa
  subst ea
  have d15 := rdS (q := 285) f15 f6
  have q11 := f11
  have q16 := f16
  have p0 := PR_row (q := 305) f23 f17 (by decide) z1
  have v0 : vwR H2 = vwR H0 := p0.2.1.trans vz
  have ah0 : absR H2 = (absR H1) := p0.1
  have ix9 : n9 = 6 * n2 := by
    have w := f21
    rw [f20] at w
    unfold w32 at w
    omega
  have cu : CRo H1 H2 n2 := (CRo_up5 f23 f17 (k := 0) (by omega) (by decide) (by decide))
  refine ⟨CRo_tr y1 cu, (uRowNe f23 298 (by rw [f17]; decide)).trans y2, (uRowNe f23 299 (by rw [f17]; decide)).trans y3, (uRowNe f23 301 (by rw [f17]; decide)).trans y4, (uRowNe f23 302 (by rw [f17]; decide)).trans y5, (uRowNe f23 303 (by rw [f17]; decide)).trans y6, (uRowNe f23 304 (by rw [f17]; decide)).trans y7, fun hf => ?_⟩
  have hzH1 := fzR z1 p0.2.2.1 rfl ah0 (fun _ _ => rfl) hf
  exact (congrFun (uRowNe f23 300 (by rw [f17]; decide)) _).trans (y8 hzH1.1)
def g_230y_22_1 : vG := ([(80, [7, 9, 4], [2, 1], 0), (23, [7], [1], 268), (3, [9, 8, 3], [], 0), (0, [8], [], 6), (20, [7, 2], [1], 31), (23, [2], [1], 12), (0, [7], [], 305), (31, [6], [], 0), (20, [6, 2], [1], 13), (23, [2], [1], 12), (90, [6], [], 0), (91, [6], [], 2), (31, [5], [], 0), (5000, [0, 1, 2, 3, 4, 5], [0, 1], 22), (0, [0], [], 285), (90, [1], [], 0), (91, [1], [], 1007), (0, [2], [], 285), (90, [3], [], 0), (91, [3], [], 1007), (90, [4], [], 0), (91, [4], [], 5), (90, [5], [], 0), (91, [5], [], 1)], (3000, [], [2], 113))
theorem c_230y_22_1 {q0 : Nat} : vOkm T0 (eN e_230w L_230y (eAB A_230 B_230) mu_230 y_230 By_230 (some q0)) 2 g_230y_22_1 := vOk_inI fun ρ η f0 f1 f2 f3 f4 f5 f6 f7 f8 f9 f10 f11 f12 f13 f14 f15 f16 f17 f18 f19 f20 f21 f22 f23 => q_230y_2 (q0 := q0) (n0 := ρ 5) (n1 := ρ 4) (n2 := ρ 3) (n3 := ρ 2) (n4 := ρ 1) (n5 := ρ 0) (n6 := ρ 6) (n7 := ρ 7) (n8 := ρ 8) (n9 := ρ 9) (H0 := η 0) (H1 := η 1) (H2 := η 2) f23 f22 f21 f20 f19 f18 f17 f16 f15 f14 f13 f12 f11 f10 f9 f8 f7 f6 f5 f4 f3 f2 f1 f0
theorem q_230y_3 {q0 : Nat} {n0 n1 n2 n3 n4 n5 n6 n7 n8 n9 n10 n11 n12 n13 n14 n15 : Int} {H0 H1 H2 H3 H4 : gH} (f0 : n0 ≤ 1) (f1 : 0 ≤ n0) (f2 : n1 ≤ 5) (f3 : 0 ≤ n1) (f4 : n2 ≤ 1007) (f5 : 0 ≤ n2) (f6 : n3 = 285) (f7 : n4 ≤ 1007) (f8 : 0 ≤ n4) (f9 : n5 = 285) (f10 : (hLe T0 H0 H1 ∧ hFr s_230.2.2.2.2 H0 H1 ∧ hWt T0 H1) ∧ (((Ab_230_22 n5 n4 n3 n2 n1 n0 H0 H1 ∧ Bb_230_22 n5 n4 n3 n2 n1 n0 H0 H1) ∧ Byb_230_22 n5 n4 n3 n2 n1 n0 H0 H1) ∧ preb_230 n5 n4 H0) ∧ some q0 = some (mub_230_22 n5 n4 n3 n2 n1 n0 H0 H1)) (f11 : n0 ≠ 0) (f12 : n6 ≤ 2) (f13 : 0 ≤ n6) (f14 : hK H1 (n3).toNat = 12) (f15 : n6 = hV H1 (n3).toNat 13) (f16 : n6 = 0) (f17 : n7 = 2) (f18 : n8 ≤ 1) (f19 : 0 ≤ n8) (f20 : (hLe T0 H1 H2 ∧ hFr s_216.2.2.2.2 H1 H2 ∧ ((0 : Int) = 0 → H2.length = H1.length) ∧ hWt T0 H2) ∧ postb_216 n8 n3 n7 H1 H2) (f21 : n8 = 0) (f22 : n9 = 0) (f23 : n10 = 400) (f24 : n11 ≤ 9999) (f25 : 0 ≤ n11) (f26 : (hLe T0 H2 H3 ∧ hFr s_223.2.2.2.2 H2 H3 ∧ ((0 : Int) = 0 → H3.length = H2.length) ∧ hWt T0 H3) ∧ ((postb_223 n11 n3 n9 n10 H2 H3 ∧ nb_223 n11 n3 n9 n10 H2 H3) ∧ yb_223 n11 n3 n9 n10 H2 H3)) (f27 : n12 ≤ 2) (f28 : 0 ≤ n12) (f29 : hK H3 (n3).toNat = 12) (f30 : n12 = hV H3 (n3).toNat 13) (f31 : n12 ≠ 0) (f32 : n13 = w32 (n1 + 1)) (f33 : n14 = 5) (f34 : n15 ≤ 1) (f35 : 0 ≤ n15) (f36 : (hLe T0 H3 H4 ∧ hFr s_216.2.2.2.2 H3 H4 ∧ ((0 : Int) = 0 → H4.length = H3.length) ∧ hWt T0 H4) ∧ postb_216 n15 n3 n14 H3 H4) (f37 : n15 = 0) : Byb_230_22 n5 n4 n3 n2 n13 n15 H0 H4 := by
  unfold Byb_230_22
  intro z
  have ga := f10.2.1.1.1.2
  unfold Bb_230_22 at ga
  obtain ⟨z1, k0, k5, w1, w0⟩ := ga z
  have vz : vwR H1 = vwR H0 := vwR_fr f10.1.2.1 (by decide +kernel)
  have gy := f10.2.1.1.2
  unfold Byb_230_22 at gy
  obtain ⟨y1, y2, y3, y4, y5, y6, y7, y8⟩ := gy z
  have aa := f10.2.1.1.1.1
  unfold Ab_230_22 at aa
  obtain ⟨ea, _, _, _, _, _, _, _, _, _, _, x4⟩ := aa
  subst ea
  have d15 := rdS (q := 285) f15 f6
  have d30 := rdS (q := 285) f30 f6
  have q11 := f11
  have q16 := f16
  have q21 := f21
  have q31 := f31
  have q32 := f32
  unfold w32 at q32
  have q37 := f37
  have p0 := PR_fr f20.1.2.1 (by decide +kernel) z1
  have v0 : vwR H2 = vwR H0 := p0.2.1.trans vz
  have ah0 : absR H2 = (absR H1) := p0.1
  have i0 := f20.2
  unfold postb_216 at i0
  rw [f17] at i0
  have cm0 := f21
  have b0 := (isR_or (k := 2) p0.2.2.1 (by decide) i0).resolve_left (fun w => absurd (w.1.symm.trans cm0) (by decide))
  replace b0 := b0.2
  rw [v0, ah0, kmc_2] at b0
  have c1 := f26.2.1.2 p0.2.2.1
  try rw [f22] at c1
  try rw [f23] at c1
  rw [v0, ah0] at c1
  have v1 : vwR H3 = vwR H0 := (vwR_fr f26.1.2.1 (by decide +kernel)).trans v0
  have p2 := PR_fr f36.1.2.1 (by decide +kernel) c1.1
  have v2 : vwR H4 = vwR H0 := p2.2.1.trans v1
  have ah2 : absR H4 = (pnm (vwR H0) 0 400 (absR H1)) := p2.1.trans c1.2
  have i2 := f36.2
  unfold postb_216 at i2
  rw [f33] at i2
  have cm2 := f37
  have b2 := (isR_or (k := 5) p2.2.2.1 (by decide) i2).resolve_left (fun w => absurd (w.1.symm.trans cm2) (by decide))
  replace b2 := b2.2
  rw [v2, ah2, kmc_5] at b2
  have cu : CRo H1 H4 n2 := (CRo_tr (CRo_8 (CR8_fr f20.1.2.1 (by decide +kernel))) (CRo_tr (CRo_8 (CR8_fr f26.1.2.1 (by decide +kernel))) (CRo_8 (CR8_fr f36.1.2.1 (by decide +kernel)))))
  refine ⟨CRo_tr y1 cu, ((fRow f36.1.2.1 298 (by decide +kernel)).trans ((fRow f26.1.2.1 298 (by decide +kernel)).trans (fRow f20.1.2.1 298 (by decide +kernel)))).trans y2, ((fRow f36.1.2.1 299 (by decide +kernel)).trans ((fRow f26.1.2.1 299 (by decide +kernel)).trans (fRow f20.1.2.1 299 (by decide +kernel)))).trans y3, ((fRow f36.1.2.1 301 (by decide +kernel)).trans ((fRow f26.1.2.1 301 (by decide +kernel)).trans (fRow f20.1.2.1 301 (by decide +kernel)))).trans y4, ((fRow f36.1.2.1 302 (by decide +kernel)).trans ((fRow f26.1.2.1 302 (by decide +kernel)).trans (fRow f20.1.2.1 302 (by decide +kernel)))).trans y5, ((fRow f36.1.2.1 303 (by decide +kernel)).trans ((fRow f26.1.2.1 303 (by decide +kernel)).trans (fRow f20.1.2.1 303 (by decide +kernel)))).trans y6, ((fRow f36.1.2.1 304 (by decide +kernel)).trans ((fRow f26.1.2.1 304 (by decide +kernel)).trans (fRow f20.1.2.1 304 (by decide +kernel)))).trans y7, fun hf => ?_⟩
  have hzH3 := fzR c1.1 p2.2.2.1 c1.2 ah2 (fun _ _ => rfl) hf
  have hzH2 := fzR p0.2.2.1 c1.1 ah0 c1.2 (fun n k => pnm_neg n k) hzH3.1
  have hzH1 := fzR z1 p0.2.2.1 rfl ah0 (fun _ _ => rfl) hzH2.1
  exact ((congrFun (fRow f36.1.2.1 300 (by decide +kernel)) _).trans ((congrFun (fRow f26.1.2.1 300 (by decide +kernel)) _).trans (congrFun (fRow f20.1.2.1 300 (by decide +kernel)) _))).trans (y8 hzH1.1)
def g_230y_22_2 : vG := ([(30, [15], [], 0), (1216, [15, 2, 14], [3, 4], 0), (90, [15], [], 0), (91, [15], [], 1), (0, [14], [], 5), (10, [13, 4], [], 1), (31, [12], [], 0), (20, [12, 2], [3], 13), (23, [2], [3], 12), (90, [12], [], 0), (91, [12], [], 2), (1223, [11, 2, 9, 10], [2, 3], 0), (90, [11], [], 0), (91, [11], [], 9999), (0, [10], [], 400), (0, [9], [], 0), (30, [8], [], 0), (1216, [8, 2, 7], [1, 2], 0), (90, [8], [], 0), (91, [8], [], 1), (0, [7], [], 2), (30, [6], [], 0), (20, [6, 2], [1], 13), (23, [2], [1], 12), (90, [6], [], 0), (91, [6], [], 2), (31, [5], [], 0), (5000, [0, 1, 2, 3, 4, 5], [0, 1], 22), (0, [0], [], 285), (90, [1], [], 0), (91, [1], [], 1007), (0, [2], [], 285), (90, [3], [], 0), (91, [3], [], 1007), (90, [4], [], 0), (91, [4], [], 5), (90, [5], [], 0), (91, [5], [], 1)], (4000, [2, 3, 13, 15], [4], 22))
theorem c_230y_22_2 {q0 : Nat} : vOkm T0 (eN e_230w L_230y (eAB A_230 B_230) mu_230 y_230 By_230 (some q0)) 2 g_230y_22_2 := vOk_inI fun ρ η f0 f1 f2 f3 f4 f5 f6 f7 f8 f9 f10 f11 f12 f13 f14 f15 f16 f17 f18 f19 f20 f21 f22 f23 f24 f25 f26 f27 f28 f29 f30 f31 f32 f33 f34 f35 f36 f37 => q_230y_3 (q0 := q0) (n0 := ρ 5) (n1 := ρ 4) (n2 := ρ 3) (n3 := ρ 2) (n4 := ρ 1) (n5 := ρ 0) (n6 := ρ 6) (n7 := ρ 7) (n8 := ρ 8) (n9 := ρ 9) (n10 := ρ 10) (n11 := ρ 11) (n12 := ρ 12) (n13 := ρ 13) (n14 := ρ 14) (n15 := ρ 15) (H0 := η 0) (H1 := η 1) (H2 := η 2) (H3 := η 3) (H4 := η 4) f37 f36 f35 f34 f33 f32 f31 f30 f29 f28 f27 f26 f25 f24 f23 f22 f21 f20 f19 f18 f17 f16 f15 f14 f13 f12 f11 f10 f9 f8 f7 f6 f5 f4 f3 f2 f1 f0
theorem q_230y_4 {q0 : Nat} {n0 n1 n2 n3 n4 n5 n6 n7 n8 n9 n10 n11 n12 n13 n14 n15 : Int} {H0 H1 H2 H3 H4 H5 : gH} (f0 : n0 ≤ 1) (f1 : 0 ≤ n0) (f2 : n1 ≤ 5) (f3 : 0 ≤ n1) (f4 : n2 ≤ 1007) (f5 : 0 ≤ n2) (f6 : n3 = 285) (f7 : n4 ≤ 1007) (f8 : 0 ≤ n4) (f9 : n5 = 285) (f10 : (hLe T0 H0 H1 ∧ hFr s_230.2.2.2.2 H0 H1 ∧ hWt T0 H1) ∧ (((Ab_230_22 n5 n4 n3 n2 n1 n0 H0 H1 ∧ Bb_230_22 n5 n4 n3 n2 n1 n0 H0 H1) ∧ Byb_230_22 n5 n4 n3 n2 n1 n0 H0 H1) ∧ preb_230 n5 n4 H0) ∧ some q0 = some (mub_230_22 n5 n4 n3 n2 n1 n0 H0 H1)) (f11 : n0 ≠ 0) (f12 : n6 ≤ 2) (f13 : 0 ≤ n6) (f14 : hK H1 (n3).toNat = 12) (f15 : n6 = hV H1 (n3).toNat 13) (f16 : n6 = 0) (f17 : n7 = 2) (f18 : n8 ≤ 1) (f19 : 0 ≤ n8) (f20 : (hLe T0 H1 H2 ∧ hFr s_216.2.2.2.2 H1 H2 ∧ ((0 : Int) = 0 → H2.length = H1.length) ∧ hWt T0 H2) ∧ postb_216 n8 n3 n7 H1 H2) (f21 : n8 = 0) (f22 : n9 = 0) (f23 : n10 = 400) (f24 : n11 ≤ 9999) (f25 : 0 ≤ n11) (f26 : (hLe T0 H2 H3 ∧ hFr s_223.2.2.2.2 H2 H3 ∧ ((0 : Int) = 0 → H3.length = H2.length) ∧ hWt T0 H3) ∧ ((postb_223 n11 n3 n9 n10 H2 H3 ∧ nb_223 n11 n3 n9 n10 H2 H3) ∧ yb_223 n11 n3 n9 n10 H2 H3)) (f27 : n12 ≤ 2) (f28 : 0 ≤ n12) (f29 : hK H3 (n3).toNat = 12) (f30 : n12 = hV H3 (n3).toNat 13) (f31 : n12 ≠ 0) (f32 : n13 = w32 (n1 + 1)) (f33 : n14 = 5) (f34 : n15 ≤ 1) (f35 : 0 ≤ n15) (f36 : (hLe T0 H3 H4 ∧ hFr s_216.2.2.2.2 H3 H4 ∧ ((0 : Int) = 0 → H4.length = H3.length) ∧ hWt T0 H4) ∧ postb_216 n15 n3 n14 H3 H4) (f37 : n15 ≠ 0) (f38 : (hLe T0 H4 H5 ∧ hFr s_219.2.2.2.2 H4 H5 ∧ ((0 : Int) = 0 → H5.length = H4.length) ∧ hWt T0 H5) ∧ (postb_219 n3 H4 H5 ∧ nb_219 n3 H4 H5)) : Byb_230_22 n5 n4 n3 n2 n13 n15 H0 H5 := by
  unfold Byb_230_22
  intro z
  have ga := f10.2.1.1.1.2
  unfold Bb_230_22 at ga
  obtain ⟨z1, k0, k5, w1, w0⟩ := ga z
  have vz : vwR H1 = vwR H0 := vwR_fr f10.1.2.1 (by decide +kernel)
  have gy := f10.2.1.1.2
  unfold Byb_230_22 at gy
  obtain ⟨y1, y2, y3, y4, y5, y6, y7, y8⟩ := gy z
  have aa := f10.2.1.1.1.1
  unfold Ab_230_22 at aa
  obtain ⟨ea, _, _, _, _, _, _, _, _, _, _, x4⟩ := aa
  subst ea
  have d15 := rdS (q := 285) f15 f6
  have d30 := rdS (q := 285) f30 f6
  have q11 := f11
  have q16 := f16
  have q21 := f21
  have q31 := f31
  have q32 := f32
  unfold w32 at q32
  have q37 := f37
  have p0 := PR_fr f20.1.2.1 (by decide +kernel) z1
  have v0 : vwR H2 = vwR H0 := p0.2.1.trans vz
  have ah0 : absR H2 = (absR H1) := p0.1
  have i0 := f20.2
  unfold postb_216 at i0
  rw [f17] at i0
  have cm0 := f21
  have b0 := (isR_or (k := 2) p0.2.2.1 (by decide) i0).resolve_left (fun w => absurd (w.1.symm.trans cm0) (by decide))
  replace b0 := b0.2
  rw [v0, ah0, kmc_2] at b0
  have c1 := f26.2.1.2 p0.2.2.1
  try rw [f22] at c1
  try rw [f23] at c1
  rw [v0, ah0] at c1
  have v1 : vwR H3 = vwR H0 := (vwR_fr f26.1.2.1 (by decide +kernel)).trans v0
  have p2 := PR_fr f36.1.2.1 (by decide +kernel) c1.1
  have v2 : vwR H4 = vwR H0 := p2.2.1.trans v1
  have ah2 : absR H4 = (pnm (vwR H0) 0 400 (absR H1)) := p2.1.trans c1.2
  have i2 := f36.2
  unfold postb_216 at i2
  rw [f33] at i2
  have cm2 := f37
  have b2 := (isR_or (k := 5) p2.2.2.1 (by decide) i2).resolve_right (fun w => cm2 w.1)
  replace b2 := b2.2
  rw [v2, ah2, kmc_5] at b2
  have c3 := f38.2.2 p2.2.2.1 (by rw [v2, ah2]; rw [b2]; decide)
  rw [v2, ah2, b2] at c3
  have v3 : vwR H5 = vwR H0 := (vwR_fr f38.1.2.1 (by decide +kernel)).trans v2
  have cu : CRo H1 H5 n2 := (CRo_tr (CRo_8 (CR8_fr f20.1.2.1 (by decide +kernel))) (CRo_tr (CRo_8 (CR8_fr f26.1.2.1 (by decide +kernel))) (CRo_tr (CRo_8 (CR8_fr f36.1.2.1 (by decide +kernel))) (CRo_8 (CR8_fr f38.1.2.1 (by decide +kernel))))))
  refine ⟨CRo_tr y1 cu, ((fRow f38.1.2.1 298 (by decide +kernel)).trans ((fRow f36.1.2.1 298 (by decide +kernel)).trans ((fRow f26.1.2.1 298 (by decide +kernel)).trans (fRow f20.1.2.1 298 (by decide +kernel))))).trans y2, ((fRow f38.1.2.1 299 (by decide +kernel)).trans ((fRow f36.1.2.1 299 (by decide +kernel)).trans ((fRow f26.1.2.1 299 (by decide +kernel)).trans (fRow f20.1.2.1 299 (by decide +kernel))))).trans y3, ((fRow f38.1.2.1 301 (by decide +kernel)).trans ((fRow f36.1.2.1 301 (by decide +kernel)).trans ((fRow f26.1.2.1 301 (by decide +kernel)).trans (fRow f20.1.2.1 301 (by decide +kernel))))).trans y4, ((fRow f38.1.2.1 302 (by decide +kernel)).trans ((fRow f36.1.2.1 302 (by decide +kernel)).trans ((fRow f26.1.2.1 302 (by decide +kernel)).trans (fRow f20.1.2.1 302 (by decide +kernel))))).trans y5, ((fRow f38.1.2.1 303 (by decide +kernel)).trans ((fRow f36.1.2.1 303 (by decide +kernel)).trans ((fRow f26.1.2.1 303 (by decide +kernel)).trans (fRow f20.1.2.1 303 (by decide +kernel))))).trans y6, ((fRow f38.1.2.1 304 (by decide +kernel)).trans ((fRow f36.1.2.1 304 (by decide +kernel)).trans ((fRow f26.1.2.1 304 (by decide +kernel)).trans (fRow f20.1.2.1 304 (by decide +kernel))))).trans y7, fun hf => ?_⟩
  have hzH4 := fzR p2.2.2.1 c3.1 ah2 c3.2 (fun n k => ptk_neg n k) hf
  have hzH3 := fzR c1.1 p2.2.2.1 c1.2 ah2 (fun _ _ => rfl) hzH4.1
  have hzH2 := fzR p0.2.2.1 c1.1 ah0 c1.2 (fun n k => pnm_neg n k) hzH3.1
  have hzH1 := fzR z1 p0.2.2.1 rfl ah0 (fun _ _ => rfl) hzH2.1
  exact ((congrFun (fRow f38.1.2.1 300 (by decide +kernel)) _).trans ((congrFun (fRow f36.1.2.1 300 (by decide +kernel)) _).trans ((congrFun (fRow f26.1.2.1 300 (by decide +kernel)) _).trans (congrFun (fRow f20.1.2.1 300 (by decide +kernel)) _)))).trans (y8 hzH1.1)
def g_230y_22_3 : vG := ([(1219, [2], [4, 5], 0), (31, [15], [], 0), (1216, [15, 2, 14], [3, 4], 0), (90, [15], [], 0), (91, [15], [], 1), (0, [14], [], 5), (10, [13, 4], [], 1), (31, [12], [], 0), (20, [12, 2], [3], 13), (23, [2], [3], 12), (90, [12], [], 0), (91, [12], [], 2), (1223, [11, 2, 9, 10], [2, 3], 0), (90, [11], [], 0), (91, [11], [], 9999), (0, [10], [], 400), (0, [9], [], 0), (30, [8], [], 0), (1216, [8, 2, 7], [1, 2], 0), (90, [8], [], 0), (91, [8], [], 1), (0, [7], [], 2), (30, [6], [], 0), (20, [6, 2], [1], 13), (23, [2], [1], 12), (90, [6], [], 0), (91, [6], [], 2), (31, [5], [], 0), (5000, [0, 1, 2, 3, 4, 5], [0, 1], 22), (0, [0], [], 285), (90, [1], [], 0), (91, [1], [], 1007), (0, [2], [], 285), (90, [3], [], 0), (91, [3], [], 1007), (90, [4], [], 0), (91, [4], [], 5), (90, [5], [], 0), (91, [5], [], 1)], (4000, [2, 3, 13, 15], [5], 22))
theorem c_230y_22_3 {q0 : Nat} : vOkm T0 (eN e_230w L_230y (eAB A_230 B_230) mu_230 y_230 By_230 (some q0)) 2 g_230y_22_3 := vOk_inI fun ρ η f0 f1 f2 f3 f4 f5 f6 f7 f8 f9 f10 f11 f12 f13 f14 f15 f16 f17 f18 f19 f20 f21 f22 f23 f24 f25 f26 f27 f28 f29 f30 f31 f32 f33 f34 f35 f36 f37 f38 => q_230y_4 (q0 := q0) (n0 := ρ 5) (n1 := ρ 4) (n2 := ρ 3) (n3 := ρ 2) (n4 := ρ 1) (n5 := ρ 0) (n6 := ρ 6) (n7 := ρ 7) (n8 := ρ 8) (n9 := ρ 9) (n10 := ρ 10) (n11 := ρ 11) (n12 := ρ 12) (n13 := ρ 13) (n14 := ρ 14) (n15 := ρ 15) (H0 := η 0) (H1 := η 1) (H2 := η 2) (H3 := η 3) (H4 := η 4) (H5 := η 5) f38 f37 f36 f35 f34 f33 f32 f31 f30 f29 f28 f27 f26 f25 f24 f23 f22 f21 f20 f19 f18 f17 f16 f15 f14 f13 f12 f11 f10 f9 f8 f7 f6 f5 f4 f3 f2 f1 f0
theorem q_230y_5 {q0 : Nat} {n0 n1 n2 n3 n4 n5 n6 n7 n8 n9 n10 n11 n12 n13 n14 n15 n16 n17 n18 n19 n20 n21 : Int} {H0 H1 H2 H3 H4 H5 : gH} (f0 : n0 ≤ 1) (f1 : 0 ≤ n0) (f2 : n1 ≤ 5) (f3 : 0 ≤ n1) (f4 : n2 ≤ 1007) (f5 : 0 ≤ n2) (f6 : n3 = 285) (f7 : n4 ≤ 1007) (f8 : 0 ≤ n4) (f9 : n5 = 285) (f10 : (hLe T0 H0 H1 ∧ hFr s_230.2.2.2.2 H0 H1 ∧ hWt T0 H1) ∧ (((Ab_230_22 n5 n4 n3 n2 n1 n0 H0 H1 ∧ Bb_230_22 n5 n4 n3 n2 n1 n0 H0 H1) ∧ Byb_230_22 n5 n4 n3 n2 n1 n0 H0 H1) ∧ preb_230 n5 n4 H0) ∧ some q0 = some (mub_230_22 n5 n4 n3 n2 n1 n0 H0 H1)) (f11 : n0 ≠ 0) (f12 : n6 ≤ 2) (f13 : 0 ≤ n6) (f14 : hK H1 (n3).toNat = 12) (f15 : n6 = hV H1 (n3).toNat 13) (f16 : n6 = 0) (f17 : n7 = 2) (f18 : n8 ≤ 1) (f19 : 0 ≤ n8) (f20 : (hLe T0 H1 H2 ∧ hFr s_216.2.2.2.2 H1 H2 ∧ ((0 : Int) = 0 → H2.length = H1.length) ∧ hWt T0 H2) ∧ postb_216 n8 n3 n7 H1 H2) (f21 : n8 = 0) (f22 : n9 = 0) (f23 : n10 = 400) (f24 : n11 ≤ 9999) (f25 : 0 ≤ n11) (f26 : (hLe T0 H2 H3 ∧ hFr s_223.2.2.2.2 H2 H3 ∧ ((0 : Int) = 0 → H3.length = H2.length) ∧ hWt T0 H3) ∧ ((postb_223 n11 n3 n9 n10 H2 H3 ∧ nb_223 n11 n3 n9 n10 H2 H3) ∧ yb_223 n11 n3 n9 n10 H2 H3)) (f27 : n12 ≤ 2) (f28 : 0 ≤ n12) (f29 : hK H3 (n3).toNat = 12) (f30 : n12 = hV H3 (n3).toNat 13) (f31 : n12 = 0) (f32 : n13 = 305) (f33 : hK H3 (n3).toNat = 12) (f34 : n13 = hV H3 (n3).toNat 31) (f35 : n14 = 6) (f36 : n15 = w32 (n14 * n2)) (f37 : n16 = 1) (f38 : n17 = w32 (n15 + n16)) (f39 : n18 = w32 (n17 + n1)) (f40 : hK H3 (n13).toNat = 268) (f41 : hUpd H4 H3 n13 n18 n11) (f42 : n19 = w32 (n1 + 1)) (f43 : n20 = 5) (f44 : n21 ≤ 1) (f45 : 0 ≤ n21) (f46 : (hLe T0 H4 H5 ∧ hFr s_216.2.2.2.2 H4 H5 ∧ ((0 : Int) = 0 → H5.length = H4.length) ∧ hWt T0 H5) ∧ postb_216 n21 n3 n20 H4 H5) (f47 : n21 = 0) : Byb_230_22 n5 n4 n3 n2 n19 n21 H0 H5 := by
  unfold Byb_230_22
  intro z
  have ga := f10.2.1.1.1.2
  unfold Bb_230_22 at ga
  obtain ⟨z1, k0, k5, w1, w0⟩ := ga z
  have vz : vwR H1 = vwR H0 := vwR_fr f10.1.2.1 (by decide +kernel)
  have gy := f10.2.1.1.2
  unfold Byb_230_22 at gy
  obtain ⟨y1, y2, y3, y4, y5, y6, y7, y8⟩ := gy z
  have aa := f10.2.1.1.1.1
  unfold Ab_230_22 at aa
  obtain ⟨ea, _, _, _, _, _, _, _, _, _, _, x4⟩ := aa
  subst ea
  have d15 := rdS (q := 285) f15 f6
  have d30 := rdS (q := 285) f30 f6
  have q11 := f11
  have q16 := f16
  have q21 := f21
  have q31 := f31
  have q42 := f42
  unfold w32 at q42
  have q47 := f47
  have p0 := PR_fr f20.1.2.1 (by decide +kernel) z1
  have v0 : vwR H2 = vwR H0 := p0.2.1.trans vz
  have ah0 : absR H2 = (absR H1) := p0.1
  have i0 := f20.2
  unfold postb_216 at i0
  rw [f17] at i0
  have cm0 := f21
  have b0 := (isR_or (k := 2) p0.2.2.1 (by decide) i0).resolve_left (fun w => absurd (w.1.symm.trans cm0) (by decide))
  replace b0 := b0.2
  rw [v0, ah0, kmc_2] at b0
  have c1 := f26.2.1.2 p0.2.2.1
  try rw [f22] at c1
  try rw [f23] at c1
  rw [v0, ah0] at c1
  have v1 : vwR H3 = vwR H0 := (vwR_fr f26.1.2.1 (by decide +kernel)).trans v0
  have p2 := PR_row (q := 305) f41 f32 (by decide) c1.1
  have v2 : vwR H4 = vwR H0 := p2.2.1.trans v1
  have ah2 : absR H4 = (pnm (vwR H0) 0 400 (absR H1)) := p2.1.trans c1.2
  have p3 := PR_fr f46.1.2.1 (by decide +kernel) p2.2.2.1
  have v3 : vwR H5 = vwR H0 := p3.2.1.trans v2
  have ah3 : absR H5 = (pnm (vwR H0) 0 400 (absR H1)) := p3.1.trans ah2
  have i3 := f46.2
  unfold postb_216 at i3
  rw [f43] at i3
  have cm3 := f47
  have b3 := (isR_or (k := 5) p3.2.2.1 (by decide) i3).resolve_left (fun w => absurd (w.1.symm.trans cm3) (by decide))
  replace b3 := b3.2
  rw [v3, ah3, kmc_5] at b3
  have ix15 : n15 = 6 * n2 := by
    have w := f36
    rw [f35] at w
    unfold w32 at w
    omega
  have ix17 : n17 = 6 * n2 + 1 := by
    have w := f38
    rw [f37] at w
    unfold w32 at w
    omega
  have cu : CRo H1 H5 n2 := (CRo_tr (CRo_8 (CR8_fr f20.1.2.1 (by decide +kernel))) (CRo_tr (CRo_8 (CR8_fr f26.1.2.1 (by decide +kernel))) (CRo_tr (CRo_up5 f41 f32 (k := 1 + n1) (by have w := f39; unfold w32 at w; omega) (by omega) (by omega)) (CRo_8 (CR8_fr f46.1.2.1 (by decide +kernel))))))
  refine ⟨CRo_tr y1 cu, ((fRow f46.1.2.1 298 (by decide +kernel)).trans ((uRowNe f41 298 (by rw [f32]; decide)).trans ((fRow f26.1.2.1 298 (by decide +kernel)).trans (fRow f20.1.2.1 298 (by decide +kernel))))).trans y2, ((fRow f46.1.2.1 299 (by decide +kernel)).trans ((uRowNe f41 299 (by rw [f32]; decide)).trans ((fRow f26.1.2.1 299 (by decide +kernel)).trans (fRow f20.1.2.1 299 (by decide +kernel))))).trans y3, ((fRow f46.1.2.1 301 (by decide +kernel)).trans ((uRowNe f41 301 (by rw [f32]; decide)).trans ((fRow f26.1.2.1 301 (by decide +kernel)).trans (fRow f20.1.2.1 301 (by decide +kernel))))).trans y4, ((fRow f46.1.2.1 302 (by decide +kernel)).trans ((uRowNe f41 302 (by rw [f32]; decide)).trans ((fRow f26.1.2.1 302 (by decide +kernel)).trans (fRow f20.1.2.1 302 (by decide +kernel))))).trans y5, ((fRow f46.1.2.1 303 (by decide +kernel)).trans ((uRowNe f41 303 (by rw [f32]; decide)).trans ((fRow f26.1.2.1 303 (by decide +kernel)).trans (fRow f20.1.2.1 303 (by decide +kernel))))).trans y6, ((fRow f46.1.2.1 304 (by decide +kernel)).trans ((uRowNe f41 304 (by rw [f32]; decide)).trans ((fRow f26.1.2.1 304 (by decide +kernel)).trans (fRow f20.1.2.1 304 (by decide +kernel))))).trans y7, fun hf => ?_⟩
  have hzH4 := fzR p2.2.2.1 p3.2.2.1 ah2 ah3 (fun _ _ => rfl) hf
  have hzH3 := fzR c1.1 p2.2.2.1 c1.2 ah2 (fun _ _ => rfl) hzH4.1
  have hzH2 := fzR p0.2.2.1 c1.1 ah0 c1.2 (fun n k => pnm_neg n k) hzH3.1
  have hzH1 := fzR z1 p0.2.2.1 rfl ah0 (fun _ _ => rfl) hzH2.1
  exact ((congrFun (fRow f46.1.2.1 300 (by decide +kernel)) _).trans ((congrFun (uRowNe f41 300 (by rw [f32]; decide)) _).trans ((congrFun (fRow f26.1.2.1 300 (by decide +kernel)) _).trans (congrFun (fRow f20.1.2.1 300 (by decide +kernel)) _)))).trans (y8 hzH1.1)
def g_230y_22_4 : vG := ([(30, [21], [], 0), (1216, [21, 2, 20], [4, 5], 0), (90, [21], [], 0), (91, [21], [], 1), (0, [20], [], 5), (10, [19, 4], [], 1), (80, [13, 18, 11], [4, 3], 0), (23, [13], [3], 268), (1, [18, 17, 4], [], 0), (1, [17, 15, 16], [], 0), (0, [16], [], 1), (3, [15, 14, 3], [], 0), (0, [14], [], 6), (20, [13, 2], [3], 31), (23, [2], [3], 12), (0, [13], [], 305), (30, [12], [], 0), (20, [12, 2], [3], 13), (23, [2], [3], 12), (90, [12], [], 0), (91, [12], [], 2), (1223, [11, 2, 9, 10], [2, 3], 0), (90, [11], [], 0), (91, [11], [], 9999), (0, [10], [], 400), (0, [9], [], 0), (30, [8], [], 0), (1216, [8, 2, 7], [1, 2], 0), (90, [8], [], 0), (91, [8], [], 1), (0, [7], [], 2), (30, [6], [], 0), (20, [6, 2], [1], 13), (23, [2], [1], 12), (90, [6], [], 0), (91, [6], [], 2), (31, [5], [], 0), (5000, [0, 1, 2, 3, 4, 5], [0, 1], 22), (0, [0], [], 285), (90, [1], [], 0), (91, [1], [], 1007), (0, [2], [], 285), (90, [3], [], 0), (91, [3], [], 1007), (90, [4], [], 0), (91, [4], [], 5), (90, [5], [], 0), (91, [5], [], 1)], (4000, [2, 3, 19, 21], [5], 22))
theorem c_230y_22_4 {q0 : Nat} : vOkm T0 (eN e_230w L_230y (eAB A_230 B_230) mu_230 y_230 By_230 (some q0)) 2 g_230y_22_4 := vOk_inI fun ρ η f0 f1 f2 f3 f4 f5 f6 f7 f8 f9 f10 f11 f12 f13 f14 f15 f16 f17 f18 f19 f20 f21 f22 f23 f24 f25 f26 f27 f28 f29 f30 f31 f32 f33 f34 f35 f36 f37 f38 f39 f40 f41 f42 f43 f44 f45 f46 f47 => q_230y_5 (q0 := q0) (n0 := ρ 5) (n1 := ρ 4) (n2 := ρ 3) (n3 := ρ 2) (n4 := ρ 1) (n5 := ρ 0) (n6 := ρ 6) (n7 := ρ 7) (n8 := ρ 8) (n9 := ρ 9) (n10 := ρ 10) (n11 := ρ 11) (n12 := ρ 12) (n13 := ρ 13) (n14 := ρ 14) (n15 := ρ 15) (n16 := ρ 16) (n17 := ρ 17) (n18 := ρ 18) (n19 := ρ 19) (n20 := ρ 20) (n21 := ρ 21) (H0 := η 0) (H1 := η 1) (H2 := η 2) (H3 := η 3) (H4 := η 4) (H5 := η 5) f47 f46 f45 f44 f43 f42 f41 f40 f39 f38 f37 f36 f35 f34 f33 f32 f31 f30 f29 f28 f27 f26 f25 f24 f23 f22 f21 f20 f19 f18 f17 f16 f15 f14 f13 f12 f11 f10 f9 f8 f7 f6 f5 f4 f3 f2 f1 f0
theorem q_230y_6 {q0 : Nat} {n0 n1 n2 n3 n4 n5 n6 n7 n8 n9 n10 n11 n12 n13 n14 n15 n16 n17 n18 n19 n20 n21 : Int} {H0 H1 H2 H3 H4 H5 H6 : gH} (f0 : n0 ≤ 1) (f1 : 0 ≤ n0) (f2 : n1 ≤ 5) (f3 : 0 ≤ n1) (f4 : n2 ≤ 1007) (f5 : 0 ≤ n2) (f6 : n3 = 285) (f7 : n4 ≤ 1007) (f8 : 0 ≤ n4) (f9 : n5 = 285) (f10 : (hLe T0 H0 H1 ∧ hFr s_230.2.2.2.2 H0 H1 ∧ hWt T0 H1) ∧ (((Ab_230_22 n5 n4 n3 n2 n1 n0 H0 H1 ∧ Bb_230_22 n5 n4 n3 n2 n1 n0 H0 H1) ∧ Byb_230_22 n5 n4 n3 n2 n1 n0 H0 H1) ∧ preb_230 n5 n4 H0) ∧ some q0 = some (mub_230_22 n5 n4 n3 n2 n1 n0 H0 H1)) (f11 : n0 ≠ 0) (f12 : n6 ≤ 2) (f13 : 0 ≤ n6) (f14 : hK H1 (n3).toNat = 12) (f15 : n6 = hV H1 (n3).toNat 13) (f16 : n6 = 0) (f17 : n7 = 2) (f18 : n8 ≤ 1) (f19 : 0 ≤ n8) (f20 : (hLe T0 H1 H2 ∧ hFr s_216.2.2.2.2 H1 H2 ∧ ((0 : Int) = 0 → H2.length = H1.length) ∧ hWt T0 H2) ∧ postb_216 n8 n3 n7 H1 H2) (f21 : n8 = 0) (f22 : n9 = 0) (f23 : n10 = 400) (f24 : n11 ≤ 9999) (f25 : 0 ≤ n11) (f26 : (hLe T0 H2 H3 ∧ hFr s_223.2.2.2.2 H2 H3 ∧ ((0 : Int) = 0 → H3.length = H2.length) ∧ hWt T0 H3) ∧ ((postb_223 n11 n3 n9 n10 H2 H3 ∧ nb_223 n11 n3 n9 n10 H2 H3) ∧ yb_223 n11 n3 n9 n10 H2 H3)) (f27 : n12 ≤ 2) (f28 : 0 ≤ n12) (f29 : hK H3 (n3).toNat = 12) (f30 : n12 = hV H3 (n3).toNat 13) (f31 : n12 = 0) (f32 : n13 = 305) (f33 : hK H3 (n3).toNat = 12) (f34 : n13 = hV H3 (n3).toNat 31) (f35 : n14 = 6) (f36 : n15 = w32 (n14 * n2)) (f37 : n16 = 1) (f38 : n17 = w32 (n15 + n16)) (f39 : n18 = w32 (n17 + n1)) (f40 : hK H3 (n13).toNat = 268) (f41 : hUpd H4 H3 n13 n18 n11) (f42 : n19 = w32 (n1 + 1)) (f43 : n20 = 5) (f44 : n21 ≤ 1) (f45 : 0 ≤ n21) (f46 : (hLe T0 H4 H5 ∧ hFr s_216.2.2.2.2 H4 H5 ∧ ((0 : Int) = 0 → H5.length = H4.length) ∧ hWt T0 H5) ∧ postb_216 n21 n3 n20 H4 H5) (f47 : n21 ≠ 0) (f48 : (hLe T0 H5 H6 ∧ hFr s_219.2.2.2.2 H5 H6 ∧ ((0 : Int) = 0 → H6.length = H5.length) ∧ hWt T0 H6) ∧ (postb_219 n3 H5 H6 ∧ nb_219 n3 H5 H6)) : Byb_230_22 n5 n4 n3 n2 n19 n21 H0 H6 := by
  unfold Byb_230_22
  intro z
  have ga := f10.2.1.1.1.2
  unfold Bb_230_22 at ga
  obtain ⟨z1, k0, k5, w1, w0⟩ := ga z
  have vz : vwR H1 = vwR H0 := vwR_fr f10.1.2.1 (by decide +kernel)
  have gy := f10.2.1.1.2
  unfold Byb_230_22 at gy
  obtain ⟨y1, y2, y3, y4, y5, y6, y7, y8⟩ := gy z
  have aa := f10.2.1.1.1.1
  unfold Ab_230_22 at aa
  obtain ⟨ea, _, _, _, _, _, _, _, _, _, _, x4⟩ := aa
  subst ea
  have d15 := rdS (q := 285) f15 f6
  have d30 := rdS (q := 285) f30 f6
  have q11 := f11
  have q16 := f16
  have q21 := f21
  have q31 := f31
  have q42 := f42
  unfold w32 at q42
  have q47 := f47
  have p0 := PR_fr f20.1.2.1 (by decide +kernel) z1
  have v0 : vwR H2 = vwR H0 := p0.2.1.trans vz
  have ah0 : absR H2 = (absR H1) := p0.1
  have i0 := f20.2
  unfold postb_216 at i0
  rw [f17] at i0
  have cm0 := f21
  have b0 := (isR_or (k := 2) p0.2.2.1 (by decide) i0).resolve_left (fun w => absurd (w.1.symm.trans cm0) (by decide))
  replace b0 := b0.2
  rw [v0, ah0, kmc_2] at b0
  have c1 := f26.2.1.2 p0.2.2.1
  try rw [f22] at c1
  try rw [f23] at c1
  rw [v0, ah0] at c1
  have v1 : vwR H3 = vwR H0 := (vwR_fr f26.1.2.1 (by decide +kernel)).trans v0
  have p2 := PR_row (q := 305) f41 f32 (by decide) c1.1
  have v2 : vwR H4 = vwR H0 := p2.2.1.trans v1
  have ah2 : absR H4 = (pnm (vwR H0) 0 400 (absR H1)) := p2.1.trans c1.2
  have p3 := PR_fr f46.1.2.1 (by decide +kernel) p2.2.2.1
  have v3 : vwR H5 = vwR H0 := p3.2.1.trans v2
  have ah3 : absR H5 = (pnm (vwR H0) 0 400 (absR H1)) := p3.1.trans ah2
  have i3 := f46.2
  unfold postb_216 at i3
  rw [f43] at i3
  have cm3 := f47
  have b3 := (isR_or (k := 5) p3.2.2.1 (by decide) i3).resolve_right (fun w => cm3 w.1)
  replace b3 := b3.2
  rw [v3, ah3, kmc_5] at b3
  have c4 := f48.2.2 p3.2.2.1 (by rw [v3, ah3]; rw [b3]; decide)
  rw [v3, ah3, b3] at c4
  have v4 : vwR H6 = vwR H0 := (vwR_fr f48.1.2.1 (by decide +kernel)).trans v3
  have ix15 : n15 = 6 * n2 := by
    have w := f36
    rw [f35] at w
    unfold w32 at w
    omega
  have ix17 : n17 = 6 * n2 + 1 := by
    have w := f38
    rw [f37] at w
    unfold w32 at w
    omega
  have cu : CRo H1 H6 n2 := (CRo_tr (CRo_8 (CR8_fr f20.1.2.1 (by decide +kernel))) (CRo_tr (CRo_8 (CR8_fr f26.1.2.1 (by decide +kernel))) (CRo_tr (CRo_up5 f41 f32 (k := 1 + n1) (by have w := f39; unfold w32 at w; omega) (by omega) (by omega)) (CRo_tr (CRo_8 (CR8_fr f46.1.2.1 (by decide +kernel))) (CRo_8 (CR8_fr f48.1.2.1 (by decide +kernel)))))))
  refine ⟨CRo_tr y1 cu, ((fRow f48.1.2.1 298 (by decide +kernel)).trans ((fRow f46.1.2.1 298 (by decide +kernel)).trans ((uRowNe f41 298 (by rw [f32]; decide)).trans ((fRow f26.1.2.1 298 (by decide +kernel)).trans (fRow f20.1.2.1 298 (by decide +kernel)))))).trans y2, ((fRow f48.1.2.1 299 (by decide +kernel)).trans ((fRow f46.1.2.1 299 (by decide +kernel)).trans ((uRowNe f41 299 (by rw [f32]; decide)).trans ((fRow f26.1.2.1 299 (by decide +kernel)).trans (fRow f20.1.2.1 299 (by decide +kernel)))))).trans y3, ((fRow f48.1.2.1 301 (by decide +kernel)).trans ((fRow f46.1.2.1 301 (by decide +kernel)).trans ((uRowNe f41 301 (by rw [f32]; decide)).trans ((fRow f26.1.2.1 301 (by decide +kernel)).trans (fRow f20.1.2.1 301 (by decide +kernel)))))).trans y4, ((fRow f48.1.2.1 302 (by decide +kernel)).trans ((fRow f46.1.2.1 302 (by decide +kernel)).trans ((uRowNe f41 302 (by rw [f32]; decide)).trans ((fRow f26.1.2.1 302 (by decide +kernel)).trans (fRow f20.1.2.1 302 (by decide +kernel)))))).trans y5, ((fRow f48.1.2.1 303 (by decide +kernel)).trans ((fRow f46.1.2.1 303 (by decide +kernel)).trans ((uRowNe f41 303 (by rw [f32]; decide)).trans ((fRow f26.1.2.1 303 (by decide +kernel)).trans (fRow f20.1.2.1 303 (by decide +kernel)))))).trans y6, ((fRow f48.1.2.1 304 (by decide +kernel)).trans ((fRow f46.1.2.1 304 (by decide +kernel)).trans ((uRowNe f41 304 (by rw [f32]; decide)).trans ((fRow f26.1.2.1 304 (by decide +kernel)).trans (fRow f20.1.2.1 304 (by decide +kernel)))))).trans y7, fun hf => ?_⟩
  have hzH5 := fzR p3.2.2.1 c4.1 ah3 c4.2 (fun n k => ptk_neg n k) hf
  have hzH4 := fzR p2.2.2.1 p3.2.2.1 ah2 ah3 (fun _ _ => rfl) hzH5.1
  have hzH3 := fzR c1.1 p2.2.2.1 c1.2 ah2 (fun _ _ => rfl) hzH4.1
  have hzH2 := fzR p0.2.2.1 c1.1 ah0 c1.2 (fun n k => pnm_neg n k) hzH3.1
  have hzH1 := fzR z1 p0.2.2.1 rfl ah0 (fun _ _ => rfl) hzH2.1
  exact ((congrFun (fRow f48.1.2.1 300 (by decide +kernel)) _).trans ((congrFun (fRow f46.1.2.1 300 (by decide +kernel)) _).trans ((congrFun (uRowNe f41 300 (by rw [f32]; decide)) _).trans ((congrFun (fRow f26.1.2.1 300 (by decide +kernel)) _).trans (congrFun (fRow f20.1.2.1 300 (by decide +kernel)) _))))).trans (y8 hzH1.1)
def g_230y_22_5 : vG := ([(1219, [2], [5, 6], 0), (31, [21], [], 0), (1216, [21, 2, 20], [4, 5], 0), (90, [21], [], 0), (91, [21], [], 1), (0, [20], [], 5), (10, [19, 4], [], 1), (80, [13, 18, 11], [4, 3], 0), (23, [13], [3], 268), (1, [18, 17, 4], [], 0), (1, [17, 15, 16], [], 0), (0, [16], [], 1), (3, [15, 14, 3], [], 0), (0, [14], [], 6), (20, [13, 2], [3], 31), (23, [2], [3], 12), (0, [13], [], 305), (30, [12], [], 0), (20, [12, 2], [3], 13), (23, [2], [3], 12), (90, [12], [], 0), (91, [12], [], 2), (1223, [11, 2, 9, 10], [2, 3], 0), (90, [11], [], 0), (91, [11], [], 9999), (0, [10], [], 400), (0, [9], [], 0), (30, [8], [], 0), (1216, [8, 2, 7], [1, 2], 0), (90, [8], [], 0), (91, [8], [], 1), (0, [7], [], 2), (30, [6], [], 0), (20, [6, 2], [1], 13), (23, [2], [1], 12), (90, [6], [], 0), (91, [6], [], 2), (31, [5], [], 0), (5000, [0, 1, 2, 3, 4, 5], [0, 1], 22), (0, [0], [], 285), (90, [1], [], 0), (91, [1], [], 1007), (0, [2], [], 285), (90, [3], [], 0), (91, [3], [], 1007), (90, [4], [], 0), (91, [4], [], 5), (90, [5], [], 0), (91, [5], [], 1)], (4000, [2, 3, 19, 21], [6], 22))
theorem c_230y_22_5 {q0 : Nat} : vOkm T0 (eN e_230w L_230y (eAB A_230 B_230) mu_230 y_230 By_230 (some q0)) 2 g_230y_22_5 := vOk_inI fun ρ η f0 f1 f2 f3 f4 f5 f6 f7 f8 f9 f10 f11 f12 f13 f14 f15 f16 f17 f18 f19 f20 f21 f22 f23 f24 f25 f26 f27 f28 f29 f30 f31 f32 f33 f34 f35 f36 f37 f38 f39 f40 f41 f42 f43 f44 f45 f46 f47 f48 => q_230y_6 (q0 := q0) (n0 := ρ 5) (n1 := ρ 4) (n2 := ρ 3) (n3 := ρ 2) (n4 := ρ 1) (n5 := ρ 0) (n6 := ρ 6) (n7 := ρ 7) (n8 := ρ 8) (n9 := ρ 9) (n10 := ρ 10) (n11 := ρ 11) (n12 := ρ 12) (n13 := ρ 13) (n14 := ρ 14) (n15 := ρ 15) (n16 := ρ 16) (n17 := ρ 17) (n18 := ρ 18) (n19 := ρ 19) (n20 := ρ 20) (n21 := ρ 21) (H0 := η 0) (H1 := η 1) (H2 := η 2) (H3 := η 3) (H4 := η 4) (H5 := η 5) (H6 := η 6) f48 f47 f46 f45 f44 f43 f42 f41 f40 f39 f38 f37 f36 f35 f34 f33 f32 f31 f30 f29 f28 f27 f26 f25 f24 f23 f22 f21 f20 f19 f18 f17 f16 f15 f14 f13 f12 f11 f10 f9 f8 f7 f6 f5 f4 f3 f2 f1 f0
theorem q_230y_7 {q0 : Nat} {n0 n1 n2 n3 n4 n5 n6 n7 n8 n9 n10 n11 n12 n13 n14 n15 n16 : Int} {H0 H1 H2 H3 H4 : gH} (f0 : n0 ≤ 1) (f1 : 0 ≤ n0) (f2 : n1 ≤ 5) (f3 : 0 ≤ n1) (f4 : n2 ≤ 1007) (f5 : 0 ≤ n2) (f6 : n3 = 285) (f7 : n4 ≤ 1007) (f8 : 0 ≤ n4) (f9 : n5 = 285) (f10 : (hLe T0 H0 H1 ∧ hFr s_230.2.2.2.2 H0 H1 ∧ hWt T0 H1) ∧ (((Ab_230_22 n5 n4 n3 n2 n1 n0 H0 H1 ∧ Bb_230_22 n5 n4 n3 n2 n1 n0 H0 H1) ∧ Byb_230_22 n5 n4 n3 n2 n1 n0 H0 H1) ∧ preb_230 n5 n4 H0) ∧ some q0 = some (mub_230_22 n5 n4 n3 n2 n1 n0 H0 H1)) (f11 : n0 ≠ 0) (f12 : n6 ≤ 2) (f13 : 0 ≤ n6) (f14 : hK H1 (n3).toNat = 12) (f15 : n6 = hV H1 (n3).toNat 13) (f16 : n6 = 0) (f17 : n7 = 2) (f18 : n8 ≤ 1) (f19 : 0 ≤ n8) (f20 : (hLe T0 H1 H2 ∧ hFr s_216.2.2.2.2 H1 H2 ∧ ((0 : Int) = 0 → H2.length = H1.length) ∧ hWt T0 H2) ∧ postb_216 n8 n3 n7 H1 H2) (f21 : n8 ≠ 0) (f22 : n9 = 4) (f23 : n1 ≠ n9) (f24 : n10 = 0) (f25 : n11 = 400) (f26 : n12 ≤ 9999) (f27 : 0 ≤ n12) (f28 : (hLe T0 H2 H3 ∧ hFr s_223.2.2.2.2 H2 H3 ∧ ((0 : Int) = 0 → H3.length = H2.length) ∧ hWt T0 H3) ∧ ((postb_223 n12 n3 n10 n11 H2 H3 ∧ nb_223 n12 n3 n10 n11 H2 H3) ∧ yb_223 n12 n3 n10 n11 H2 H3)) (f29 : n13 ≤ 2) (f30 : 0 ≤ n13) (f31 : hK H3 (n3).toNat = 12) (f32 : n13 = hV H3 (n3).toNat 13) (f33 : n13 ≠ 0) (f34 : n14 = w32 (n1 + 1)) (f35 : n15 = 5) (f36 : n16 ≤ 1) (f37 : 0 ≤ n16) (f38 : (hLe T0 H3 H4 ∧ hFr s_216.2.2.2.2 H3 H4 ∧ ((0 : Int) = 0 → H4.length = H3.length) ∧ hWt T0 H4) ∧ postb_216 n16 n3 n15 H3 H4) (f39 : n16 = 0) : Byb_230_22 n5 n4 n3 n2 n14 n16 H0 H4 := by
  unfold Byb_230_22
  intro z
  have ga := f10.2.1.1.1.2
  unfold Bb_230_22 at ga
  obtain ⟨z1, k0, k5, w1, w0⟩ := ga z
  have vz : vwR H1 = vwR H0 := vwR_fr f10.1.2.1 (by decide +kernel)
  have gy := f10.2.1.1.2
  unfold Byb_230_22 at gy
  obtain ⟨y1, y2, y3, y4, y5, y6, y7, y8⟩ := gy z
  have aa := f10.2.1.1.1.1
  unfold Ab_230_22 at aa
  obtain ⟨ea, _, _, _, _, _, _, _, _, _, _, x4⟩ := aa
  subst ea
  have d15 := rdS (q := 285) f15 f6
  have d32 := rdS (q := 285) f32 f6
  have q11 := f11
  have q16 := f16
  have q21 := f21
  have q23 := f23
  have qc22 := f22
  have q33 := f33
  have q34 := f34
  unfold w32 at q34
  have q39 := f39
  have p0 := PR_fr f20.1.2.1 (by decide +kernel) z1
  have v0 : vwR H2 = vwR H0 := p0.2.1.trans vz
  have ah0 : absR H2 = (absR H1) := p0.1
  have i0 := f20.2
  unfold postb_216 at i0
  rw [f17] at i0
  have cm0 := f21
  have b0 := (isR_or (k := 2) p0.2.2.1 (by decide) i0).resolve_right (fun w => cm0 w.1)
  replace b0 := b0.2
  rw [v0, ah0, kmc_2] at b0
  have c1 := f28.2.1.2 p0.2.2.1
  try rw [f24] at c1
  try rw [f25] at c1
  rw [v0, ah0] at c1
  have v1 : vwR H3 = vwR H0 := (vwR_fr f28.1.2.1 (by decide +kernel)).trans v0
  have p2 := PR_fr f38.1.2.1 (by decide +kernel) c1.1
  have v2 : vwR H4 = vwR H0 := p2.2.1.trans v1
  have ah2 : absR H4 = (pnm (vwR H0) 0 400 (absR H1)) := p2.1.trans c1.2
  have i2 := f38.2
  unfold postb_216 at i2
  rw [f35] at i2
  have cm2 := f39
  have b2 := (isR_or (k := 5) p2.2.2.1 (by decide) i2).resolve_left (fun w => absurd (w.1.symm.trans cm2) (by decide))
  replace b2 := b2.2
  rw [v2, ah2, kmc_5] at b2
  have cu : CRo H1 H4 n2 := (CRo_tr (CRo_8 (CR8_fr f20.1.2.1 (by decide +kernel))) (CRo_tr (CRo_8 (CR8_fr f28.1.2.1 (by decide +kernel))) (CRo_8 (CR8_fr f38.1.2.1 (by decide +kernel)))))
  refine ⟨CRo_tr y1 cu, ((fRow f38.1.2.1 298 (by decide +kernel)).trans ((fRow f28.1.2.1 298 (by decide +kernel)).trans (fRow f20.1.2.1 298 (by decide +kernel)))).trans y2, ((fRow f38.1.2.1 299 (by decide +kernel)).trans ((fRow f28.1.2.1 299 (by decide +kernel)).trans (fRow f20.1.2.1 299 (by decide +kernel)))).trans y3, ((fRow f38.1.2.1 301 (by decide +kernel)).trans ((fRow f28.1.2.1 301 (by decide +kernel)).trans (fRow f20.1.2.1 301 (by decide +kernel)))).trans y4, ((fRow f38.1.2.1 302 (by decide +kernel)).trans ((fRow f28.1.2.1 302 (by decide +kernel)).trans (fRow f20.1.2.1 302 (by decide +kernel)))).trans y5, ((fRow f38.1.2.1 303 (by decide +kernel)).trans ((fRow f28.1.2.1 303 (by decide +kernel)).trans (fRow f20.1.2.1 303 (by decide +kernel)))).trans y6, ((fRow f38.1.2.1 304 (by decide +kernel)).trans ((fRow f28.1.2.1 304 (by decide +kernel)).trans (fRow f20.1.2.1 304 (by decide +kernel)))).trans y7, fun hf => ?_⟩
  have hzH3 := fzR c1.1 p2.2.2.1 c1.2 ah2 (fun _ _ => rfl) hf
  have hzH2 := fzR p0.2.2.1 c1.1 ah0 c1.2 (fun n k => pnm_neg n k) hzH3.1
  have hzH1 := fzR z1 p0.2.2.1 rfl ah0 (fun _ _ => rfl) hzH2.1
  exact ((congrFun (fRow f38.1.2.1 300 (by decide +kernel)) _).trans ((congrFun (fRow f28.1.2.1 300 (by decide +kernel)) _).trans (congrFun (fRow f20.1.2.1 300 (by decide +kernel)) _))).trans (y8 hzH1.1)
def g_230y_22_6 : vG := ([(30, [16], [], 0), (1216, [16, 2, 15], [3, 4], 0), (90, [16], [], 0), (91, [16], [], 1), (0, [15], [], 5), (10, [14, 4], [], 1), (31, [13], [], 0), (20, [13, 2], [3], 13), (23, [2], [3], 12), (90, [13], [], 0), (91, [13], [], 2), (1223, [12, 2, 10, 11], [2, 3], 0), (90, [12], [], 0), (91, [12], [], 9999), (0, [11], [], 400), (0, [10], [], 0), (41, [4, 9], [], 0), (0, [9], [], 4), (31, [8], [], 0), (1216, [8, 2, 7], [1, 2], 0), (90, [8], [], 0), (91, [8], [], 1), (0, [7], [], 2), (30, [6], [], 0), (20, [6, 2], [1], 13), (23, [2], [1], 12), (90, [6], [], 0), (91, [6], [], 2), (31, [5], [], 0), (5000, [0, 1, 2, 3, 4, 5], [0, 1], 22), (0, [0], [], 285), (90, [1], [], 0), (91, [1], [], 1007), (0, [2], [], 285), (90, [3], [], 0), (91, [3], [], 1007), (90, [4], [], 0), (91, [4], [], 5), (90, [5], [], 0), (91, [5], [], 1)], (4000, [2, 3, 14, 16], [4], 22))
theorem c_230y_22_6 {q0 : Nat} : vOkm T0 (eN e_230w L_230y (eAB A_230 B_230) mu_230 y_230 By_230 (some q0)) 2 g_230y_22_6 := vOk_inI fun ρ η f0 f1 f2 f3 f4 f5 f6 f7 f8 f9 f10 f11 f12 f13 f14 f15 f16 f17 f18 f19 f20 f21 f22 f23 f24 f25 f26 f27 f28 f29 f30 f31 f32 f33 f34 f35 f36 f37 f38 f39 => q_230y_7 (q0 := q0) (n0 := ρ 5) (n1 := ρ 4) (n2 := ρ 3) (n3 := ρ 2) (n4 := ρ 1) (n5 := ρ 0) (n6 := ρ 6) (n7 := ρ 7) (n8 := ρ 8) (n9 := ρ 9) (n10 := ρ 10) (n11 := ρ 11) (n12 := ρ 12) (n13 := ρ 13) (n14 := ρ 14) (n15 := ρ 15) (n16 := ρ 16) (H0 := η 0) (H1 := η 1) (H2 := η 2) (H3 := η 3) (H4 := η 4) f39 f38 f37 f36 f35 f34 f33 f32 f31 f30 f29 f28 f27 f26 f25 f24 f23 f22 f21 f20 f19 f18 f17 f16 f15 f14 f13 f12 f11 f10 f9 f8 f7 f6 f5 f4 f3 f2 f1 f0
theorem q_230y_8 {q0 : Nat} {n0 n1 n2 n3 n4 n5 n6 n7 n8 n9 n10 n11 n12 n13 n14 n15 n16 : Int} {H0 H1 H2 H3 H4 H5 : gH} (f0 : n0 ≤ 1) (f1 : 0 ≤ n0) (f2 : n1 ≤ 5) (f3 : 0 ≤ n1) (f4 : n2 ≤ 1007) (f5 : 0 ≤ n2) (f6 : n3 = 285) (f7 : n4 ≤ 1007) (f8 : 0 ≤ n4) (f9 : n5 = 285) (f10 : (hLe T0 H0 H1 ∧ hFr s_230.2.2.2.2 H0 H1 ∧ hWt T0 H1) ∧ (((Ab_230_22 n5 n4 n3 n2 n1 n0 H0 H1 ∧ Bb_230_22 n5 n4 n3 n2 n1 n0 H0 H1) ∧ Byb_230_22 n5 n4 n3 n2 n1 n0 H0 H1) ∧ preb_230 n5 n4 H0) ∧ some q0 = some (mub_230_22 n5 n4 n3 n2 n1 n0 H0 H1)) (f11 : n0 ≠ 0) (f12 : n6 ≤ 2) (f13 : 0 ≤ n6) (f14 : hK H1 (n3).toNat = 12) (f15 : n6 = hV H1 (n3).toNat 13) (f16 : n6 = 0) (f17 : n7 = 2) (f18 : n8 ≤ 1) (f19 : 0 ≤ n8) (f20 : (hLe T0 H1 H2 ∧ hFr s_216.2.2.2.2 H1 H2 ∧ ((0 : Int) = 0 → H2.length = H1.length) ∧ hWt T0 H2) ∧ postb_216 n8 n3 n7 H1 H2) (f21 : n8 ≠ 0) (f22 : n9 = 4) (f23 : n1 ≠ n9) (f24 : n10 = 0) (f25 : n11 = 400) (f26 : n12 ≤ 9999) (f27 : 0 ≤ n12) (f28 : (hLe T0 H2 H3 ∧ hFr s_223.2.2.2.2 H2 H3 ∧ ((0 : Int) = 0 → H3.length = H2.length) ∧ hWt T0 H3) ∧ ((postb_223 n12 n3 n10 n11 H2 H3 ∧ nb_223 n12 n3 n10 n11 H2 H3) ∧ yb_223 n12 n3 n10 n11 H2 H3)) (f29 : n13 ≤ 2) (f30 : 0 ≤ n13) (f31 : hK H3 (n3).toNat = 12) (f32 : n13 = hV H3 (n3).toNat 13) (f33 : n13 ≠ 0) (f34 : n14 = w32 (n1 + 1)) (f35 : n15 = 5) (f36 : n16 ≤ 1) (f37 : 0 ≤ n16) (f38 : (hLe T0 H3 H4 ∧ hFr s_216.2.2.2.2 H3 H4 ∧ ((0 : Int) = 0 → H4.length = H3.length) ∧ hWt T0 H4) ∧ postb_216 n16 n3 n15 H3 H4) (f39 : n16 ≠ 0) (f40 : (hLe T0 H4 H5 ∧ hFr s_219.2.2.2.2 H4 H5 ∧ ((0 : Int) = 0 → H5.length = H4.length) ∧ hWt T0 H5) ∧ (postb_219 n3 H4 H5 ∧ nb_219 n3 H4 H5)) : Byb_230_22 n5 n4 n3 n2 n14 n16 H0 H5 := by
  unfold Byb_230_22
  intro z
  have ga := f10.2.1.1.1.2
  unfold Bb_230_22 at ga
  obtain ⟨z1, k0, k5, w1, w0⟩ := ga z
  have vz : vwR H1 = vwR H0 := vwR_fr f10.1.2.1 (by decide +kernel)
  have gy := f10.2.1.1.2
  unfold Byb_230_22 at gy
  obtain ⟨y1, y2, y3, y4, y5, y6, y7, y8⟩ := gy z
  have aa := f10.2.1.1.1.1
  unfold Ab_230_22 at aa
  obtain ⟨ea, _, _, _, _, _, _, _, _, _, _, x4⟩ := aa
  subst ea
  have d15 := rdS (q := 285) f15 f6
  have d32 := rdS (q := 285) f32 f6
  have q11 := f11
  have q16 := f16
  have q21 := f21
  have q23 := f23
  have qc22 := f22
  have q33 := f33
  have q34 := f34
  unfold w32 at q34
  have q39 := f39
  have p0 := PR_fr f20.1.2.1 (by decide +kernel) z1
  have v0 : vwR H2 = vwR H0 := p0.2.1.trans vz
  have ah0 : absR H2 = (absR H1) := p0.1
  have i0 := f20.2
  unfold postb_216 at i0
  rw [f17] at i0
  have cm0 := f21
  have b0 := (isR_or (k := 2) p0.2.2.1 (by decide) i0).resolve_right (fun w => cm0 w.1)
  replace b0 := b0.2
  rw [v0, ah0, kmc_2] at b0
  have c1 := f28.2.1.2 p0.2.2.1
  try rw [f24] at c1
  try rw [f25] at c1
  rw [v0, ah0] at c1
  have v1 : vwR H3 = vwR H0 := (vwR_fr f28.1.2.1 (by decide +kernel)).trans v0
  have p2 := PR_fr f38.1.2.1 (by decide +kernel) c1.1
  have v2 : vwR H4 = vwR H0 := p2.2.1.trans v1
  have ah2 : absR H4 = (pnm (vwR H0) 0 400 (absR H1)) := p2.1.trans c1.2
  have i2 := f38.2
  unfold postb_216 at i2
  rw [f35] at i2
  have cm2 := f39
  have b2 := (isR_or (k := 5) p2.2.2.1 (by decide) i2).resolve_right (fun w => cm2 w.1)
  replace b2 := b2.2
  rw [v2, ah2, kmc_5] at b2
  have c3 := f40.2.2 p2.2.2.1 (by rw [v2, ah2]; rw [b2]; decide)
  rw [v2, ah2, b2] at c3
  have v3 : vwR H5 = vwR H0 := (vwR_fr f40.1.2.1 (by decide +kernel)).trans v2
  have cu : CRo H1 H5 n2 := (CRo_tr (CRo_8 (CR8_fr f20.1.2.1 (by decide +kernel))) (CRo_tr (CRo_8 (CR8_fr f28.1.2.1 (by decide +kernel))) (CRo_tr (CRo_8 (CR8_fr f38.1.2.1 (by decide +kernel))) (CRo_8 (CR8_fr f40.1.2.1 (by decide +kernel))))))
  refine ⟨CRo_tr y1 cu, ((fRow f40.1.2.1 298 (by decide +kernel)).trans ((fRow f38.1.2.1 298 (by decide +kernel)).trans ((fRow f28.1.2.1 298 (by decide +kernel)).trans (fRow f20.1.2.1 298 (by decide +kernel))))).trans y2, ((fRow f40.1.2.1 299 (by decide +kernel)).trans ((fRow f38.1.2.1 299 (by decide +kernel)).trans ((fRow f28.1.2.1 299 (by decide +kernel)).trans (fRow f20.1.2.1 299 (by decide +kernel))))).trans y3, ((fRow f40.1.2.1 301 (by decide +kernel)).trans ((fRow f38.1.2.1 301 (by decide +kernel)).trans ((fRow f28.1.2.1 301 (by decide +kernel)).trans (fRow f20.1.2.1 301 (by decide +kernel))))).trans y4, ((fRow f40.1.2.1 302 (by decide +kernel)).trans ((fRow f38.1.2.1 302 (by decide +kernel)).trans ((fRow f28.1.2.1 302 (by decide +kernel)).trans (fRow f20.1.2.1 302 (by decide +kernel))))).trans y5, ((fRow f40.1.2.1 303 (by decide +kernel)).trans ((fRow f38.1.2.1 303 (by decide +kernel)).trans ((fRow f28.1.2.1 303 (by decide +kernel)).trans (fRow f20.1.2.1 303 (by decide +kernel))))).trans y6, ((fRow f40.1.2.1 304 (by decide +kernel)).trans ((fRow f38.1.2.1 304 (by decide +kernel)).trans ((fRow f28.1.2.1 304 (by decide +kernel)).trans (fRow f20.1.2.1 304 (by decide +kernel))))).trans y7, fun hf => ?_⟩
  have hzH4 := fzR p2.2.2.1 c3.1 ah2 c3.2 (fun n k => ptk_neg n k) hf
  have hzH3 := fzR c1.1 p2.2.2.1 c1.2 ah2 (fun _ _ => rfl) hzH4.1
  have hzH2 := fzR p0.2.2.1 c1.1 ah0 c1.2 (fun n k => pnm_neg n k) hzH3.1
  have hzH1 := fzR z1 p0.2.2.1 rfl ah0 (fun _ _ => rfl) hzH2.1
  exact ((congrFun (fRow f40.1.2.1 300 (by decide +kernel)) _).trans ((congrFun (fRow f38.1.2.1 300 (by decide +kernel)) _).trans ((congrFun (fRow f28.1.2.1 300 (by decide +kernel)) _).trans (congrFun (fRow f20.1.2.1 300 (by decide +kernel)) _)))).trans (y8 hzH1.1)
def g_230y_22_7 : vG := ([(1219, [2], [4, 5], 0), (31, [16], [], 0), (1216, [16, 2, 15], [3, 4], 0), (90, [16], [], 0), (91, [16], [], 1), (0, [15], [], 5), (10, [14, 4], [], 1), (31, [13], [], 0), (20, [13, 2], [3], 13), (23, [2], [3], 12), (90, [13], [], 0), (91, [13], [], 2), (1223, [12, 2, 10, 11], [2, 3], 0), (90, [12], [], 0), (91, [12], [], 9999), (0, [11], [], 400), (0, [10], [], 0), (41, [4, 9], [], 0), (0, [9], [], 4), (31, [8], [], 0), (1216, [8, 2, 7], [1, 2], 0), (90, [8], [], 0), (91, [8], [], 1), (0, [7], [], 2), (30, [6], [], 0), (20, [6, 2], [1], 13), (23, [2], [1], 12), (90, [6], [], 0), (91, [6], [], 2), (31, [5], [], 0), (5000, [0, 1, 2, 3, 4, 5], [0, 1], 22), (0, [0], [], 285), (90, [1], [], 0), (91, [1], [], 1007), (0, [2], [], 285), (90, [3], [], 0), (91, [3], [], 1007), (90, [4], [], 0), (91, [4], [], 5), (90, [5], [], 0), (91, [5], [], 1)], (4000, [2, 3, 14, 16], [5], 22))
theorem c_230y_22_7 {q0 : Nat} : vOkm T0 (eN e_230w L_230y (eAB A_230 B_230) mu_230 y_230 By_230 (some q0)) 2 g_230y_22_7 := vOk_inI fun ρ η f0 f1 f2 f3 f4 f5 f6 f7 f8 f9 f10 f11 f12 f13 f14 f15 f16 f17 f18 f19 f20 f21 f22 f23 f24 f25 f26 f27 f28 f29 f30 f31 f32 f33 f34 f35 f36 f37 f38 f39 f40 => q_230y_8 (q0 := q0) (n0 := ρ 5) (n1 := ρ 4) (n2 := ρ 3) (n3 := ρ 2) (n4 := ρ 1) (n5 := ρ 0) (n6 := ρ 6) (n7 := ρ 7) (n8 := ρ 8) (n9 := ρ 9) (n10 := ρ 10) (n11 := ρ 11) (n12 := ρ 12) (n13 := ρ 13) (n14 := ρ 14) (n15 := ρ 15) (n16 := ρ 16) (H0 := η 0) (H1 := η 1) (H2 := η 2) (H3 := η 3) (H4 := η 4) (H5 := η 5) f40 f39 f38 f37 f36 f35 f34 f33 f32 f31 f30 f29 f28 f27 f26 f25 f24 f23 f22 f21 f20 f19 f18 f17 f16 f15 f14 f13 f12 f11 f10 f9 f8 f7 f6 f5 f4 f3 f2 f1 f0
theorem q_230y_9 {q0 : Nat} {n0 n1 n2 n3 n4 n5 n6 n7 n8 n9 n10 n11 n12 n13 n14 n15 n16 n17 n18 n19 n20 n21 n22 : Int} {H0 H1 H2 H3 H4 H5 : gH} (f0 : n0 ≤ 1) (f1 : 0 ≤ n0) (f2 : n1 ≤ 5) (f3 : 0 ≤ n1) (f4 : n2 ≤ 1007) (f5 : 0 ≤ n2) (f6 : n3 = 285) (f7 : n4 ≤ 1007) (f8 : 0 ≤ n4) (f9 : n5 = 285) (f10 : (hLe T0 H0 H1 ∧ hFr s_230.2.2.2.2 H0 H1 ∧ hWt T0 H1) ∧ (((Ab_230_22 n5 n4 n3 n2 n1 n0 H0 H1 ∧ Bb_230_22 n5 n4 n3 n2 n1 n0 H0 H1) ∧ Byb_230_22 n5 n4 n3 n2 n1 n0 H0 H1) ∧ preb_230 n5 n4 H0) ∧ some q0 = some (mub_230_22 n5 n4 n3 n2 n1 n0 H0 H1)) (f11 : n0 ≠ 0) (f12 : n6 ≤ 2) (f13 : 0 ≤ n6) (f14 : hK H1 (n3).toNat = 12) (f15 : n6 = hV H1 (n3).toNat 13) (f16 : n6 = 0) (f17 : n7 = 2) (f18 : n8 ≤ 1) (f19 : 0 ≤ n8) (f20 : (hLe T0 H1 H2 ∧ hFr s_216.2.2.2.2 H1 H2 ∧ ((0 : Int) = 0 → H2.length = H1.length) ∧ hWt T0 H2) ∧ postb_216 n8 n3 n7 H1 H2) (f21 : n8 ≠ 0) (f22 : n9 = 4) (f23 : n1 ≠ n9) (f24 : n10 = 0) (f25 : n11 = 400) (f26 : n12 ≤ 9999) (f27 : 0 ≤ n12) (f28 : (hLe T0 H2 H3 ∧ hFr s_223.2.2.2.2 H2 H3 ∧ ((0 : Int) = 0 → H3.length = H2.length) ∧ hWt T0 H3) ∧ ((postb_223 n12 n3 n10 n11 H2 H3 ∧ nb_223 n12 n3 n10 n11 H2 H3) ∧ yb_223 n12 n3 n10 n11 H2 H3)) (f29 : n13 ≤ 2) (f30 : 0 ≤ n13) (f31 : hK H3 (n3).toNat = 12) (f32 : n13 = hV H3 (n3).toNat 13) (f33 : n13 = 0) (f34 : n14 = 305) (f35 : hK H3 (n3).toNat = 12) (f36 : n14 = hV H3 (n3).toNat 31) (f37 : n15 = 6) (f38 : n16 = w32 (n15 * n2)) (f39 : n17 = 1) (f40 : n18 = w32 (n16 + n17)) (f41 : n19 = w32 (n18 + n1)) (f42 : hK H3 (n14).toNat = 268) (f43 : hUpd H4 H3 n14 n19 n12) (f44 : n20 = w32 (n1 + 1)) (f45 : n21 = 5) (f46 : n22 ≤ 1) (f47 : 0 ≤ n22) (f48 : (hLe T0 H4 H5 ∧ hFr s_216.2.2.2.2 H4 H5 ∧ ((0 : Int) = 0 → H5.length = H4.length) ∧ hWt T0 H5) ∧ postb_216 n22 n3 n21 H4 H5) (f49 : n22 = 0) : Byb_230_22 n5 n4 n3 n2 n20 n22 H0 H5 := by
  unfold Byb_230_22
  intro z
  have ga := f10.2.1.1.1.2
  unfold Bb_230_22 at ga
  obtain ⟨z1, k0, k5, w1, w0⟩ := ga z
  have vz : vwR H1 = vwR H0 := vwR_fr f10.1.2.1 (by decide +kernel)
  have gy := f10.2.1.1.2
  unfold Byb_230_22 at gy
  obtain ⟨y1, y2, y3, y4, y5, y6, y7, y8⟩ := gy z
  have aa := f10.2.1.1.1.1
  unfold Ab_230_22 at aa
  obtain ⟨ea, _, _, _, _, _, _, _, _, _, _, x4⟩ := aa
  subst ea
  have d15 := rdS (q := 285) f15 f6
  have d32 := rdS (q := 285) f32 f6
  have q11 := f11
  have q16 := f16
  have q21 := f21
  have q23 := f23
  have qc22 := f22
  have q33 := f33
  have q44 := f44
  unfold w32 at q44
  have q49 := f49
  have p0 := PR_fr f20.1.2.1 (by decide +kernel) z1
  have v0 : vwR H2 = vwR H0 := p0.2.1.trans vz
  have ah0 : absR H2 = (absR H1) := p0.1
  have i0 := f20.2
  unfold postb_216 at i0
  rw [f17] at i0
  have cm0 := f21
  have b0 := (isR_or (k := 2) p0.2.2.1 (by decide) i0).resolve_right (fun w => cm0 w.1)
  replace b0 := b0.2
  rw [v0, ah0, kmc_2] at b0
  have c1 := f28.2.1.2 p0.2.2.1
  try rw [f24] at c1
  try rw [f25] at c1
  rw [v0, ah0] at c1
  have v1 : vwR H3 = vwR H0 := (vwR_fr f28.1.2.1 (by decide +kernel)).trans v0
  have p2 := PR_row (q := 305) f43 f34 (by decide) c1.1
  have v2 : vwR H4 = vwR H0 := p2.2.1.trans v1
  have ah2 : absR H4 = (pnm (vwR H0) 0 400 (absR H1)) := p2.1.trans c1.2
  have p3 := PR_fr f48.1.2.1 (by decide +kernel) p2.2.2.1
  have v3 : vwR H5 = vwR H0 := p3.2.1.trans v2
  have ah3 : absR H5 = (pnm (vwR H0) 0 400 (absR H1)) := p3.1.trans ah2
  have i3 := f48.2
  unfold postb_216 at i3
  rw [f45] at i3
  have cm3 := f49
  have b3 := (isR_or (k := 5) p3.2.2.1 (by decide) i3).resolve_left (fun w => absurd (w.1.symm.trans cm3) (by decide))
  replace b3 := b3.2
  rw [v3, ah3, kmc_5] at b3
  have ix16 : n16 = 6 * n2 := by
    have w := f38
    rw [f37] at w
    unfold w32 at w
    omega
  have ix18 : n18 = 6 * n2 + 1 := by
    have w := f40
    rw [f39] at w
    unfold w32 at w
    omega
  have cu : CRo H1 H5 n2 := (CRo_tr (CRo_8 (CR8_fr f20.1.2.1 (by decide +kernel))) (CRo_tr (CRo_8 (CR8_fr f28.1.2.1 (by decide +kernel))) (CRo_tr (CRo_up5 f43 f34 (k := 1 + n1) (by have w := f41; unfold w32 at w; omega) (by omega) (by omega)) (CRo_8 (CR8_fr f48.1.2.1 (by decide +kernel))))))
  refine ⟨CRo_tr y1 cu, ((fRow f48.1.2.1 298 (by decide +kernel)).trans ((uRowNe f43 298 (by rw [f34]; decide)).trans ((fRow f28.1.2.1 298 (by decide +kernel)).trans (fRow f20.1.2.1 298 (by decide +kernel))))).trans y2, ((fRow f48.1.2.1 299 (by decide +kernel)).trans ((uRowNe f43 299 (by rw [f34]; decide)).trans ((fRow f28.1.2.1 299 (by decide +kernel)).trans (fRow f20.1.2.1 299 (by decide +kernel))))).trans y3, ((fRow f48.1.2.1 301 (by decide +kernel)).trans ((uRowNe f43 301 (by rw [f34]; decide)).trans ((fRow f28.1.2.1 301 (by decide +kernel)).trans (fRow f20.1.2.1 301 (by decide +kernel))))).trans y4, ((fRow f48.1.2.1 302 (by decide +kernel)).trans ((uRowNe f43 302 (by rw [f34]; decide)).trans ((fRow f28.1.2.1 302 (by decide +kernel)).trans (fRow f20.1.2.1 302 (by decide +kernel))))).trans y5, ((fRow f48.1.2.1 303 (by decide +kernel)).trans ((uRowNe f43 303 (by rw [f34]; decide)).trans ((fRow f28.1.2.1 303 (by decide +kernel)).trans (fRow f20.1.2.1 303 (by decide +kernel))))).trans y6, ((fRow f48.1.2.1 304 (by decide +kernel)).trans ((uRowNe f43 304 (by rw [f34]; decide)).trans ((fRow f28.1.2.1 304 (by decide +kernel)).trans (fRow f20.1.2.1 304 (by decide +kernel))))).trans y7, fun hf => ?_⟩
  have hzH4 := fzR p2.2.2.1 p3.2.2.1 ah2 ah3 (fun _ _ => rfl) hf
  have hzH3 := fzR c1.1 p2.2.2.1 c1.2 ah2 (fun _ _ => rfl) hzH4.1
  have hzH2 := fzR p0.2.2.1 c1.1 ah0 c1.2 (fun n k => pnm_neg n k) hzH3.1
  have hzH1 := fzR z1 p0.2.2.1 rfl ah0 (fun _ _ => rfl) hzH2.1
  exact ((congrFun (fRow f48.1.2.1 300 (by decide +kernel)) _).trans ((congrFun (uRowNe f43 300 (by rw [f34]; decide)) _).trans ((congrFun (fRow f28.1.2.1 300 (by decide +kernel)) _).trans (congrFun (fRow f20.1.2.1 300 (by decide +kernel)) _)))).trans (y8 hzH1.1)
def g_230y_22_8 : vG := ([(30, [22], [], 0), (1216, [22, 2, 21], [4, 5], 0), (90, [22], [], 0), (91, [22], [], 1), (0, [21], [], 5), (10, [20, 4], [], 1), (80, [14, 19, 12], [4, 3], 0), (23, [14], [3], 268), (1, [19, 18, 4], [], 0), (1, [18, 16, 17], [], 0), (0, [17], [], 1), (3, [16, 15, 3], [], 0), (0, [15], [], 6), (20, [14, 2], [3], 31), (23, [2], [3], 12), (0, [14], [], 305), (30, [13], [], 0), (20, [13, 2], [3], 13), (23, [2], [3], 12), (90, [13], [], 0), (91, [13], [], 2), (1223, [12, 2, 10, 11], [2, 3], 0), (90, [12], [], 0), (91, [12], [], 9999), (0, [11], [], 400), (0, [10], [], 0), (41, [4, 9], [], 0), (0, [9], [], 4), (31, [8], [], 0), (1216, [8, 2, 7], [1, 2], 0), (90, [8], [], 0), (91, [8], [], 1), (0, [7], [], 2), (30, [6], [], 0), (20, [6, 2], [1], 13), (23, [2], [1], 12), (90, [6], [], 0), (91, [6], [], 2), (31, [5], [], 0), (5000, [0, 1, 2, 3, 4, 5], [0, 1], 22), (0, [0], [], 285), (90, [1], [], 0), (91, [1], [], 1007), (0, [2], [], 285), (90, [3], [], 0), (91, [3], [], 1007), (90, [4], [], 0), (91, [4], [], 5), (90, [5], [], 0), (91, [5], [], 1)], (4000, [2, 3, 20, 22], [5], 22))
theorem c_230y_22_8 {q0 : Nat} : vOkm T0 (eN e_230w L_230y (eAB A_230 B_230) mu_230 y_230 By_230 (some q0)) 2 g_230y_22_8 := vOk_inI fun ρ η f0 f1 f2 f3 f4 f5 f6 f7 f8 f9 f10 f11 f12 f13 f14 f15 f16 f17 f18 f19 f20 f21 f22 f23 f24 f25 f26 f27 f28 f29 f30 f31 f32 f33 f34 f35 f36 f37 f38 f39 f40 f41 f42 f43 f44 f45 f46 f47 f48 f49 => q_230y_9 (q0 := q0) (n0 := ρ 5) (n1 := ρ 4) (n2 := ρ 3) (n3 := ρ 2) (n4 := ρ 1) (n5 := ρ 0) (n6 := ρ 6) (n7 := ρ 7) (n8 := ρ 8) (n9 := ρ 9) (n10 := ρ 10) (n11 := ρ 11) (n12 := ρ 12) (n13 := ρ 13) (n14 := ρ 14) (n15 := ρ 15) (n16 := ρ 16) (n17 := ρ 17) (n18 := ρ 18) (n19 := ρ 19) (n20 := ρ 20) (n21 := ρ 21) (n22 := ρ 22) (H0 := η 0) (H1 := η 1) (H2 := η 2) (H3 := η 3) (H4 := η 4) (H5 := η 5) f49 f48 f47 f46 f45 f44 f43 f42 f41 f40 f39 f38 f37 f36 f35 f34 f33 f32 f31 f30 f29 f28 f27 f26 f25 f24 f23 f22 f21 f20 f19 f18 f17 f16 f15 f14 f13 f12 f11 f10 f9 f8 f7 f6 f5 f4 f3 f2 f1 f0
theorem q_230y_10 {q0 : Nat} {n0 n1 n2 n3 n4 n5 n6 n7 n8 n9 n10 n11 n12 n13 n14 n15 n16 n17 n18 n19 n20 n21 n22 : Int} {H0 H1 H2 H3 H4 H5 H6 : gH} (f0 : n0 ≤ 1) (f1 : 0 ≤ n0) (f2 : n1 ≤ 5) (f3 : 0 ≤ n1) (f4 : n2 ≤ 1007) (f5 : 0 ≤ n2) (f6 : n3 = 285) (f7 : n4 ≤ 1007) (f8 : 0 ≤ n4) (f9 : n5 = 285) (f10 : (hLe T0 H0 H1 ∧ hFr s_230.2.2.2.2 H0 H1 ∧ hWt T0 H1) ∧ (((Ab_230_22 n5 n4 n3 n2 n1 n0 H0 H1 ∧ Bb_230_22 n5 n4 n3 n2 n1 n0 H0 H1) ∧ Byb_230_22 n5 n4 n3 n2 n1 n0 H0 H1) ∧ preb_230 n5 n4 H0) ∧ some q0 = some (mub_230_22 n5 n4 n3 n2 n1 n0 H0 H1)) (f11 : n0 ≠ 0) (f12 : n6 ≤ 2) (f13 : 0 ≤ n6) (f14 : hK H1 (n3).toNat = 12) (f15 : n6 = hV H1 (n3).toNat 13) (f16 : n6 = 0) (f17 : n7 = 2) (f18 : n8 ≤ 1) (f19 : 0 ≤ n8) (f20 : (hLe T0 H1 H2 ∧ hFr s_216.2.2.2.2 H1 H2 ∧ ((0 : Int) = 0 → H2.length = H1.length) ∧ hWt T0 H2) ∧ postb_216 n8 n3 n7 H1 H2) (f21 : n8 ≠ 0) (f22 : n9 = 4) (f23 : n1 ≠ n9) (f24 : n10 = 0) (f25 : n11 = 400) (f26 : n12 ≤ 9999) (f27 : 0 ≤ n12) (f28 : (hLe T0 H2 H3 ∧ hFr s_223.2.2.2.2 H2 H3 ∧ ((0 : Int) = 0 → H3.length = H2.length) ∧ hWt T0 H3) ∧ ((postb_223 n12 n3 n10 n11 H2 H3 ∧ nb_223 n12 n3 n10 n11 H2 H3) ∧ yb_223 n12 n3 n10 n11 H2 H3)) (f29 : n13 ≤ 2) (f30 : 0 ≤ n13) (f31 : hK H3 (n3).toNat = 12) (f32 : n13 = hV H3 (n3).toNat 13) (f33 : n13 = 0) (f34 : n14 = 305) (f35 : hK H3 (n3).toNat = 12) (f36 : n14 = hV H3 (n3).toNat 31) (f37 : n15 = 6) (f38 : n16 = w32 (n15 * n2)) (f39 : n17 = 1) (f40 : n18 = w32 (n16 + n17)) (f41 : n19 = w32 (n18 + n1)) (f42 : hK H3 (n14).toNat = 268) (f43 : hUpd H4 H3 n14 n19 n12) (f44 : n20 = w32 (n1 + 1)) (f45 : n21 = 5) (f46 : n22 ≤ 1) (f47 : 0 ≤ n22) (f48 : (hLe T0 H4 H5 ∧ hFr s_216.2.2.2.2 H4 H5 ∧ ((0 : Int) = 0 → H5.length = H4.length) ∧ hWt T0 H5) ∧ postb_216 n22 n3 n21 H4 H5) (f49 : n22 ≠ 0) (f50 : (hLe T0 H5 H6 ∧ hFr s_219.2.2.2.2 H5 H6 ∧ ((0 : Int) = 0 → H6.length = H5.length) ∧ hWt T0 H6) ∧ (postb_219 n3 H5 H6 ∧ nb_219 n3 H5 H6)) : Byb_230_22 n5 n4 n3 n2 n20 n22 H0 H6 := by
  unfold Byb_230_22
  intro z
  have ga := f10.2.1.1.1.2
  unfold Bb_230_22 at ga
  obtain ⟨z1, k0, k5, w1, w0⟩ := ga z
  have vz : vwR H1 = vwR H0 := vwR_fr f10.1.2.1 (by decide +kernel)
  have gy := f10.2.1.1.2
  unfold Byb_230_22 at gy
  obtain ⟨y1, y2, y3, y4, y5, y6, y7, y8⟩ := gy z
  have aa := f10.2.1.1.1.1
  unfold Ab_230_22 at aa
  obtain ⟨ea, _, _, _, _, _, _, _, _, _, _, x4⟩ := aa
  subst ea
  have d15 := rdS (q := 285) f15 f6
  have d32 := rdS (q := 285) f32 f6
  have q11 := f11
  have q16 := f16
  have q21 := f21
  have q23 := f23
  have qc22 := f22
  have q33 := f33
  have q44 := f44
  unfold w32 at q44
  have q49 := f49
  have p0 := PR_fr f20.1.2.1 (by decide +kernel) z1
  have v0 : vwR H2 = vwR H0 := p0.2.1.trans vz
  have ah0 : absR H2 = (absR H1) := p0.1
  have i0 := f20.2
  unfold postb_216 at i0
  rw [f17] at i0
  have cm0 := f21
  have b0 := (isR_or (k := 2) p0.2.2.1 (by decide) i0).resolve_right (fun w => cm0 w.1)
  replace b0 := b0.2
  rw [v0, ah0, kmc_2] at b0
  have c1 := f28.2.1.2 p0.2.2.1
  try rw [f24] at c1
  try rw [f25] at c1
  rw [v0, ah0] at c1
  have v1 : vwR H3 = vwR H0 := (vwR_fr f28.1.2.1 (by decide +kernel)).trans v0
  have p2 := PR_row (q := 305) f43 f34 (by decide) c1.1
  have v2 : vwR H4 = vwR H0 := p2.2.1.trans v1
  have ah2 : absR H4 = (pnm (vwR H0) 0 400 (absR H1)) := p2.1.trans c1.2
  have p3 := PR_fr f48.1.2.1 (by decide +kernel) p2.2.2.1
  have v3 : vwR H5 = vwR H0 := p3.2.1.trans v2
  have ah3 : absR H5 = (pnm (vwR H0) 0 400 (absR H1)) := p3.1.trans ah2
  have i3 := f48.2
  unfold postb_216 at i3
  rw [f45] at i3
  have cm3 := f49
  have b3 := (isR_or (k := 5) p3.2.2.1 (by decide) i3).resolve_right (fun w => cm3 w.1)
  replace b3 := b3.2
  rw [v3, ah3, kmc_5] at b3
  have c4 := f50.2.2 p3.2.2.1 (by rw [v3, ah3]; rw [b3]; decide)
  rw [v3, ah3, b3] at c4
  have v4 : vwR H6 = vwR H0 := (vwR_fr f50.1.2.1 (by decide +kernel)).trans v3
  have ix16 : n16 = 6 * n2 := by
    have w := f38
    rw [f37] at w
    unfold w32 at w
    omega
  have ix18 : n18 = 6 * n2 + 1 := by
    have w := f40
    rw [f39] at w
    unfold w32 at w
    omega
  have cu : CRo H1 H6 n2 := (CRo_tr (CRo_8 (CR8_fr f20.1.2.1 (by decide +kernel))) (CRo_tr (CRo_8 (CR8_fr f28.1.2.1 (by decide +kernel))) (CRo_tr (CRo_up5 f43 f34 (k := 1 + n1) (by have w := f41; unfold w32 at w; omega) (by omega) (by omega)) (CRo_tr (CRo_8 (CR8_fr f48.1.2.1 (by decide +kernel))) (CRo_8 (CR8_fr f50.1.2.1 (by decide +kernel)))))))
  refine ⟨CRo_tr y1 cu, ((fRow f50.1.2.1 298 (by decide +kernel)).trans ((fRow f48.1.2.1 298 (by decide +kernel)).trans ((uRowNe f43 298 (by rw [f34]; decide)).trans ((fRow f28.1.2.1 298 (by decide +kernel)).trans (fRow f20.1.2.1 298 (by decide +kernel)))))).trans y2, ((fRow f50.1.2.1 299 (by decide +kernel)).trans ((fRow f48.1.2.1 299 (by decide +kernel)).trans ((uRowNe f43 299 (by rw [f34]; decide)).trans ((fRow f28.1.2.1 299 (by decide +kernel)).trans (fRow f20.1.2.1 299 (by decide +kernel)))))).trans y3, ((fRow f50.1.2.1 301 (by decide +kernel)).trans ((fRow f48.1.2.1 301 (by decide +kernel)).trans ((uRowNe f43 301 (by rw [f34]; decide)).trans ((fRow f28.1.2.1 301 (by decide +kernel)).trans (fRow f20.1.2.1 301 (by decide +kernel)))))).trans y4, ((fRow f50.1.2.1 302 (by decide +kernel)).trans ((fRow f48.1.2.1 302 (by decide +kernel)).trans ((uRowNe f43 302 (by rw [f34]; decide)).trans ((fRow f28.1.2.1 302 (by decide +kernel)).trans (fRow f20.1.2.1 302 (by decide +kernel)))))).trans y5, ((fRow f50.1.2.1 303 (by decide +kernel)).trans ((fRow f48.1.2.1 303 (by decide +kernel)).trans ((uRowNe f43 303 (by rw [f34]; decide)).trans ((fRow f28.1.2.1 303 (by decide +kernel)).trans (fRow f20.1.2.1 303 (by decide +kernel)))))).trans y6, ((fRow f50.1.2.1 304 (by decide +kernel)).trans ((fRow f48.1.2.1 304 (by decide +kernel)).trans ((uRowNe f43 304 (by rw [f34]; decide)).trans ((fRow f28.1.2.1 304 (by decide +kernel)).trans (fRow f20.1.2.1 304 (by decide +kernel)))))).trans y7, fun hf => ?_⟩
  have hzH5 := fzR p3.2.2.1 c4.1 ah3 c4.2 (fun n k => ptk_neg n k) hf
  have hzH4 := fzR p2.2.2.1 p3.2.2.1 ah2 ah3 (fun _ _ => rfl) hzH5.1
  have hzH3 := fzR c1.1 p2.2.2.1 c1.2 ah2 (fun _ _ => rfl) hzH4.1
  have hzH2 := fzR p0.2.2.1 c1.1 ah0 c1.2 (fun n k => pnm_neg n k) hzH3.1
  have hzH1 := fzR z1 p0.2.2.1 rfl ah0 (fun _ _ => rfl) hzH2.1
  exact ((congrFun (fRow f50.1.2.1 300 (by decide +kernel)) _).trans ((congrFun (fRow f48.1.2.1 300 (by decide +kernel)) _).trans ((congrFun (uRowNe f43 300 (by rw [f34]; decide)) _).trans ((congrFun (fRow f28.1.2.1 300 (by decide +kernel)) _).trans (congrFun (fRow f20.1.2.1 300 (by decide +kernel)) _))))).trans (y8 hzH1.1)
def g_230y_22_9 : vG := ([(1219, [2], [5, 6], 0), (31, [22], [], 0), (1216, [22, 2, 21], [4, 5], 0), (90, [22], [], 0), (91, [22], [], 1), (0, [21], [], 5), (10, [20, 4], [], 1), (80, [14, 19, 12], [4, 3], 0), (23, [14], [3], 268), (1, [19, 18, 4], [], 0), (1, [18, 16, 17], [], 0), (0, [17], [], 1), (3, [16, 15, 3], [], 0), (0, [15], [], 6), (20, [14, 2], [3], 31), (23, [2], [3], 12), (0, [14], [], 305), (30, [13], [], 0), (20, [13, 2], [3], 13), (23, [2], [3], 12), (90, [13], [], 0), (91, [13], [], 2), (1223, [12, 2, 10, 11], [2, 3], 0), (90, [12], [], 0), (91, [12], [], 9999), (0, [11], [], 400), (0, [10], [], 0), (41, [4, 9], [], 0), (0, [9], [], 4), (31, [8], [], 0), (1216, [8, 2, 7], [1, 2], 0), (90, [8], [], 0), (91, [8], [], 1), (0, [7], [], 2), (30, [6], [], 0), (20, [6, 2], [1], 13), (23, [2], [1], 12), (90, [6], [], 0), (91, [6], [], 2), (31, [5], [], 0), (5000, [0, 1, 2, 3, 4, 5], [0, 1], 22), (0, [0], [], 285), (90, [1], [], 0), (91, [1], [], 1007), (0, [2], [], 285), (90, [3], [], 0), (91, [3], [], 1007), (90, [4], [], 0), (91, [4], [], 5), (90, [5], [], 0), (91, [5], [], 1)], (4000, [2, 3, 20, 22], [6], 22))
theorem c_230y_22_9 {q0 : Nat} : vOkm T0 (eN e_230w L_230y (eAB A_230 B_230) mu_230 y_230 By_230 (some q0)) 2 g_230y_22_9 := vOk_inI fun ρ η f0 f1 f2 f3 f4 f5 f6 f7 f8 f9 f10 f11 f12 f13 f14 f15 f16 f17 f18 f19 f20 f21 f22 f23 f24 f25 f26 f27 f28 f29 f30 f31 f32 f33 f34 f35 f36 f37 f38 f39 f40 f41 f42 f43 f44 f45 f46 f47 f48 f49 f50 => q_230y_10 (q0 := q0) (n0 := ρ 5) (n1 := ρ 4) (n2 := ρ 3) (n3 := ρ 2) (n4 := ρ 1) (n5 := ρ 0) (n6 := ρ 6) (n7 := ρ 7) (n8 := ρ 8) (n9 := ρ 9) (n10 := ρ 10) (n11 := ρ 11) (n12 := ρ 12) (n13 := ρ 13) (n14 := ρ 14) (n15 := ρ 15) (n16 := ρ 16) (n17 := ρ 17) (n18 := ρ 18) (n19 := ρ 19) (n20 := ρ 20) (n21 := ρ 21) (n22 := ρ 22) (H0 := η 0) (H1 := η 1) (H2 := η 2) (H3 := η 3) (H4 := η 4) (H5 := η 5) (H6 := η 6) f50 f49 f48 f47 f46 f45 f44 f43 f42 f41 f40 f39 f38 f37 f36 f35 f34 f33 f32 f31 f30 f29 f28 f27 f26 f25 f24 f23 f22 f21 f20 f19 f18 f17 f16 f15 f14 f13 f12 f11 f10 f9 f8 f7 f6 f5 f4 f3 f2 f1 f0
theorem q_230y_11 {q0 : Nat} {n0 n1 n2 n3 n4 n5 n6 n7 n8 n9 n10 n11 n12 n13 n14 n15 n16 n17 : Int} {H0 H1 H2 H3 H4 H5 : gH} (f0 : n0 ≤ 1) (f1 : 0 ≤ n0) (f2 : n1 ≤ 5) (f3 : 0 ≤ n1) (f4 : n2 ≤ 1007) (f5 : 0 ≤ n2) (f6 : n3 = 285) (f7 : n4 ≤ 1007) (f8 : 0 ≤ n4) (f9 : n5 = 285) (f10 : (hLe T0 H0 H1 ∧ hFr s_230.2.2.2.2 H0 H1 ∧ hWt T0 H1) ∧ (((Ab_230_22 n5 n4 n3 n2 n1 n0 H0 H1 ∧ Bb_230_22 n5 n4 n3 n2 n1 n0 H0 H1) ∧ Byb_230_22 n5 n4 n3 n2 n1 n0 H0 H1) ∧ preb_230 n5 n4 H0) ∧ some q0 = some (mub_230_22 n5 n4 n3 n2 n1 n0 H0 H1)) (f11 : n0 ≠ 0) (f12 : n6 ≤ 2) (f13 : 0 ≤ n6) (f14 : hK H1 (n3).toNat = 12) (f15 : n6 = hV H1 (n3).toNat 13) (f16 : n6 = 0) (f17 : n7 = 2) (f18 : n8 ≤ 1) (f19 : 0 ≤ n8) (f20 : (hLe T0 H1 H2 ∧ hFr s_216.2.2.2.2 H1 H2 ∧ ((0 : Int) = 0 → H2.length = H1.length) ∧ hWt T0 H2) ∧ postb_216 n8 n3 n7 H1 H2) (f21 : n8 ≠ 0) (f22 : n9 = 4) (f23 : n1 = n9) (f24 : n10 = 2) (f25 : (hLe T0 H2 H3 ∧ hFr s_217.2.2.2.2 H2 H3 ∧ ((0 : Int) = 0 → H3.length = H2.length) ∧ hWt T0 H3) ∧ (postb_217 n3 n10 H2 H3 ∧ nb_217 n3 n10 H2 H3)) (f26 : n11 = 0) (f27 : n12 = 400) (f28 : n13 ≤ 9999) (f29 : 0 ≤ n13) (f30 : (hLe T0 H3 H4 ∧ hFr s_223.2.2.2.2 H3 H4 ∧ ((0 : Int) = 0 → H4.length = H3.length) ∧ hWt T0 H4) ∧ ((postb_223 n13 n3 n11 n12 H3 H4 ∧ nb_223 n13 n3 n11 n12 H3 H4) ∧ yb_223 n13 n3 n11 n12 H3 H4)) (f31 : n14 ≤ 2) (f32 : 0 ≤ n14) (f33 : hK H4 (n3).toNat = 12) (f34 : n14 = hV H4 (n3).toNat 13) (f35 : n14 ≠ 0) (f36 : n15 = w32 (n1 + 1)) (f37 : n16 = 5) (f38 : n17 ≤ 1) (f39 : 0 ≤ n17) (f40 : (hLe T0 H4 H5 ∧ hFr s_216.2.2.2.2 H4 H5 ∧ ((0 : Int) = 0 → H5.length = H4.length) ∧ hWt T0 H5) ∧ postb_216 n17 n3 n16 H4 H5) (f41 : n17 = 0) : Byb_230_22 n5 n4 n3 n2 n15 n17 H0 H5 := by
  unfold Byb_230_22
  intro z
  have ga := f10.2.1.1.1.2
  unfold Bb_230_22 at ga
  obtain ⟨z1, k0, k5, w1, w0⟩ := ga z
  have vz : vwR H1 = vwR H0 := vwR_fr f10.1.2.1 (by decide +kernel)
  have gy := f10.2.1.1.2
  unfold Byb_230_22 at gy
  obtain ⟨y1, y2, y3, y4, y5, y6, y7, y8⟩ := gy z
  have aa := f10.2.1.1.1.1
  unfold Ab_230_22 at aa
  obtain ⟨ea, _, _, _, _, _, _, _, _, _, _, x4⟩ := aa
  subst ea
  have d15 := rdS (q := 285) f15 f6
  have d34 := rdS (q := 285) f34 f6
  have q11 := f11
  have q16 := f16
  have q21 := f21
  have q23 := f23
  have qc22 := f22
  have q35 := f35
  have q36 := f36
  unfold w32 at q36
  have q41 := f41
  have p0 := PR_fr f20.1.2.1 (by decide +kernel) z1
  have v0 : vwR H2 = vwR H0 := p0.2.1.trans vz
  have ah0 : absR H2 = (absR H1) := p0.1
  have i0 := f20.2
  unfold postb_216 at i0
  rw [f17] at i0
  have cm0 := f21
  have b0 := (isR_or (k := 2) p0.2.2.1 (by decide) i0).resolve_right (fun w => cm0 w.1)
  replace b0 := b0.2
  rw [v0, ah0, kmc_2] at b0
  have c1 := f25.2.2 p0.2.2.1
  try rw [f24] at c1
  rw [v0, ah0] at c1
  have v1 : vwR H3 = vwR H0 := (vwR_fr f25.1.2.1 (by decide +kernel)).trans v0
  have c2 := f30.2.1.2 c1.1
  try rw [f26] at c2
  try rw [f27] at c2
  rw [v1, c1.2] at c2
  have v2 : vwR H4 = vwR H0 := (vwR_fr f30.1.2.1 (by decide +kernel)).trans v1
  have p3 := PR_fr f40.1.2.1 (by decide +kernel) c2.1
  have v3 : vwR H5 = vwR H0 := p3.2.1.trans v2
  have ah3 : absR H5 = (pnm (vwR H0) 0 400 (pfail (vwR H0) 2 (absR H1))) := p3.1.trans c2.2
  have i3 := f40.2
  unfold postb_216 at i3
  rw [f37] at i3
  have cm3 := f41
  have b3 := (isR_or (k := 5) p3.2.2.1 (by decide) i3).resolve_left (fun w => absurd (w.1.symm.trans cm3) (by decide))
  replace b3 := b3.2
  rw [v3, ah3, kmc_5] at b3
  have cu : CRo H1 H5 n2 := (CRo_tr (CRo_8 (CR8_fr f20.1.2.1 (by decide +kernel))) (CRo_tr (CRo_8 (CR8_fr f25.1.2.1 (by decide +kernel))) (CRo_tr (CRo_8 (CR8_fr f30.1.2.1 (by decide +kernel))) (CRo_8 (CR8_fr f40.1.2.1 (by decide +kernel))))))
  refine ⟨CRo_tr y1 cu, ((fRow f40.1.2.1 298 (by decide +kernel)).trans ((fRow f30.1.2.1 298 (by decide +kernel)).trans ((fRow f25.1.2.1 298 (by decide +kernel)).trans (fRow f20.1.2.1 298 (by decide +kernel))))).trans y2, ((fRow f40.1.2.1 299 (by decide +kernel)).trans ((fRow f30.1.2.1 299 (by decide +kernel)).trans ((fRow f25.1.2.1 299 (by decide +kernel)).trans (fRow f20.1.2.1 299 (by decide +kernel))))).trans y3, ((fRow f40.1.2.1 301 (by decide +kernel)).trans ((fRow f30.1.2.1 301 (by decide +kernel)).trans ((fRow f25.1.2.1 301 (by decide +kernel)).trans (fRow f20.1.2.1 301 (by decide +kernel))))).trans y4, ((fRow f40.1.2.1 302 (by decide +kernel)).trans ((fRow f30.1.2.1 302 (by decide +kernel)).trans ((fRow f25.1.2.1 302 (by decide +kernel)).trans (fRow f20.1.2.1 302 (by decide +kernel))))).trans y5, ((fRow f40.1.2.1 303 (by decide +kernel)).trans ((fRow f30.1.2.1 303 (by decide +kernel)).trans ((fRow f25.1.2.1 303 (by decide +kernel)).trans (fRow f20.1.2.1 303 (by decide +kernel))))).trans y6, ((fRow f40.1.2.1 304 (by decide +kernel)).trans ((fRow f30.1.2.1 304 (by decide +kernel)).trans ((fRow f25.1.2.1 304 (by decide +kernel)).trans (fRow f20.1.2.1 304 (by decide +kernel))))).trans y7, fun hf => ?_⟩
  have hzH4 := fzR c2.1 p3.2.2.1 c2.2 ah3 (fun _ _ => rfl) hf
  have hzH3 := fzR c1.1 c2.1 c1.2 c2.2 (fun n k => pnm_neg n k) hzH4.1
  have hzH2 := fzR p0.2.2.1 c1.1 ah0 c1.2 (fun n k => pfail_neg n k) hzH3.1
  have hzH1 := fzR z1 p0.2.2.1 rfl ah0 (fun _ _ => rfl) hzH2.1
  exact ((congrFun (fRow f40.1.2.1 300 (by decide +kernel)) _).trans ((congrFun (fRow f30.1.2.1 300 (by decide +kernel)) _).trans ((congrFun (fRow f25.1.2.1 300 (by decide +kernel)) _).trans (congrFun (fRow f20.1.2.1 300 (by decide +kernel)) _)))).trans (y8 hzH1.1)
def g_230y_22_10 : vG := ([(30, [17], [], 0), (1216, [17, 2, 16], [4, 5], 0), (90, [17], [], 0), (91, [17], [], 1), (0, [16], [], 5), (10, [15, 4], [], 1), (31, [14], [], 0), (20, [14, 2], [4], 13), (23, [2], [4], 12), (90, [14], [], 0), (91, [14], [], 2), (1223, [13, 2, 11, 12], [3, 4], 0), (90, [13], [], 0), (91, [13], [], 9999), (0, [12], [], 400), (0, [11], [], 0), (1217, [2, 10], [2, 3], 0), (0, [10], [], 2), (40, [4, 9], [], 0), (0, [9], [], 4), (31, [8], [], 0), (1216, [8, 2, 7], [1, 2], 0), (90, [8], [], 0), (91, [8], [], 1), (0, [7], [], 2), (30, [6], [], 0), (20, [6, 2], [1], 13), (23, [2], [1], 12), (90, [6], [], 0), (91, [6], [], 2), (31, [5], [], 0), (5000, [0, 1, 2, 3, 4, 5], [0, 1], 22), (0, [0], [], 285), (90, [1], [], 0), (91, [1], [], 1007), (0, [2], [], 285), (90, [3], [], 0), (91, [3], [], 1007), (90, [4], [], 0), (91, [4], [], 5), (90, [5], [], 0), (91, [5], [], 1)], (4000, [2, 3, 15, 17], [5], 22))
theorem c_230y_22_10 {q0 : Nat} : vOkm T0 (eN e_230w L_230y (eAB A_230 B_230) mu_230 y_230 By_230 (some q0)) 2 g_230y_22_10 := vOk_inI fun ρ η f0 f1 f2 f3 f4 f5 f6 f7 f8 f9 f10 f11 f12 f13 f14 f15 f16 f17 f18 f19 f20 f21 f22 f23 f24 f25 f26 f27 f28 f29 f30 f31 f32 f33 f34 f35 f36 f37 f38 f39 f40 f41 => q_230y_11 (q0 := q0) (n0 := ρ 5) (n1 := ρ 4) (n2 := ρ 3) (n3 := ρ 2) (n4 := ρ 1) (n5 := ρ 0) (n6 := ρ 6) (n7 := ρ 7) (n8 := ρ 8) (n9 := ρ 9) (n10 := ρ 10) (n11 := ρ 11) (n12 := ρ 12) (n13 := ρ 13) (n14 := ρ 14) (n15 := ρ 15) (n16 := ρ 16) (n17 := ρ 17) (H0 := η 0) (H1 := η 1) (H2 := η 2) (H3 := η 3) (H4 := η 4) (H5 := η 5) f41 f40 f39 f38 f37 f36 f35 f34 f33 f32 f31 f30 f29 f28 f27 f26 f25 f24 f23 f22 f21 f20 f19 f18 f17 f16 f15 f14 f13 f12 f11 f10 f9 f8 f7 f6 f5 f4 f3 f2 f1 f0
theorem q_230y_12 {q0 : Nat} {n0 n1 n2 n3 n4 n5 n6 n7 n8 n9 n10 n11 n12 n13 n14 n15 n16 n17 : Int} {H0 H1 H2 H3 H4 H5 H6 : gH} (f0 : n0 ≤ 1) (f1 : 0 ≤ n0) (f2 : n1 ≤ 5) (f3 : 0 ≤ n1) (f4 : n2 ≤ 1007) (f5 : 0 ≤ n2) (f6 : n3 = 285) (f7 : n4 ≤ 1007) (f8 : 0 ≤ n4) (f9 : n5 = 285) (f10 : (hLe T0 H0 H1 ∧ hFr s_230.2.2.2.2 H0 H1 ∧ hWt T0 H1) ∧ (((Ab_230_22 n5 n4 n3 n2 n1 n0 H0 H1 ∧ Bb_230_22 n5 n4 n3 n2 n1 n0 H0 H1) ∧ Byb_230_22 n5 n4 n3 n2 n1 n0 H0 H1) ∧ preb_230 n5 n4 H0) ∧ some q0 = some (mub_230_22 n5 n4 n3 n2 n1 n0 H0 H1)) (f11 : n0 ≠ 0) (f12 : n6 ≤ 2) (f13 : 0 ≤ n6) (f14 : hK H1 (n3).toNat = 12) (f15 : n6 = hV H1 (n3).toNat 13) (f16 : n6 = 0) (f17 : n7 = 2) (f18 : n8 ≤ 1) (f19 : 0 ≤ n8) (f20 : (hLe T0 H1 H2 ∧ hFr s_216.2.2.2.2 H1 H2 ∧ ((0 : Int) = 0 → H2.length = H1.length) ∧ hWt T0 H2) ∧ postb_216 n8 n3 n7 H1 H2) (f21 : n8 ≠ 0) (f22 : n9 = 4) (f23 : n1 = n9) (f24 : n10 = 2) (f25 : (hLe T0 H2 H3 ∧ hFr s_217.2.2.2.2 H2 H3 ∧ ((0 : Int) = 0 → H3.length = H2.length) ∧ hWt T0 H3) ∧ (postb_217 n3 n10 H2 H3 ∧ nb_217 n3 n10 H2 H3)) (f26 : n11 = 0) (f27 : n12 = 400) (f28 : n13 ≤ 9999) (f29 : 0 ≤ n13) (f30 : (hLe T0 H3 H4 ∧ hFr s_223.2.2.2.2 H3 H4 ∧ ((0 : Int) = 0 → H4.length = H3.length) ∧ hWt T0 H4) ∧ ((postb_223 n13 n3 n11 n12 H3 H4 ∧ nb_223 n13 n3 n11 n12 H3 H4) ∧ yb_223 n13 n3 n11 n12 H3 H4)) (f31 : n14 ≤ 2) (f32 : 0 ≤ n14) (f33 : hK H4 (n3).toNat = 12) (f34 : n14 = hV H4 (n3).toNat 13) (f35 : n14 ≠ 0) (f36 : n15 = w32 (n1 + 1)) (f37 : n16 = 5) (f38 : n17 ≤ 1) (f39 : 0 ≤ n17) (f40 : (hLe T0 H4 H5 ∧ hFr s_216.2.2.2.2 H4 H5 ∧ ((0 : Int) = 0 → H5.length = H4.length) ∧ hWt T0 H5) ∧ postb_216 n17 n3 n16 H4 H5) (f41 : n17 ≠ 0) (f42 : (hLe T0 H5 H6 ∧ hFr s_219.2.2.2.2 H5 H6 ∧ ((0 : Int) = 0 → H6.length = H5.length) ∧ hWt T0 H6) ∧ (postb_219 n3 H5 H6 ∧ nb_219 n3 H5 H6)) : Byb_230_22 n5 n4 n3 n2 n15 n17 H0 H6 := by
  unfold Byb_230_22
  intro z
  have ga := f10.2.1.1.1.2
  unfold Bb_230_22 at ga
  obtain ⟨z1, k0, k5, w1, w0⟩ := ga z
  have vz : vwR H1 = vwR H0 := vwR_fr f10.1.2.1 (by decide +kernel)
  have gy := f10.2.1.1.2
  unfold Byb_230_22 at gy
  obtain ⟨y1, y2, y3, y4, y5, y6, y7, y8⟩ := gy z
  have aa := f10.2.1.1.1.1
  unfold Ab_230_22 at aa
  obtain ⟨ea, _, _, _, _, _, _, _, _, _, _, x4⟩ := aa
  subst ea
  have d15 := rdS (q := 285) f15 f6
  have d34 := rdS (q := 285) f34 f6
  have q11 := f11
  have q16 := f16
  have q21 := f21
  have q23 := f23
  have qc22 := f22
  have q35 := f35
  have q36 := f36
  unfold w32 at q36
  have q41 := f41
  have p0 := PR_fr f20.1.2.1 (by decide +kernel) z1
  have v0 : vwR H2 = vwR H0 := p0.2.1.trans vz
  have ah0 : absR H2 = (absR H1) := p0.1
  have i0 := f20.2
  unfold postb_216 at i0
  rw [f17] at i0
  have cm0 := f21
  have b0 := (isR_or (k := 2) p0.2.2.1 (by decide) i0).resolve_right (fun w => cm0 w.1)
  replace b0 := b0.2
  rw [v0, ah0, kmc_2] at b0
  have c1 := f25.2.2 p0.2.2.1
  try rw [f24] at c1
  rw [v0, ah0] at c1
  have v1 : vwR H3 = vwR H0 := (vwR_fr f25.1.2.1 (by decide +kernel)).trans v0
  have c2 := f30.2.1.2 c1.1
  try rw [f26] at c2
  try rw [f27] at c2
  rw [v1, c1.2] at c2
  have v2 : vwR H4 = vwR H0 := (vwR_fr f30.1.2.1 (by decide +kernel)).trans v1
  have p3 := PR_fr f40.1.2.1 (by decide +kernel) c2.1
  have v3 : vwR H5 = vwR H0 := p3.2.1.trans v2
  have ah3 : absR H5 = (pnm (vwR H0) 0 400 (pfail (vwR H0) 2 (absR H1))) := p3.1.trans c2.2
  have i3 := f40.2
  unfold postb_216 at i3
  rw [f37] at i3
  have cm3 := f41
  have b3 := (isR_or (k := 5) p3.2.2.1 (by decide) i3).resolve_right (fun w => cm3 w.1)
  replace b3 := b3.2
  rw [v3, ah3, kmc_5] at b3
  have c4 := f42.2.2 p3.2.2.1 (by rw [v3, ah3]; rw [b3]; decide)
  rw [v3, ah3, b3] at c4
  have v4 : vwR H6 = vwR H0 := (vwR_fr f42.1.2.1 (by decide +kernel)).trans v3
  have cu : CRo H1 H6 n2 := (CRo_tr (CRo_8 (CR8_fr f20.1.2.1 (by decide +kernel))) (CRo_tr (CRo_8 (CR8_fr f25.1.2.1 (by decide +kernel))) (CRo_tr (CRo_8 (CR8_fr f30.1.2.1 (by decide +kernel))) (CRo_tr (CRo_8 (CR8_fr f40.1.2.1 (by decide +kernel))) (CRo_8 (CR8_fr f42.1.2.1 (by decide +kernel)))))))
  refine ⟨CRo_tr y1 cu, ((fRow f42.1.2.1 298 (by decide +kernel)).trans ((fRow f40.1.2.1 298 (by decide +kernel)).trans ((fRow f30.1.2.1 298 (by decide +kernel)).trans ((fRow f25.1.2.1 298 (by decide +kernel)).trans (fRow f20.1.2.1 298 (by decide +kernel)))))).trans y2, ((fRow f42.1.2.1 299 (by decide +kernel)).trans ((fRow f40.1.2.1 299 (by decide +kernel)).trans ((fRow f30.1.2.1 299 (by decide +kernel)).trans ((fRow f25.1.2.1 299 (by decide +kernel)).trans (fRow f20.1.2.1 299 (by decide +kernel)))))).trans y3, ((fRow f42.1.2.1 301 (by decide +kernel)).trans ((fRow f40.1.2.1 301 (by decide +kernel)).trans ((fRow f30.1.2.1 301 (by decide +kernel)).trans ((fRow f25.1.2.1 301 (by decide +kernel)).trans (fRow f20.1.2.1 301 (by decide +kernel)))))).trans y4, ((fRow f42.1.2.1 302 (by decide +kernel)).trans ((fRow f40.1.2.1 302 (by decide +kernel)).trans ((fRow f30.1.2.1 302 (by decide +kernel)).trans ((fRow f25.1.2.1 302 (by decide +kernel)).trans (fRow f20.1.2.1 302 (by decide +kernel)))))).trans y5, ((fRow f42.1.2.1 303 (by decide +kernel)).trans ((fRow f40.1.2.1 303 (by decide +kernel)).trans ((fRow f30.1.2.1 303 (by decide +kernel)).trans ((fRow f25.1.2.1 303 (by decide +kernel)).trans (fRow f20.1.2.1 303 (by decide +kernel)))))).trans y6, ((fRow f42.1.2.1 304 (by decide +kernel)).trans ((fRow f40.1.2.1 304 (by decide +kernel)).trans ((fRow f30.1.2.1 304 (by decide +kernel)).trans ((fRow f25.1.2.1 304 (by decide +kernel)).trans (fRow f20.1.2.1 304 (by decide +kernel)))))).trans y7, fun hf => ?_⟩
  have hzH5 := fzR p3.2.2.1 c4.1 ah3 c4.2 (fun n k => ptk_neg n k) hf
  have hzH4 := fzR c2.1 p3.2.2.1 c2.2 ah3 (fun _ _ => rfl) hzH5.1
  have hzH3 := fzR c1.1 c2.1 c1.2 c2.2 (fun n k => pnm_neg n k) hzH4.1
  have hzH2 := fzR p0.2.2.1 c1.1 ah0 c1.2 (fun n k => pfail_neg n k) hzH3.1
  have hzH1 := fzR z1 p0.2.2.1 rfl ah0 (fun _ _ => rfl) hzH2.1
  exact ((congrFun (fRow f42.1.2.1 300 (by decide +kernel)) _).trans ((congrFun (fRow f40.1.2.1 300 (by decide +kernel)) _).trans ((congrFun (fRow f30.1.2.1 300 (by decide +kernel)) _).trans ((congrFun (fRow f25.1.2.1 300 (by decide +kernel)) _).trans (congrFun (fRow f20.1.2.1 300 (by decide +kernel)) _))))).trans (y8 hzH1.1)
def g_230y_22_11 : vG := ([(1219, [2], [5, 6], 0), (31, [17], [], 0), (1216, [17, 2, 16], [4, 5], 0), (90, [17], [], 0), (91, [17], [], 1), (0, [16], [], 5), (10, [15, 4], [], 1), (31, [14], [], 0), (20, [14, 2], [4], 13), (23, [2], [4], 12), (90, [14], [], 0), (91, [14], [], 2), (1223, [13, 2, 11, 12], [3, 4], 0), (90, [13], [], 0), (91, [13], [], 9999), (0, [12], [], 400), (0, [11], [], 0), (1217, [2, 10], [2, 3], 0), (0, [10], [], 2), (40, [4, 9], [], 0), (0, [9], [], 4), (31, [8], [], 0), (1216, [8, 2, 7], [1, 2], 0), (90, [8], [], 0), (91, [8], [], 1), (0, [7], [], 2), (30, [6], [], 0), (20, [6, 2], [1], 13), (23, [2], [1], 12), (90, [6], [], 0), (91, [6], [], 2), (31, [5], [], 0), (5000, [0, 1, 2, 3, 4, 5], [0, 1], 22), (0, [0], [], 285), (90, [1], [], 0), (91, [1], [], 1007), (0, [2], [], 285), (90, [3], [], 0), (91, [3], [], 1007), (90, [4], [], 0), (91, [4], [], 5), (90, [5], [], 0), (91, [5], [], 1)], (4000, [2, 3, 15, 17], [6], 22))
theorem c_230y_22_11 {q0 : Nat} : vOkm T0 (eN e_230w L_230y (eAB A_230 B_230) mu_230 y_230 By_230 (some q0)) 2 g_230y_22_11 := vOk_inI fun ρ η f0 f1 f2 f3 f4 f5 f6 f7 f8 f9 f10 f11 f12 f13 f14 f15 f16 f17 f18 f19 f20 f21 f22 f23 f24 f25 f26 f27 f28 f29 f30 f31 f32 f33 f34 f35 f36 f37 f38 f39 f40 f41 f42 => q_230y_12 (q0 := q0) (n0 := ρ 5) (n1 := ρ 4) (n2 := ρ 3) (n3 := ρ 2) (n4 := ρ 1) (n5 := ρ 0) (n6 := ρ 6) (n7 := ρ 7) (n8 := ρ 8) (n9 := ρ 9) (n10 := ρ 10) (n11 := ρ 11) (n12 := ρ 12) (n13 := ρ 13) (n14 := ρ 14) (n15 := ρ 15) (n16 := ρ 16) (n17 := ρ 17) (H0 := η 0) (H1 := η 1) (H2 := η 2) (H3 := η 3) (H4 := η 4) (H5 := η 5) (H6 := η 6) f42 f41 f40 f39 f38 f37 f36 f35 f34 f33 f32 f31 f30 f29 f28 f27 f26 f25 f24 f23 f22 f21 f20 f19 f18 f17 f16 f15 f14 f13 f12 f11 f10 f9 f8 f7 f6 f5 f4 f3 f2 f1 f0
theorem q_230y_13 {q0 : Nat} {n0 n1 n2 n3 n4 n5 n6 n7 n8 n9 n10 n11 n12 n13 n14 n15 n16 n17 n18 n19 n20 n21 n22 n23 : Int} {H0 H1 H2 H3 H4 H5 H6 : gH} (f0 : n0 ≤ 1) (f1 : 0 ≤ n0) (f2 : n1 ≤ 5) (f3 : 0 ≤ n1) (f4 : n2 ≤ 1007) (f5 : 0 ≤ n2) (f6 : n3 = 285) (f7 : n4 ≤ 1007) (f8 : 0 ≤ n4) (f9 : n5 = 285) (f10 : (hLe T0 H0 H1 ∧ hFr s_230.2.2.2.2 H0 H1 ∧ hWt T0 H1) ∧ (((Ab_230_22 n5 n4 n3 n2 n1 n0 H0 H1 ∧ Bb_230_22 n5 n4 n3 n2 n1 n0 H0 H1) ∧ Byb_230_22 n5 n4 n3 n2 n1 n0 H0 H1) ∧ preb_230 n5 n4 H0) ∧ some q0 = some (mub_230_22 n5 n4 n3 n2 n1 n0 H0 H1)) (f11 : n0 ≠ 0) (f12 : n6 ≤ 2) (f13 : 0 ≤ n6) (f14 : hK H1 (n3).toNat = 12) (f15 : n6 = hV H1 (n3).toNat 13) (f16 : n6 = 0) (f17 : n7 = 2) (f18 : n8 ≤ 1) (f19 : 0 ≤ n8) (f20 : (hLe T0 H1 H2 ∧ hFr s_216.2.2.2.2 H1 H2 ∧ ((0 : Int) = 0 → H2.length = H1.length) ∧ hWt T0 H2) ∧ postb_216 n8 n3 n7 H1 H2) (f21 : n8 ≠ 0) (f22 : n9 = 4) (f23 : n1 = n9) (f24 : n10 = 2) (f25 : (hLe T0 H2 H3 ∧ hFr s_217.2.2.2.2 H2 H3 ∧ ((0 : Int) = 0 → H3.length = H2.length) ∧ hWt T0 H3) ∧ (postb_217 n3 n10 H2 H3 ∧ nb_217 n3 n10 H2 H3)) (f26 : n11 = 0) (f27 : n12 = 400) (f28 : n13 ≤ 9999) (f29 : 0 ≤ n13) (f30 : (hLe T0 H3 H4 ∧ hFr s_223.2.2.2.2 H3 H4 ∧ ((0 : Int) = 0 → H4.length = H3.length) ∧ hWt T0 H4) ∧ ((postb_223 n13 n3 n11 n12 H3 H4 ∧ nb_223 n13 n3 n11 n12 H3 H4) ∧ yb_223 n13 n3 n11 n12 H3 H4)) (f31 : n14 ≤ 2) (f32 : 0 ≤ n14) (f33 : hK H4 (n3).toNat = 12) (f34 : n14 = hV H4 (n3).toNat 13) (f35 : n14 = 0) (f36 : n15 = 305) (f37 : hK H4 (n3).toNat = 12) (f38 : n15 = hV H4 (n3).toNat 31) (f39 : n16 = 6) (f40 : n17 = w32 (n16 * n2)) (f41 : n18 = 1) (f42 : n19 = w32 (n17 + n18)) (f43 : n20 = w32 (n19 + n1)) (f44 : hK H4 (n15).toNat = 268) (f45 : hUpd H5 H4 n15 n20 n13) (f46 : n21 = w32 (n1 + 1)) (f47 : n22 = 5) (f48 : n23 ≤ 1) (f49 : 0 ≤ n23) (f50 : (hLe T0 H5 H6 ∧ hFr s_216.2.2.2.2 H5 H6 ∧ ((0 : Int) = 0 → H6.length = H5.length) ∧ hWt T0 H6) ∧ postb_216 n23 n3 n22 H5 H6) (f51 : n23 = 0) : Byb_230_22 n5 n4 n3 n2 n21 n23 H0 H6 := by
  unfold Byb_230_22
  intro z
  have ga := f10.2.1.1.1.2
  unfold Bb_230_22 at ga
  obtain ⟨z1, k0, k5, w1, w0⟩ := ga z
  have vz : vwR H1 = vwR H0 := vwR_fr f10.1.2.1 (by decide +kernel)
  have gy := f10.2.1.1.2
  unfold Byb_230_22 at gy
  obtain ⟨y1, y2, y3, y4, y5, y6, y7, y8⟩ := gy z
  have aa := f10.2.1.1.1.1
  unfold Ab_230_22 at aa
  obtain ⟨ea, _, _, _, _, _, _, _, _, _, _, x4⟩ := aa
  subst ea
  have d15 := rdS (q := 285) f15 f6
  have d34 := rdS (q := 285) f34 f6
  have q11 := f11
  have q16 := f16
  have q21 := f21
  have q23 := f23
  have qc22 := f22
  have q35 := f35
  have q46 := f46
  unfold w32 at q46
  have q51 := f51
  have p0 := PR_fr f20.1.2.1 (by decide +kernel) z1
  have v0 : vwR H2 = vwR H0 := p0.2.1.trans vz
  have ah0 : absR H2 = (absR H1) := p0.1
  have i0 := f20.2
  unfold postb_216 at i0
  rw [f17] at i0
  have cm0 := f21
  have b0 := (isR_or (k := 2) p0.2.2.1 (by decide) i0).resolve_right (fun w => cm0 w.1)
  replace b0 := b0.2
  rw [v0, ah0, kmc_2] at b0
  have c1 := f25.2.2 p0.2.2.1
  try rw [f24] at c1
  rw [v0, ah0] at c1
  have v1 : vwR H3 = vwR H0 := (vwR_fr f25.1.2.1 (by decide +kernel)).trans v0
  have c2 := f30.2.1.2 c1.1
  try rw [f26] at c2
  try rw [f27] at c2
  rw [v1, c1.2] at c2
  have v2 : vwR H4 = vwR H0 := (vwR_fr f30.1.2.1 (by decide +kernel)).trans v1
  have p3 := PR_row (q := 305) f45 f36 (by decide) c2.1
  have v3 : vwR H5 = vwR H0 := p3.2.1.trans v2
  have ah3 : absR H5 = (pnm (vwR H0) 0 400 (pfail (vwR H0) 2 (absR H1))) := p3.1.trans c2.2
  have p4 := PR_fr f50.1.2.1 (by decide +kernel) p3.2.2.1
  have v4 : vwR H6 = vwR H0 := p4.2.1.trans v3
  have ah4 : absR H6 = (pnm (vwR H0) 0 400 (pfail (vwR H0) 2 (absR H1))) := p4.1.trans ah3
  have i4 := f50.2
  unfold postb_216 at i4
  rw [f47] at i4
  have cm4 := f51
  have b4 := (isR_or (k := 5) p4.2.2.1 (by decide) i4).resolve_left (fun w => absurd (w.1.symm.trans cm4) (by decide))
  replace b4 := b4.2
  rw [v4, ah4, kmc_5] at b4
  have ix17 : n17 = 6 * n2 := by
    have w := f40
    rw [f39] at w
    unfold w32 at w
    omega
  have ix19 : n19 = 6 * n2 + 1 := by
    have w := f42
    rw [f41] at w
    unfold w32 at w
    omega
  have cu : CRo H1 H6 n2 := (CRo_tr (CRo_8 (CR8_fr f20.1.2.1 (by decide +kernel))) (CRo_tr (CRo_8 (CR8_fr f25.1.2.1 (by decide +kernel))) (CRo_tr (CRo_8 (CR8_fr f30.1.2.1 (by decide +kernel))) (CRo_tr (CRo_up5 f45 f36 (k := 1 + n1) (by have w := f43; unfold w32 at w; omega) (by omega) (by omega)) (CRo_8 (CR8_fr f50.1.2.1 (by decide +kernel)))))))
  refine ⟨CRo_tr y1 cu, ((fRow f50.1.2.1 298 (by decide +kernel)).trans ((uRowNe f45 298 (by rw [f36]; decide)).trans ((fRow f30.1.2.1 298 (by decide +kernel)).trans ((fRow f25.1.2.1 298 (by decide +kernel)).trans (fRow f20.1.2.1 298 (by decide +kernel)))))).trans y2, ((fRow f50.1.2.1 299 (by decide +kernel)).trans ((uRowNe f45 299 (by rw [f36]; decide)).trans ((fRow f30.1.2.1 299 (by decide +kernel)).trans ((fRow f25.1.2.1 299 (by decide +kernel)).trans (fRow f20.1.2.1 299 (by decide +kernel)))))).trans y3, ((fRow f50.1.2.1 301 (by decide +kernel)).trans ((uRowNe f45 301 (by rw [f36]; decide)).trans ((fRow f30.1.2.1 301 (by decide +kernel)).trans ((fRow f25.1.2.1 301 (by decide +kernel)).trans (fRow f20.1.2.1 301 (by decide +kernel)))))).trans y4, ((fRow f50.1.2.1 302 (by decide +kernel)).trans ((uRowNe f45 302 (by rw [f36]; decide)).trans ((fRow f30.1.2.1 302 (by decide +kernel)).trans ((fRow f25.1.2.1 302 (by decide +kernel)).trans (fRow f20.1.2.1 302 (by decide +kernel)))))).trans y5, ((fRow f50.1.2.1 303 (by decide +kernel)).trans ((uRowNe f45 303 (by rw [f36]; decide)).trans ((fRow f30.1.2.1 303 (by decide +kernel)).trans ((fRow f25.1.2.1 303 (by decide +kernel)).trans (fRow f20.1.2.1 303 (by decide +kernel)))))).trans y6, ((fRow f50.1.2.1 304 (by decide +kernel)).trans ((uRowNe f45 304 (by rw [f36]; decide)).trans ((fRow f30.1.2.1 304 (by decide +kernel)).trans ((fRow f25.1.2.1 304 (by decide +kernel)).trans (fRow f20.1.2.1 304 (by decide +kernel)))))).trans y7, fun hf => ?_⟩
  have hzH5 := fzR p3.2.2.1 p4.2.2.1 ah3 ah4 (fun _ _ => rfl) hf
  have hzH4 := fzR c2.1 p3.2.2.1 c2.2 ah3 (fun _ _ => rfl) hzH5.1
  have hzH3 := fzR c1.1 c2.1 c1.2 c2.2 (fun n k => pnm_neg n k) hzH4.1
  have hzH2 := fzR p0.2.2.1 c1.1 ah0 c1.2 (fun n k => pfail_neg n k) hzH3.1
  have hzH1 := fzR z1 p0.2.2.1 rfl ah0 (fun _ _ => rfl) hzH2.1
  exact ((congrFun (fRow f50.1.2.1 300 (by decide +kernel)) _).trans ((congrFun (uRowNe f45 300 (by rw [f36]; decide)) _).trans ((congrFun (fRow f30.1.2.1 300 (by decide +kernel)) _).trans ((congrFun (fRow f25.1.2.1 300 (by decide +kernel)) _).trans (congrFun (fRow f20.1.2.1 300 (by decide +kernel)) _))))).trans (y8 hzH1.1)
def g_230y_22_12 : vG := ([(30, [23], [], 0), (1216, [23, 2, 22], [5, 6], 0), (90, [23], [], 0), (91, [23], [], 1), (0, [22], [], 5), (10, [21, 4], [], 1), (80, [15, 20, 13], [5, 4], 0), (23, [15], [4], 268), (1, [20, 19, 4], [], 0), (1, [19, 17, 18], [], 0), (0, [18], [], 1), (3, [17, 16, 3], [], 0), (0, [16], [], 6), (20, [15, 2], [4], 31), (23, [2], [4], 12), (0, [15], [], 305), (30, [14], [], 0), (20, [14, 2], [4], 13), (23, [2], [4], 12), (90, [14], [], 0), (91, [14], [], 2), (1223, [13, 2, 11, 12], [3, 4], 0), (90, [13], [], 0), (91, [13], [], 9999), (0, [12], [], 400), (0, [11], [], 0), (1217, [2, 10], [2, 3], 0), (0, [10], [], 2), (40, [4, 9], [], 0), (0, [9], [], 4), (31, [8], [], 0), (1216, [8, 2, 7], [1, 2], 0), (90, [8], [], 0), (91, [8], [], 1), (0, [7], [], 2), (30, [6], [], 0), (20, [6, 2], [1], 13), (23, [2], [1], 12), (90, [6], [], 0), (91, [6], [], 2), (31, [5], [], 0), (5000, [0, 1, 2, 3, 4, 5], [0, 1], 22), (0, [0], [], 285), (90, [1], [], 0), (91, [1], [], 1007), (0, [2], [], 285), (90, [3], [], 0), (91, [3], [], 1007), (90, [4], [], 0), (91, [4], [], 5), (90, [5], [], 0), (91, [5], [], 1)], (4000, [2, 3, 21, 23], [6], 22))
theorem c_230y_22_12 {q0 : Nat} : vOkm T0 (eN e_230w L_230y (eAB A_230 B_230) mu_230 y_230 By_230 (some q0)) 2 g_230y_22_12 := vOk_inI fun ρ η f0 f1 f2 f3 f4 f5 f6 f7 f8 f9 f10 f11 f12 f13 f14 f15 f16 f17 f18 f19 f20 f21 f22 f23 f24 f25 f26 f27 f28 f29 f30 f31 f32 f33 f34 f35 f36 f37 f38 f39 f40 f41 f42 f43 f44 f45 f46 f47 f48 f49 f50 f51 => q_230y_13 (q0 := q0) (n0 := ρ 5) (n1 := ρ 4) (n2 := ρ 3) (n3 := ρ 2) (n4 := ρ 1) (n5 := ρ 0) (n6 := ρ 6) (n7 := ρ 7) (n8 := ρ 8) (n9 := ρ 9) (n10 := ρ 10) (n11 := ρ 11) (n12 := ρ 12) (n13 := ρ 13) (n14 := ρ 14) (n15 := ρ 15) (n16 := ρ 16) (n17 := ρ 17) (n18 := ρ 18) (n19 := ρ 19) (n20 := ρ 20) (n21 := ρ 21) (n22 := ρ 22) (n23 := ρ 23) (H0 := η 0) (H1 := η 1) (H2 := η 2) (H3 := η 3) (H4 := η 4) (H5 := η 5) (H6 := η 6) f51 f50 f49 f48 f47 f46 f45 f44 f43 f42 f41 f40 f39 f38 f37 f36 f35 f34 f33 f32 f31 f30 f29 f28 f27 f26 f25 f24 f23 f22 f21 f20 f19 f18 f17 f16 f15 f14 f13 f12 f11 f10 f9 f8 f7 f6 f5 f4 f3 f2 f1 f0
theorem q_230y_14 {q0 : Nat} {n0 n1 n2 n3 n4 n5 n6 n7 n8 n9 n10 n11 n12 n13 n14 n15 n16 n17 n18 n19 n20 n21 n22 n23 : Int} {H0 H1 H2 H3 H4 H5 H6 H7 : gH} (f0 : n0 ≤ 1) (f1 : 0 ≤ n0) (f2 : n1 ≤ 5) (f3 : 0 ≤ n1) (f4 : n2 ≤ 1007) (f5 : 0 ≤ n2) (f6 : n3 = 285) (f7 : n4 ≤ 1007) (f8 : 0 ≤ n4) (f9 : n5 = 285) (f10 : (hLe T0 H0 H1 ∧ hFr s_230.2.2.2.2 H0 H1 ∧ hWt T0 H1) ∧ (((Ab_230_22 n5 n4 n3 n2 n1 n0 H0 H1 ∧ Bb_230_22 n5 n4 n3 n2 n1 n0 H0 H1) ∧ Byb_230_22 n5 n4 n3 n2 n1 n0 H0 H1) ∧ preb_230 n5 n4 H0) ∧ some q0 = some (mub_230_22 n5 n4 n3 n2 n1 n0 H0 H1)) (f11 : n0 ≠ 0) (f12 : n6 ≤ 2) (f13 : 0 ≤ n6) (f14 : hK H1 (n3).toNat = 12) (f15 : n6 = hV H1 (n3).toNat 13) (f16 : n6 = 0) (f17 : n7 = 2) (f18 : n8 ≤ 1) (f19 : 0 ≤ n8) (f20 : (hLe T0 H1 H2 ∧ hFr s_216.2.2.2.2 H1 H2 ∧ ((0 : Int) = 0 → H2.length = H1.length) ∧ hWt T0 H2) ∧ postb_216 n8 n3 n7 H1 H2) (f21 : n8 ≠ 0) (f22 : n9 = 4) (f23 : n1 = n9) (f24 : n10 = 2) (f25 : (hLe T0 H2 H3 ∧ hFr s_217.2.2.2.2 H2 H3 ∧ ((0 : Int) = 0 → H3.length = H2.length) ∧ hWt T0 H3) ∧ (postb_217 n3 n10 H2 H3 ∧ nb_217 n3 n10 H2 H3)) (f26 : n11 = 0) (f27 : n12 = 400) (f28 : n13 ≤ 9999) (f29 : 0 ≤ n13) (f30 : (hLe T0 H3 H4 ∧ hFr s_223.2.2.2.2 H3 H4 ∧ ((0 : Int) = 0 → H4.length = H3.length) ∧ hWt T0 H4) ∧ ((postb_223 n13 n3 n11 n12 H3 H4 ∧ nb_223 n13 n3 n11 n12 H3 H4) ∧ yb_223 n13 n3 n11 n12 H3 H4)) (f31 : n14 ≤ 2) (f32 : 0 ≤ n14) (f33 : hK H4 (n3).toNat = 12) (f34 : n14 = hV H4 (n3).toNat 13) (f35 : n14 = 0) (f36 : n15 = 305) (f37 : hK H4 (n3).toNat = 12) (f38 : n15 = hV H4 (n3).toNat 31) (f39 : n16 = 6) (f40 : n17 = w32 (n16 * n2)) (f41 : n18 = 1) (f42 : n19 = w32 (n17 + n18)) (f43 : n20 = w32 (n19 + n1)) (f44 : hK H4 (n15).toNat = 268) (f45 : hUpd H5 H4 n15 n20 n13) (f46 : n21 = w32 (n1 + 1)) (f47 : n22 = 5) (f48 : n23 ≤ 1) (f49 : 0 ≤ n23) (f50 : (hLe T0 H5 H6 ∧ hFr s_216.2.2.2.2 H5 H6 ∧ ((0 : Int) = 0 → H6.length = H5.length) ∧ hWt T0 H6) ∧ postb_216 n23 n3 n22 H5 H6) (f51 : n23 ≠ 0) (f52 : (hLe T0 H6 H7 ∧ hFr s_219.2.2.2.2 H6 H7 ∧ ((0 : Int) = 0 → H7.length = H6.length) ∧ hWt T0 H7) ∧ (postb_219 n3 H6 H7 ∧ nb_219 n3 H6 H7)) : Byb_230_22 n5 n4 n3 n2 n21 n23 H0 H7 := by
  unfold Byb_230_22
  intro z
  have ga := f10.2.1.1.1.2
  unfold Bb_230_22 at ga
  obtain ⟨z1, k0, k5, w1, w0⟩ := ga z
  have vz : vwR H1 = vwR H0 := vwR_fr f10.1.2.1 (by decide +kernel)
  have gy := f10.2.1.1.2
  unfold Byb_230_22 at gy
  obtain ⟨y1, y2, y3, y4, y5, y6, y7, y8⟩ := gy z
  have aa := f10.2.1.1.1.1
  unfold Ab_230_22 at aa
  obtain ⟨ea, _, _, _, _, _, _, _, _, _, _, x4⟩ := aa
  subst ea
  have d15 := rdS (q := 285) f15 f6
  have d34 := rdS (q := 285) f34 f6
  have q11 := f11
  have q16 := f16
  have q21 := f21
  have q23 := f23
  have qc22 := f22
  have q35 := f35
  have q46 := f46
  unfold w32 at q46
  have q51 := f51
  have p0 := PR_fr f20.1.2.1 (by decide +kernel) z1
  have v0 : vwR H2 = vwR H0 := p0.2.1.trans vz
  have ah0 : absR H2 = (absR H1) := p0.1
  have i0 := f20.2
  unfold postb_216 at i0
  rw [f17] at i0
  have cm0 := f21
  have b0 := (isR_or (k := 2) p0.2.2.1 (by decide) i0).resolve_right (fun w => cm0 w.1)
  replace b0 := b0.2
  rw [v0, ah0, kmc_2] at b0
  have c1 := f25.2.2 p0.2.2.1
  try rw [f24] at c1
  rw [v0, ah0] at c1
  have v1 : vwR H3 = vwR H0 := (vwR_fr f25.1.2.1 (by decide +kernel)).trans v0
  have c2 := f30.2.1.2 c1.1
  try rw [f26] at c2
  try rw [f27] at c2
  rw [v1, c1.2] at c2
  have v2 : vwR H4 = vwR H0 := (vwR_fr f30.1.2.1 (by decide +kernel)).trans v1
  have p3 := PR_row (q := 305) f45 f36 (by decide) c2.1
  have v3 : vwR H5 = vwR H0 := p3.2.1.trans v2
  have ah3 : absR H5 = (pnm (vwR H0) 0 400 (pfail (vwR H0) 2 (absR H1))) := p3.1.trans c2.2
  have p4 := PR_fr f50.1.2.1 (by decide +kernel) p3.2.2.1
  have v4 : vwR H6 = vwR H0 := p4.2.1.trans v3
  have ah4 : absR H6 = (pnm (vwR H0) 0 400 (pfail (vwR H0) 2 (absR H1))) := p4.1.trans ah3
  have i4 := f50.2
  unfold postb_216 at i4
  rw [f47] at i4
  have cm4 := f51
  have b4 := (isR_or (k := 5) p4.2.2.1 (by decide) i4).resolve_right (fun w => cm4 w.1)
  replace b4 := b4.2
  rw [v4, ah4, kmc_5] at b4
  have c5 := f52.2.2 p4.2.2.1 (by rw [v4, ah4]; rw [b4]; decide)
  rw [v4, ah4, b4] at c5
  have v5 : vwR H7 = vwR H0 := (vwR_fr f52.1.2.1 (by decide +kernel)).trans v4
  have ix17 : n17 = 6 * n2 := by
    have w := f40
    rw [f39] at w
    unfold w32 at w
    omega
  have ix19 : n19 = 6 * n2 + 1 := by
    have w := f42
    rw [f41] at w
    unfold w32 at w
    omega
  have cu : CRo H1 H7 n2 := (CRo_tr (CRo_8 (CR8_fr f20.1.2.1 (by decide +kernel))) (CRo_tr (CRo_8 (CR8_fr f25.1.2.1 (by decide +kernel))) (CRo_tr (CRo_8 (CR8_fr f30.1.2.1 (by decide +kernel))) (CRo_tr (CRo_up5 f45 f36 (k := 1 + n1) (by have w := f43; unfold w32 at w; omega) (by omega) (by omega)) (CRo_tr (CRo_8 (CR8_fr f50.1.2.1 (by decide +kernel))) (CRo_8 (CR8_fr f52.1.2.1 (by decide +kernel))))))))
  refine ⟨CRo_tr y1 cu, ((fRow f52.1.2.1 298 (by decide +kernel)).trans ((fRow f50.1.2.1 298 (by decide +kernel)).trans ((uRowNe f45 298 (by rw [f36]; decide)).trans ((fRow f30.1.2.1 298 (by decide +kernel)).trans ((fRow f25.1.2.1 298 (by decide +kernel)).trans (fRow f20.1.2.1 298 (by decide +kernel))))))).trans y2, ((fRow f52.1.2.1 299 (by decide +kernel)).trans ((fRow f50.1.2.1 299 (by decide +kernel)).trans ((uRowNe f45 299 (by rw [f36]; decide)).trans ((fRow f30.1.2.1 299 (by decide +kernel)).trans ((fRow f25.1.2.1 299 (by decide +kernel)).trans (fRow f20.1.2.1 299 (by decide +kernel))))))).trans y3, ((fRow f52.1.2.1 301 (by decide +kernel)).trans ((fRow f50.1.2.1 301 (by decide +kernel)).trans ((uRowNe f45 301 (by rw [f36]; decide)).trans ((fRow f30.1.2.1 301 (by decide +kernel)).trans ((fRow f25.1.2.1 301 (by decide +kernel)).trans (fRow f20.1.2.1 301 (by decide +kernel))))))).trans y4, ((fRow f52.1.2.1 302 (by decide +kernel)).trans ((fRow f50.1.2.1 302 (by decide +kernel)).trans ((uRowNe f45 302 (by rw [f36]; decide)).trans ((fRow f30.1.2.1 302 (by decide +kernel)).trans ((fRow f25.1.2.1 302 (by decide +kernel)).trans (fRow f20.1.2.1 302 (by decide +kernel))))))).trans y5, ((fRow f52.1.2.1 303 (by decide +kernel)).trans ((fRow f50.1.2.1 303 (by decide +kernel)).trans ((uRowNe f45 303 (by rw [f36]; decide)).trans ((fRow f30.1.2.1 303 (by decide +kernel)).trans ((fRow f25.1.2.1 303 (by decide +kernel)).trans (fRow f20.1.2.1 303 (by decide +kernel))))))).trans y6, ((fRow f52.1.2.1 304 (by decide +kernel)).trans ((fRow f50.1.2.1 304 (by decide +kernel)).trans ((uRowNe f45 304 (by rw [f36]; decide)).trans ((fRow f30.1.2.1 304 (by decide +kernel)).trans ((fRow f25.1.2.1 304 (by decide +kernel)).trans (fRow f20.1.2.1 304 (by decide +kernel))))))).trans y7, fun hf => ?_⟩
  have hzH6 := fzR p4.2.2.1 c5.1 ah4 c5.2 (fun n k => ptk_neg n k) hf
  have hzH5 := fzR p3.2.2.1 p4.2.2.1 ah3 ah4 (fun _ _ => rfl) hzH6.1
  have hzH4 := fzR c2.1 p3.2.2.1 c2.2 ah3 (fun _ _ => rfl) hzH5.1
  have hzH3 := fzR c1.1 c2.1 c1.2 c2.2 (fun n k => pnm_neg n k) hzH4.1
  have hzH2 := fzR p0.2.2.1 c1.1 ah0 c1.2 (fun n k => pfail_neg n k) hzH3.1
  have hzH1 := fzR z1 p0.2.2.1 rfl ah0 (fun _ _ => rfl) hzH2.1
  exact ((congrFun (fRow f52.1.2.1 300 (by decide +kernel)) _).trans ((congrFun (fRow f50.1.2.1 300 (by decide +kernel)) _).trans ((congrFun (uRowNe f45 300 (by rw [f36]; decide)) _).trans ((congrFun (fRow f30.1.2.1 300 (by decide +kernel)) _).trans ((congrFun (fRow f25.1.2.1 300 (by decide +kernel)) _).trans (congrFun (fRow f20.1.2.1 300 (by decide +kernel)) _)))))).trans (y8 hzH1.1)
def g_230y_22_13 : vG := ([(1219, [2], [6, 7], 0), (31, [23], [], 0), (1216, [23, 2, 22], [5, 6], 0), (90, [23], [], 0), (91, [23], [], 1), (0, [22], [], 5), (10, [21, 4], [], 1), (80, [15, 20, 13], [5, 4], 0), (23, [15], [4], 268), (1, [20, 19, 4], [], 0), (1, [19, 17, 18], [], 0), (0, [18], [], 1), (3, [17, 16, 3], [], 0), (0, [16], [], 6), (20, [15, 2], [4], 31), (23, [2], [4], 12), (0, [15], [], 305), (30, [14], [], 0), (20, [14, 2], [4], 13), (23, [2], [4], 12), (90, [14], [], 0), (91, [14], [], 2), (1223, [13, 2, 11, 12], [3, 4], 0), (90, [13], [], 0), (91, [13], [], 9999), (0, [12], [], 400), (0, [11], [], 0), (1217, [2, 10], [2, 3], 0), (0, [10], [], 2), (40, [4, 9], [], 0), (0, [9], [], 4), (31, [8], [], 0), (1216, [8, 2, 7], [1, 2], 0), (90, [8], [], 0), (91, [8], [], 1), (0, [7], [], 2), (30, [6], [], 0), (20, [6, 2], [1], 13), (23, [2], [1], 12), (90, [6], [], 0), (91, [6], [], 2), (31, [5], [], 0), (5000, [0, 1, 2, 3, 4, 5], [0, 1], 22), (0, [0], [], 285), (90, [1], [], 0), (91, [1], [], 1007), (0, [2], [], 285), (90, [3], [], 0), (91, [3], [], 1007), (90, [4], [], 0), (91, [4], [], 5), (90, [5], [], 0), (91, [5], [], 1)], (4000, [2, 3, 21, 23], [7], 22))
theorem c_230y_22_13 {q0 : Nat} : vOkm T0 (eN e_230w L_230y (eAB A_230 B_230) mu_230 y_230 By_230 (some q0)) 2 g_230y_22_13 := vOk_inI fun ρ η f0 f1 f2 f3 f4 f5 f6 f7 f8 f9 f10 f11 f12 f13 f14 f15 f16 f17 f18 f19 f20 f21 f22 f23 f24 f25 f26 f27 f28 f29 f30 f31 f32 f33 f34 f35 f36 f37 f38 f39 f40 f41 f42 f43 f44 f45 f46 f47 f48 f49 f50 f51 f52 => q_230y_14 (q0 := q0) (n0 := ρ 5) (n1 := ρ 4) (n2 := ρ 3) (n3 := ρ 2) (n4 := ρ 1) (n5 := ρ 0) (n6 := ρ 6) (n7 := ρ 7) (n8 := ρ 8) (n9 := ρ 9) (n10 := ρ 10) (n11 := ρ 11) (n12 := ρ 12) (n13 := ρ 13) (n14 := ρ 14) (n15 := ρ 15) (n16 := ρ 16) (n17 := ρ 17) (n18 := ρ 18) (n19 := ρ 19) (n20 := ρ 20) (n21 := ρ 21) (n22 := ρ 22) (n23 := ρ 23) (H0 := η 0) (H1 := η 1) (H2 := η 2) (H3 := η 3) (H4 := η 4) (H5 := η 5) (H6 := η 6) (H7 := η 7) f52 f51 f50 f49 f48 f47 f46 f45 f44 f43 f42 f41 f40 f39 f38 f37 f36 f35 f34 f33 f32 f31 f30 f29 f28 f27 f26 f25 f24 f23 f22 f21 f20 f19 f18 f17 f16 f15 f14 f13 f12 f11 f10 f9 f8 f7 f6 f5 f4 f3 f2 f1 f0
def p_230y_22 : List vG := [g_230y_22_0,
  g_230y_22_1,
  g_230y_22_2,
  g_230y_22_3,
  g_230y_22_4,
  g_230y_22_5,
  g_230y_22_6,
  g_230y_22_7,
  g_230y_22_8,
  g_230y_22_9,
  g_230y_22_10,
  g_230y_22_11,
  g_230y_22_12,
  g_230y_22_13]
theorem r_230y_22 : vCovBO (eRc e_230w L_230w cs_230 2000 (22, [(0, (3, 12, 285, 0)), (1, (0, 0, 1007, 0)), (2, (0, 0, 5, 0)), (3, (0, 0, 1, 0))])) p_230y_22 = true := by decide +kernel
theorem o_230y : eOK e_230y L_230y cs_230 2000 (eAB (eAB A_230 B_230) By_230) mu_230 := eOK_ref (p1 := p_230y_s) o_230w (sub0 (sub0 (sub0 (sub0 (sub1 trivial))))) r_230y_s (allC c_230y_s_0 allN) (allC ⟨p_230y_22, r_230y_22, fun q0 => (allC c_230y_22_0 (allC c_230y_22_1 (allC c_230y_22_2 (allC c_230y_22_3 (allC c_230y_22_4 (allC c_230y_22_5 (allC c_230y_22_6 (allC c_230y_22_7 (allC c_230y_22_8 (allC c_230y_22_9 (allC c_230y_22_10 (allC c_230y_22_11 (allC c_230y_22_12 (allC c_230y_22_13 allN))))))))))))))⟩ allN)
theorem m_230y (d : Nat) : eC e_230y (d + 5) := eC_OK (d := d + 4) o_230y rfl ⟨m_216 (d + 3), ⟨m_217w (d + 3), ⟨m_219w (d + 2), ⟨m_220w (d + 1), ⟨m_223y d, trivial⟩⟩⟩⟩⟩ rfl (.inl rfl) (by decide +kernel)
