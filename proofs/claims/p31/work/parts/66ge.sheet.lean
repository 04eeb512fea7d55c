/-! CONTRACTS of methods told more fully. -/
/- MixStageModel.tellCues ()V, more fully still -/
theorem o_226 : eOK e_226 L_226 cs_226 2000 A_226 mu_226 := eOK_of (tp := false) (p0 := p_226_s) (fun z => nomatch z) r_226_s (allC c_226_s_0 allN) (allC (.inl ⟨p_226_20, r_226_20, fun q0 => (allC c_226_20_0 (allC c_226_20_1 (allC c_226_20_2 (allC c_226_20_3 allN))))⟩) allN)
theorem o_226w : eOK e_226w L_226w cs_226 2000 (eAB A_226 B_226) mu_226 := eOK_ref (p1 := p_226w_s) o_226 (sub0 (sub1 (sub1 trivial))) r_226w_s (allC c_226w_s_0 allN) (allC ⟨p_226w_20, r_226w_20, fun q0 => (allC c_226w_20_0 (allC c_226w_20_1 (allC c_226w_20_2 allN)))⟩ allN)
def yb_226 (a0 : Int) (h0 h : gH) : Prop := RI h0 → (hV h0 285 13 = 0 → ZR h0) → CRl h0 h (16 * hV h0 285 33) ∧ (∀ k : Nat, ¬ (k : Int) = hV h0 285 33 → hV h 296 (k) = hV h0 296 (k)) ∧ (hV h 285 13 = 0 → 0 ≤ hV h 296 ((hV h0 285 33).toNat) ∧ hV h 296 ((hV h0 285 33).toNat) ≤ 16 ∧ lsR h (hV h0 285 33).toNat (hV h 296 ((hV h0 285 33).toNat)).toNat = pDr (vwR h0) (BLr h0) 16 (absR h0))
def y_226 : List Int → gH → gH → Prop := fun xs h0 h => match xs with
  | [a0] => yb_226 a0 h0 h
  | _ => True
noncomputable def e_226y : vE := eV e_226w y_226
noncomputable def L_226y : List vE := [e_216, e_220w, e_227y]
def Byb_226_20 (a0 x0 : Int) (h0 h : gH) : Prop := RI h0 → (hV h0 285 13 = 0 → ZR h0) → CRl h0 h (16 * hV h0 285 33) ∧ (∀ k : Nat, ¬ (k : Int) = hV h0 285 33 → hV h 296 (k) = hV h0 296 (k)) ∧ (hV h 285 13 = 0 → lsR h (hV h0 285 33).toNat (hV h 296 ((hV h0 285 33).toNat)).toNat ++ pDr (vwR h0) (BLr h0) (16 - hV h 296 ((hV h0 285 33).toNat)).toNat (absR h) = pDr (vwR h0) (BLr h0) 16 (absR h0))
def By_226 : Int → List Int → gH → gH → Prop := fun c xs h0 h => match c.toNat with
  | 20 => (match xs with
    | [a0, x0] => Byb_226_20 a0 x0 h0 h
    | _ => False)
  | _ => True
theorem q_226y_0 {n0 n1 n2 n3 n4 n5 n6 : Int} {H0 H1 H2 : gH} (f0 : n0 = 285) (f1 : hWt T0 H0 ∧ preb_226 n0 H0) (f2 : n1 = 296) (f3 : hK H0 (n0).toNat = 12) (f4 : n1 = hV H0 (n0).toNat 22) (f5 : n2 ≤ 62) (f6 : 0 ≤ n2) (f7 : hK H0 (n0).toNat = 12) (f8 : n2 = hV H0 (n0).toNat 33) (f9 : n3 = 0) (f10 : hK H0 (n1).toNat = 196) (f11 : hUpd H1 H0 n1 n2 n3) (f12 : n4 = 297) (f13 : hK H1 (n0).toNat = 12) (f14 : n4 = hV H1 (n0).toNat 23) (f15 : n5 ≤ 62) (f16 : 0 ≤ n5) (f17 : hK H1 (n0).toNat = 12) (f18 : n5 = hV H1 (n0).toNat 33) (f19 : n6 = 0) (f20 : hK H1 (n4).toNat = 204) (f21 : hUpd H2 H1 n4 n5 n6) : Byb_226_20 n0 n0 H0 H2 := by
  unfold Byb_226_20
  intro z zr
  have d8 := rdS (q := 285) f8 f0
  have d18 := rdS (q := 285) f18 f0
  have p0 := PR_row (q := 296) f11 f2 (by decide) z
  have v0 : vwR H1 = vwR H0 := p0.2.1
  have ah0 : absR H1 = (absR H0) := p0.1
  have p1 := PR_row (q := 297) f21 f12 (by decide) p0.2.2.1
  have v1 : vwR H2 = vwR H0 := p1.2.1.trans v0
  have ah1 : absR H2 = (absR H0) := p1.1.trans ah0
  have h33_0 : n2 = hV H0 285 33 := by rw [d8, show hV H0 285 33 = hV H0 285 33 from rfl]
  have h33_1 : n5 = hV H0 285 33 := by rw [d18, show hV H1 285 33 = hV H0 285 33 from uPlace f11 285 33 (by rw [f2]; decide)]
  have g33 := f1.1 285 33 _ _ rW_33
  have u1 : hV H1 296 = uF (hV H0 296) n2 n3 := uRow f11 296 f2.symm
  have pe : hV H2 296 = hV H1 296 := uRowNe f21 296 (by rw [f12]; decide)
  have z1_ := f9
  rw [z1_] at u1
  have em : hV H2 296 (hV H0 285 33).toNat = 0 := by rw [pe, u1, uF_at, if_pos (by omega)]
  rw [em]
  refine ⟨CRl_8 (CR8_tr (CR8_lo (q := 296) f11 f2 (by decide)) (CR8_lo (q := 297) f21 f12 (by decide))), fun k hk => by rw [pe, u1, uF_at, if_neg (by omega)], fun _ => ?_⟩
  rw [ah1]
  rfl
def g_226y_s_0 : vG := ([(80, [4, 5, 6], [2, 1], 0), (23, [4], [1], 204), (0, [6], [], 0), (20, [5, 0], [1], 33), (23, [0], [1], 12), (90, [5], [], 0), (91, [5], [], 62), (20, [4, 0], [1], 23), (23, [0], [1], 12), (0, [4], [], 297), (80, [1, 2, 3], [1, 0], 0), (23, [1], [0], 196), (0, [3], [], 0), (20, [2, 0], [0], 33), (23, [0], [0], 12), (90, [2], [], 0), (91, [2], [], 62), (20, [1, 0], [0], 22), (23, [0], [0], 12), (0, [1], [], 296), (6000, [0], [0], 0), (0, [0], [], 285)], (4000, [0], [2], 20))
theorem c_226y_s_0 : vOkm T0 (eN e_226w L_226y (eAB A_226 B_226) mu_226 y_226 By_226 none) 1 g_226y_s_0 := vOk_inI fun ρ η f0 f1 f2 f3 f4 f5 f6 f7 f8 f9 f10 f11 f12 f13 f14 f15 f16 f17 f18 f19 f20 f21 => q_226y_0 (n0 := ρ 0) (n1 := ρ 1) (n2 := ρ 2) (n3 := ρ 3) (n4 := ρ 4) (n5 := ρ 5) (n6 := ρ 6) (H0 := η 0) (H1 := η 1) (H2 := η 2) f21 f20 f19 f18 f17 f16 f15 f14 f13 f12 f11 f10 f9 f8 f7 f6 f5 f4 f3 f2 f1 f0
def p_226y_s : List vG := [g_226y_s_0]
theorem r_226y_s : vCovBO (eR0 e_226w L_226w cs_226 2000) p_226y_s = true := by decide +kernel
theorem q_226y_1 {q0 : Nat} {n0 n1 n2 n3 : Int} {H0 H1 H2 : gH} (f0 : n0 = 285) (f1 : n1 = 285) (f2 : (hLe T0 H0 H1 ∧ hFr s_226.2.2.2.2 H0 H1 ∧ hWt T0 H1) ∧ (((Ab_226_20 n1 n0 H0 H1 ∧ Bb_226_20 n1 n0 H0 H1) ∧ Byb_226_20 n1 n0 H0 H1) ∧ preb_226 n1 H0) ∧ some q0 = some (mub_226_20 n1 n0 H0 H1)) (f3 : n2 ≤ 2) (f4 : 0 ≤ n2) (f5 : hK H1 (n0).toNat = 12) (f6 : n2 = hV H1 (n0).toNat 13) (f7 : n2 ≠ 0) (f8 : n3 = 21) (f9 : (hLe T0 H1 H2 ∧ hFr s_220.2.2.2.2 H1 H2 ∧ ((0 : Int) = 0 → H2.length = H1.length) ∧ hWt T0 H2) ∧ (postb_220 n0 n3 H1 H2 ∧ nb_220 n0 n3 H1 H2)) : yb_226 n1 H0 H2 := by
  unfold yb_226
  intro z zr
  have ga := f2.2.1.1.1.2
  unfold Bb_226_20 at ga
  obtain ⟨z1, mb, y1, y2, sz⟩ := ga z zr
  have vz : vwR H1 = vwR H0 := vwR_fr f2.1.2.1 (by decide +kernel)
  have gy := f2.2.1.1.2
  unfold Byb_226_20 at gy
  obtain ⟨cl, cp, ct⟩ := gy z zr
  have d6 := rdS (q := 285) f6 f0
  have q7 := f7
  have fx : hV H1 285 33 = hV H0 285 33 := f2.1.2.1.1 285 33 (by decide +kernel)
  have f32_ : hV H1 285 32 = hV H0 285 32 := f2.1.2.1.1 285 32 (by decide +kernel)
  have pr := f2.2.1.2
  unfold preb_226 at pr
  have g32 : (0 : Int) ≤ hV H0 285 32 ∧ hV H0 285 32 ≤ 100 := by
    have q := f2.1.2.2 285 32 _ _ rW_32
    rw [f2.1.2.1.1 285 32 (by decide +kernel)] at q
    exact q
  have g33 := f2.1.2.2 285 33 _ _ rW_33
  rw [fx] at g33
  have c0 := f9.2.2 z1 (by rw [f8]; decide)
  try rw [f8] at c0
  rw [vz, kmc_21] at c0
  have v0 : vwR H2 = vwR H0 := (vwR_fr f9.1.2.1 (by decide +kernel)).trans vz
  have e8 : CR8 H1 H2 := (CR8_fr f9.1.2.1 (by decide +kernel))
  have p296 : hV H2 296 = hV H1 296 := fRow f9.1.2.1 296 (by decide +kernel)
  refine ⟨CRl_tr cl (CRl_8 e8), fun k hk => by rw [p296]; exact cp k hk, fun hf => ?_⟩
  have hzH1 := fzR z1 c0.1 rfl c0.2 (fun n k => ptk_neg n k) hf
  have fz := hzH1.1
  exfalso
  omega
def g_226y_20_0 : vG := ([(1220, [1, 3], [1, 2], 0), (0, [3], [], 21), (31, [2], [], 0), (20, [2, 1], [1], 13), (23, [1], [1], 12), (90, [2], [], 0), (91, [2], [], 2), (5000, [0, 1], [0, 1], 20), (0, [0], [], 285), (0, [1], [], 285)], (3000, [], [2], 49))
theorem c_226y_20_0 {q0 : Nat} : vOkm T0 (eN e_226w L_226y (eAB A_226 B_226) mu_226 y_226 By_226 (some q0)) 1 g_226y_20_0 := vOk_inI fun ρ η f0 f1 f2 f3 f4 f5 f6 f7 f8 f9 => q_226y_1 (q0 := q0) (n0 := ρ 1) (n1 := ρ 0) (n2 := ρ 2) (n3 := ρ 3) (H0 := η 0) (H1 := η 1) (H2 := η 2) f9 f8 f7 f6 f5 f4 f3 f2 f1 f0
theorem q_226y_2 {q0 : Nat} {n0 n1 n2 n3 n4 n5 : Int} {H0 H1 H2 H3 : gH} (f0 : n0 = 285) (f1 : n1 = 285) (f2 : (hLe T0 H0 H1 ∧ hFr s_226.2.2.2.2 H0 H1 ∧ hWt T0 H1) ∧ (((Ab_226_20 n1 n0 H0 H1 ∧ Bb_226_20 n1 n0 H0 H1) ∧ Byb_226_20 n1 n0 H0 H1) ∧ preb_226 n1 H0) ∧ some q0 = some (mub_226_20 n1 n0 H0 H1)) (f3 : n2 ≤ 2) (f4 : 0 ≤ n2) (f5 : hK H1 (n0).toNat = 12) (f6 : n2 = hV H1 (n0).toNat 13) (f7 : n2 = 0) (f8 : n3 = 21) (f9 : n4 ≤ 1) (f10 : 0 ≤ n4) (f11 : (hLe T0 H1 H2 ∧ hFr s_216.2.2.2.2 H1 H2 ∧ ((0 : Int) = 0 → H2.length = H1.length) ∧ hWt T0 H2) ∧ postb_216 n4 n0 n3 H1 H2) (f12 : n4 ≠ 0) (f13 : n5 = 21) (f14 : (hLe T0 H2 H3 ∧ hFr s_220.2.2.2.2 H2 H3 ∧ ((0 : Int) = 0 → H3.length = H2.length) ∧ hWt T0 H3) ∧ (postb_220 n0 n5 H2 H3 ∧ nb_220 n0 n5 H2 H3)) : yb_226 n1 H0 H3 := by
  unfold yb_226
  intro z zr
  have ga := f2.2.1.1.1.2
  unfold Bb_226_20 at ga
  obtain ⟨z1, mb, y1, y2, sz⟩ := ga z zr
  have vz : vwR H1 = vwR H0 := vwR_fr f2.1.2.1 (by decide +kernel)
  have gy := f2.2.1.1.2
  unfold Byb_226_20 at gy
  obtain ⟨cl, cp, ct⟩ := gy z zr
  have d6 := rdS (q := 285) f6 f0
  have q7 := f7
  have q12 := f12
  have fx : hV H1 285 33 = hV H0 285 33 := f2.1.2.1.1 285 33 (by decide +kernel)
  have f32_ : hV H1 285 32 = hV H0 285 32 := f2.1.2.1.1 285 32 (by decide +kernel)
  have pr := f2.2.1.2
  unfold preb_226 at pr
  have g32 : (0 : Int) ≤ hV H0 285 32 ∧ hV H0 285 32 ≤ 100 := by
    have q := f2.1.2.2 285 32 _ _ rW_32
    rw [f2.1.2.1.1 285 32 (by decide +kernel)] at q
    exact q
  have g33 := f2.1.2.2 285 33 _ _ rW_33
  rw [fx] at g33
  have p0 := PR_fr f11.1.2.1 (by decide +kernel) z1
  have v0 : vwR H2 = vwR H0 := p0.2.1.trans vz
  have ah0 : absR H2 = (absR H1) := p0.1
  have i0 := f11.2
  unfold postb_216 at i0
  rw [f8] at i0
  have cm0 := f12
  have b0 := (isR_or (k := 21) p0.2.2.1 (by decide) i0).resolve_right (fun w => cm0 w.1)
  replace b0 := b0.2
  rw [v0, ah0, kmc_21] at b0
  have c1 := f14.2.2 p0.2.2.1 (by rw [f13]; decide)
  try rw [f13] at c1
  rw [v0, ah0, kmc_21] at c1
  have v1 : vwR H3 = vwR H0 := (vwR_fr f14.1.2.1 (by decide +kernel)).trans v0
  have e8 : CR8 H1 H3 := (CR8_tr (CR8_fr f11.1.2.1 (by decide +kernel)) (CR8_fr f14.1.2.1 (by decide +kernel)))
  have p296 : hV H3 296 = hV H1 296 := (fRow f14.1.2.1 296 (by decide +kernel)).trans (fRow f11.1.2.1 296 (by decide +kernel))
  refine ⟨CRl_tr cl (CRl_8 e8), fun k hk => by rw [p296]; exact cp k hk, fun hf => ?_⟩
  have hzH2 := fzR p0.2.2.1 c1.1 ah0 c1.2 (fun n k => ptk_neg n k) hf
  have hzH1 := fzR z1 p0.2.2.1 rfl ah0 (fun _ _ => rfl) hzH2.1
  have fz := hzH1.1
  have cc : ¬ (20 ≤ (vwR H0).1 (absR H1).1 ∧ (vwR H0).1 (absR H1).1 ≤ 25) := by have := b0; omega
  have e := ct fz
  rw [pDr_stop cc, List.append_nil] at e
  rw [p296]
  exact ⟨(mb fz).1, (mb fz).2, (lsR_eq (fun k _ => recR_eq (CRo_8 e8))).trans e⟩
def g_226y_20_1 : vG := ([(1220, [1, 5], [2, 3], 0), (0, [5], [], 21), (31, [4], [], 0), (1216, [4, 1, 3], [1, 2], 0), (90, [4], [], 0), (91, [4], [], 1), (0, [3], [], 21), (30, [2], [], 0), (20, [2, 1], [1], 13), (23, [1], [1], 12), (90, [2], [], 0), (91, [2], [], 2), (5000, [0, 1], [0, 1], 20), (0, [0], [], 285), (0, [1], [], 285)], (3000, [], [3], 49))
theorem c_226y_20_1 {q0 : Nat} : vOkm T0 (eN e_226w L_226y (eAB A_226 B_226) mu_226 y_226 By_226 (some q0)) 1 g_226y_20_1 := vOk_inI fun ρ η f0 f1 f2 f3 f4 f5 f6 f7 f8 f9 f10 f11 f12 f13 f14 => q_226y_2 (q0 := q0) (n0 := ρ 1) (n1 := ρ 0) (n2 := ρ 2) (n3 := ρ 3) (n4 := ρ 4) (n5 := ρ 5) (H0 := η 0) (H1 := η 1) (H2 := η 2) (H3 := η 3) f14 f13 f12 f11 f10 f9 f8 f7 f6 f5 f4 f3 f2 f1 f0
theorem q_226y_3 {q0 : Nat} {n0 n1 n2 n3 n4 : Int} {H0 H1 H2 H3 : gH} (f0 : n0 = 285) (f1 : n1 = 285) (f2 : (hLe T0 H0 H1 ∧ hFr s_226.2.2.2.2 H0 H1 ∧ hWt T0 H1) ∧ (((Ab_226_20 n1 n0 H0 H1 ∧ Bb_226_20 n1 n0 H0 H1) ∧ Byb_226_20 n1 n0 H0 H1) ∧ preb_226 n1 H0) ∧ some q0 = some (mub_226_20 n1 n0 H0 H1)) (f3 : n2 ≤ 2) (f4 : 0 ≤ n2) (f5 : hK H1 (n0).toNat = 12) (f6 : n2 = hV H1 (n0).toNat 13) (f7 : n2 = 0) (f8 : n3 = 21) (f9 : n4 ≤ 1) (f10 : 0 ≤ n4) (f11 : (hLe T0 H1 H2 ∧ hFr s_216.2.2.2.2 H1 H2 ∧ ((0 : Int) = 0 → H2.length = H1.length) ∧ hWt T0 H2) ∧ postb_216 n4 n0 n3 H1 H2) (f12 : n4 = 0) (f13 : (hLe T0 H2 H3 ∧ hFr s_227.2.2.2.2 H2 H3 ∧ ((0 : Int) = 0 → H3.length = H2.length) ∧ hWt T0 H3) ∧ ((postb_227 n0 H2 H3 ∧ nb_227 n0 H2 H3) ∧ yb_227 n0 H2 H3)) : Byb_226_20 n1 n0 H0 H3 := by
  unfold Byb_226_20
  intro z zr
  have ga := f2.2.1.1.1.2
  unfold Bb_226_20 at ga
  obtain ⟨z1, mb, y1, y2, sz⟩ := ga z zr
  have vz : vwR H1 = vwR H0 := vwR_fr f2.1.2.1 (by decide +kernel)
  have gy := f2.2.1.1.2
  unfold Byb_226_20 at gy
  obtain ⟨cl, cp, ct⟩ := gy z zr
  have d6 := rdS (q := 285) f6 f0
  have q7 := f7
  have q12 := f12
  have fx : hV H1 285 33 = hV H0 285 33 := f2.1.2.1.1 285 33 (by decide +kernel)
  have f32_ : hV H1 285 32 = hV H0 285 32 := f2.1.2.1.1 285 32 (by decide +kernel)
  have pr := f2.2.1.2
  unfold preb_226 at pr
  have g32 : (0 : Int) ≤ hV H0 285 32 ∧ hV H0 285 32 ≤ 100 := by
    have q := f2.1.2.2 285 32 _ _ rW_32
    rw [f2.1.2.1.1 285 32 (by decide +kernel)] at q
    exact q
  have g33 := f2.1.2.2 285 33 _ _ rW_33
  rw [fx] at g33
  have p0 := PR_fr f11.1.2.1 (by decide +kernel) z1
  have v0 : vwR H2 = vwR H0 := p0.2.1.trans vz
  have ah0 : absR H2 = (absR H1) := p0.1
  have i0 := f11.2
  unfold postb_216 at i0
  rw [f8] at i0
  have cm0 := f12
  have b0 := (isR_or (k := 21) p0.2.2.1 (by decide) i0).resolve_left (fun w => absurd (w.1.symm.trans cm0) (by decide))
  replace b0 := b0.2
  rw [v0, ah0, kmc_21] at b0
  have r294 : hV H2 294 = hV H1 294 := fRow f11.1.2.1 294 (by decide +kernel)
  have r295 : hV H2 295 = hV H1 295 := fRow f11.1.2.1 295 (by decide +kernel)
  have r296 : hV H2 296 = hV H1 296 := fRow f11.1.2.1 296 (by decide +kernel)
  have r297 : hV H2 297 = hV H1 297 := fRow f11.1.2.1 297 (by decide +kernel)
  have b294 : hV H1 294 = hV H0 294 := fRow f2.1.2.1 294 (by decide +kernel)
  have b295 : hV H1 295 = hV H0 295 := fRow f2.1.2.1 295 (by decide +kernel)
  have s32_ : hV H2 285 32 = hV H1 285 32 := f11.1.2.1.1 285 32 (by decide +kernel)
  have s33_ : hV H2 285 33 = hV H1 285 33 := f11.1.2.1.1 285 33 (by decide +kernel)
  have s13_ : hV H2 285 13 = hV H1 285 13 := f11.1.2.1.1 285 13 (by decide +kernel)
  have kp := BLr_keep (a := H0) (b := H2) (q := hV H0 285 33) (s32_.trans f32_) (r294.trans b294) (r295.trans b295) (fun k hk => by rw [r297]; exact sz k hk) g32.1 (by omega)
  have lo := z1.2.2.2.1
  have fz : hV H1 285 13 = 0 := by omega
  have mb1 := mb fz
  have zz : hV H2 285 13 = 0 → ZR H2 := fun _ => kp.2 (zr (Classical.byContradiction fun cz => by
    have hn0 := absR_neg z cz
    rw [pCuesR_neg hn0, ptk_neg hn0 (absR_ok z)] at y1
    have hp1 := absR_pos z1 fz
    exact absurd (show hV H0 285 13 = 0 by have := f2.2.1.1.1.1; unfold Ab_226_20 at this; have := z.2.2.2.1; omega) cz))
  have n := f13.2.1.2 p0.2.2.1 zz
  rw [kp.1, v0, ah0, r296, r297, s33_, fx] at n
  obtain ⟨n1, n2, n3, n4⟩ := n
  have y := f13.2.2
  unfold yb_227 at y
  have y := y p0.2.2.1 zz
  rw [kp.1, v0, ah0, r296, s33_, fx] at y
  obtain ⟨yc, yr⟩ := y
  have e8 : CR8 H1 H2 := (CR8_fr f11.1.2.1 (by decide +kernel))
  refine ⟨CRl_tr cl (CRl_tr (CRl_8 e8) (CRl_of yc (by omega))), fun k hk => ((n3 k hk).1).trans (cp k hk), fun c => ?_⟩
  have u := n4 c
  rcases n2 with ⟨_, w⟩ | ⟨_, _, _, w⟩ | ⟨w1, w2, w16, w⟩
  · exact absurd c (faultR_of n1 (by rw [w]; exact pfailR_lt z (by decide)))
  · exact absurd c (faultR_of n1 (by rw [w]; exact pfailR_lt z (by decide)))
  · have e := ct fz
    rw [show (16 - hV H1 296 (hV H0 285 33).toNat).toNat = (15 - hV H1 296 (hV H0 285 33).toNat).toNat + 1 by omega, pDr_step ⟨w1, w2⟩] at e
    have yr := yr c
    have cl2 : CRl H1 H3 (16 * hV H0 285 33 + hV H1 296 (hV H0 285 33).toNat) := CRl_tr (CRl_8 e8) (CRl_of yc (Int.le_refl _))
    rw [show (16 * hV H0 285 33 + hV H1 296 (hV H0 285 33).toNat).toNat = 16 * (hV H0 285 33).toNat + (hV H1 296 (hV H0 285 33).toNat).toNat by omega] at yr
    rw [u.1, w, show (hV H1 296 (hV H0 285 33).toNat + 1).toNat = (hV H1 296 (hV H0 285 33).toNat).toNat + 1 by omega, show (16 - (hV H1 296 (hV H0 285 33).toNat + 1)).toNat = (15 - hV H1 296 (hV H0 285 33).toNat).toNat by omega, lsR_snoc, yr, lsR_eq (a := H1) (fun k hk => recR_l cl2 (by omega))]
    exact e
def g_226y_20_2 : vG := ([(1227, [1], [2, 3], 0), (30, [4], [], 0), (1216, [4, 1, 3], [1, 2], 0), (90, [4], [], 0), (91, [4], [], 1), (0, [3], [], 21), (30, [2], [], 0), (20, [2, 1], [1], 13), (23, [1], [1], 12), (90, [2], [], 0), (91, [2], [], 2), (5000, [0, 1], [0, 1], 20), (0, [0], [], 285), (0, [1], [], 285)], (4000, [1], [3], 20))
theorem c_226y_20_2 {q0 : Nat} : vOkm T0 (eN e_226w L_226y (eAB A_226 B_226) mu_226 y_226 By_226 (some q0)) 1 g_226y_20_2 := vOk_inI fun ρ η f0 f1 f2 f3 f4 f5 f6 f7 f8 f9 f10 f11 f12 f13 => q_226y_3 (q0 := q0) (n0 := ρ 1) (n1 := ρ 0) (n2 := ρ 2) (n3 := ρ 3) (n4 := ρ 4) (H0 := η 0) (H1 := η 1) (H2 := η 2) (H3 := η 3) f13 f12 f11 f10 f9 f8 f7 f6 f5 f4 f3 f2 f1 f0
def p_226y_20 : List vG := [g_226y_20_0,
  g_226y_20_1,
  g_226y_20_2]
theorem r_226y_20 : vCovBO (eRc e_226w L_226w cs_226 2000 (20, [(0, (3, 12, 285, 0))])) p_226y_20 = true := by decide +kernel
theorem o_226y : eOK e_226y L_226y cs_226 2000 (eAB (eAB A_226 B_226) By_226) mu_226 := eOK_ref (p1 := p_226y_s) o_226w (sub0 (sub0 (sub1 trivial))) r_226y_s (allC c_226y_s_0 allN) (allC ⟨p_226y_20, r_226y_20, fun q0 => (allC c_226y_20_0 (allC c_226y_20_1 (allC c_226y_20_2 allN)))⟩ allN)
theorem m_226y (d : Nat) : eC e_226y (d + 8) := eC_OK (d := d + 7) o_226y rfl ⟨m_216 (d + 6), ⟨m_220w (d + 4), ⟨m_227y d, trivial⟩⟩⟩ rfl (.inl rfl) (by decide +kernel)
/- MixStageModel.tellBlock ()V, more fully still -/
theorem o_225 : eOK e_225 L_225 cs_225 2000 A_225 mu_225 := eOK_of (tp := false) (p0 := p_225_s) (fun z => nomatch z) r_225_s (allC c_225_s_0 (allC c_225_s_1 (allC c_225_s_2 (allC c_225_s_3 allN)))) (allC (.inl ⟨p_225_43, r_225_43, fun q0 => (allC c_225_43_0 (allC c_225_43_1 (allC c_225_43_2 (allC c_225_43_3 (allC c_225_43_4 (allC c_225_43_5 (allC c_225_43_6 (allC c_225_43_7 (allC c_225_43_8 (allC c_225_43_9 (allC c_225_43_10 (allC c_225_43_11 (allC c_225_43_12 (allC c_225_43_13 allN))))))))))))))⟩) allN)
theorem o_225w : eOK e_225w L_225w cs_225 2000 (eAB A_225 B_225) mu_225 := eOK_ref (p1 := p_225w_s) o_225 (sub1 (sub1 (sub1 (sub1 (sub1 trivial))))) r_225w_s (allC c_225w_s_0 (allC c_225w_s_1 (allC c_225w_s_2 (allC c_225w_s_3 allN)))) (allC ⟨p_225w_43, r_225w_43, fun q0 => (allC c_225w_43_0 (allC c_225w_43_1 (allC c_225w_43_2 allN)))⟩ allN)
def yb_225 (a0 : Int) (h0 h : gH) : Prop := RI h0 → ZR h0 → (vwR h0).1 (absR h0).1 = 16 → CRl h0 h (16 * (7 * hV h0 285 32 + hV h0 294 ((hV h0 285 32).toNat))) ∧ (∀ k : Nat, ¬ (k : Int) = (7 * hV h0 285 32 + hV h0 294 ((hV h0 285 32).toNat)) → hV h 296 (k) = hV h0 296 (k)) ∧ (hV h 285 13 = 0 → 0 ≤ hV h 296 ((7 * hV h0 285 32 + hV h0 294 ((hV h0 285 32).toNat)).toNat) ∧ hV h 296 ((7 * hV h0 285 32 + hV h0 294 ((hV h0 285 32).toNat)).toNat) ≤ 16 ∧ lsR h (7 * hV h0 285 32 + hV h0 294 ((hV h0 285 32).toNat)).toNat (hV h 296 ((7 * hV h0 285 32 + hV h0 294 ((hV h0 285 32).toNat)).toNat)).toNat = pDr (vwR h0) (BLr h0) 16 (pNm2 (vwR h0) (BLr h0) (ptk (vwR h0) 16 (absR h0))))
def y_225 : List Int → gH → gH → Prop := fun xs h0 h => match xs with
  | [a0] => yb_225 a0 h0 h
  | _ => True
noncomputable def e_225y : vE := eV e_225w y_225
noncomputable def L_225y : List vE := [e_217w, e_218w, e_219w, e_220w, e_226y]
def Byb_225_43 (a0 x0 x1 x2 : Int) (h0 h : gH) : Prop := RI h0 → ZR h0 → (vwR h0).1 (absR h0).1 = 16 → CR8 h0 h ∧ (hV h 296) = (hV h0 296)
def By_225 : Int → List Int → gH → gH → Prop := fun c xs h0 h => match c.toNat with
  | 43 => (match xs with
    | [a0, x0, x1, x2] => Byb_225_43 a0 x0 x1 x2 h0 h
    | _ => False)
  | _ => True
theorem q_225y_0 {n0 n1 n2 n3 n4 n5 n6 n7 n8 : Int} {H0 H1 H2 : gH} (f0 : n0 = 285) (f1 : hWt T0 H0 ∧ preb_225 n0 H0) (f2 : n1 = 294) (f3 : hK H0 (n0).toNat = 12) (f4 : n1 = hV H0 (n0).toNat 20) (f5 : n2 ≤ 7) (f6 : 0 ≤ n2) (f7 : hK H0 (n0).toNat = 12) (f8 : n2 = hV H0 (n0).toNat 32) (f9 : n3 ≤ 6) (f10 : 0 ≤ n3) (f11 : n3 = hV H0 (n1).toNat (n2).toNat) (f12 : n4 = 6) (f13 : n3 ≠ n4) (f14 : (hLe T0 H0 H1 ∧ hFr s_219.2.2.2.2 H0 H1 ∧ ((0 : Int) = 0 → H1.length = H0.length) ∧ hWt T0 H1) ∧ (postb_219 n0 H0 H1 ∧ nb_219 n0 H0 H1)) (f15 : n5 ≤ 500) (f16 : 0 ≤ n5) (f17 : hK H1 (n0).toNat = 12) (f18 : n5 = hV H1 (n0).toNat 11) (f19 : n6 = 1) (f20 : (hLe T0 H1 H2 ∧ hFr s_220.2.2.2.2 H1 H2 ∧ ((0 : Int) = 0 → H2.length = H1.length) ∧ hWt T0 H2) ∧ (postb_220 n0 n6 H1 H2 ∧ nb_220 n0 n6 H1 H2)) (f21 : n7 ≤ 2) (f22 : 0 ≤ n7) (f23 : hK H2 (n0).toNat = 12) (f24 : n7 = hV H2 (n0).toNat 13) (f25 : n7 ≤ 0) (f26 : n8 = 0) : Byb_225_43 n0 n0 n5 n8 H0 H2 := by
  unfold Byb_225_43
  intro z zr kd
  have d8 := rdS (q := 285) f8 f0
  have d11 := rdW (q := 294) f11 f2
  have d18 := rdS (q := 285) f18 f0
  have d24 := rdS (q := 285) f24 f0
  have q13 := f13
  have qc12 := f12
  have q25 := f25
  have p296 : hV H2 296 = hV H0 296 := (fRow f20.1.2.1 296 (by decide +kernel)).trans (fRow f14.1.2.1 296 (by decide +kernel))
  exact ⟨(CR8_tr (CR8_fr f14.1.2.1 (by decide +kernel)) (CR8_fr f20.1.2.1 (by decide +kernel))), p296⟩
def g_225y_s_0 : vG := ([(0, [8], [], 0), (35, [7], [], 0), (20, [7, 0], [2], 13), (23, [0], [2], 12), (90, [7], [], 0), (91, [7], [], 2), (1220, [0, 6], [1, 2], 0), (0, [6], [], 1), (20, [5, 0], [1], 11), (23, [0], [1], 12), (90, [5], [], 0), (91, [5], [], 500), (1219, [0], [0, 1], 0), (41, [3, 4], [], 0), (0, [4], [], 6), (22, [3, 1, 2], [0], 0), (90, [3], [], 0), (91, [3], [], 6), (20, [2, 0], [0], 32), (23, [0], [0], 12), (90, [2], [], 0), (91, [2], [], 7), (20, [1, 0], [0], 20), (23, [0], [0], 12), (0, [1], [], 294), (6000, [0], [0], 0), (0, [0], [], 285)], (4000, [0, 5, 8], [2], 43))
theorem c_225y_s_0 : vOkm T0 (eN e_225w L_225y (eAB A_225 B_225) mu_225 y_225 By_225 none) 1 g_225y_s_0 := vOk_inI fun ρ η f0 f1 f2 f3 f4 f5 f6 f7 f8 f9 f10 f11 f12 f13 f14 f15 f16 f17 f18 f19 f20 f21 f22 f23 f24 f25 f26 => q_225y_0 (n0 := ρ 0) (n1 := ρ 1) (n2 := ρ 2) (n3 := ρ 3) (n4 := ρ 4) (n5 := ρ 5) (n6 := ρ 6) (n7 := ρ 7) (n8 := ρ 8) (H0 := η 0) (H1 := η 1) (H2 := η 2) f26 f25 f24 f23 f22 f21 f20 f19 f18 f17 f16 f15 f14 f13 f12 f11 f10 f9 f8 f7 f6 f5 f4 f3 f2 f1 f0
theorem q_225y_1 {n0 n1 n2 n3 n4 n5 n6 n7 : Int} {H0 H1 H2 : gH} (f0 : n0 = 285) (f1 : hWt T0 H0 ∧ preb_225 n0 H0) (f2 : n1 = 294) (f3 : hK H0 (n0).toNat = 12) (f4 : n1 = hV H0 (n0).toNat 20) (f5 : n2 ≤ 7) (f6 : 0 ≤ n2) (f7 : hK H0 (n0).toNat = 12) (f8 : n2 = hV H0 (n0).toNat 32) (f9 : n3 ≤ 6) (f10 : 0 ≤ n3) (f11 : n3 = hV H0 (n1).toNat (n2).toNat) (f12 : n4 = 6) (f13 : n3 ≠ n4) (f14 : (hLe T0 H0 H1 ∧ hFr s_219.2.2.2.2 H0 H1 ∧ ((0 : Int) = 0 → H1.length = H0.length) ∧ hWt T0 H1) ∧ (postb_219 n0 H0 H1 ∧ nb_219 n0 H0 H1)) (f15 : n5 ≤ 500) (f16 : 0 ≤ n5) (f17 : hK H1 (n0).toNat = 12) (f18 : n5 = hV H1 (n0).toNat 11) (f19 : n6 = 1) (f20 : (hLe T0 H1 H2 ∧ hFr s_220.2.2.2.2 H1 H2 ∧ ((0 : Int) = 0 → H2.length = H1.length) ∧ hWt T0 H2) ∧ (postb_220 n0 n6 H1 H2 ∧ nb_220 n0 n6 H1 H2)) (f21 : n7 ≤ 2) (f22 : 0 ≤ n7) (f23 : hK H2 (n0).toNat = 12) (f24 : n7 = hV H2 (n0).toNat 13) (f25 : 0 < n7) : yb_225 n0 H0 H2 := by
  unfold yb_225
  intro z zr kd
  have d8 := rdS (q := 285) f8 f0
  have d11 := rdW (q := 294) f11 f2
  have d18 := rdS (q := 285) f18 f0
  have d24 := rdS (q := 285) f24 f0
  have q13 := f13
  have qc12 := f12
  have q25 := f25
  have p296 : hV H2 296 = hV H0 296 := (fRow f20.1.2.1 296 (by decide +kernel)).trans (fRow f14.1.2.1 296 (by decide +kernel))
  exact ⟨CRl_8 (CR8_tr (CR8_fr f14.1.2.1 (by decide +kernel)) (CR8_fr f20.1.2.1 (by decide +kernel))), fun k _ => by rw [p296], fun hf => by exfalso; omega⟩
def g_225y_s_1 : vG := ([(34, [7], [], 0), (20, [7, 0], [2], 13), (23, [0], [2], 12), (90, [7], [], 0), (91, [7], [], 2), (1220, [0, 6], [1, 2], 0), (0, [6], [], 1), (20, [5, 0], [1], 11), (23, [0], [1], 12), (90, [5], [], 0), (91, [5], [], 500), (1219, [0], [0, 1], 0), (41, [3, 4], [], 0), (0, [4], [], 6), (22, [3, 1, 2], [0], 0), (90, [3], [], 0), (91, [3], [], 6), (20, [2, 0], [0], 32), (23, [0], [0], 12), (90, [2], [], 0), (91, [2], [], 7), (20, [1, 0], [0], 20), (23, [0], [0], 12), (0, [1], [], 294), (6000, [0], [0], 0), (0, [0], [], 285)], (3000, [], [2], 40))
theorem c_225y_s_1 : vOkm T0 (eN e_225w L_225y (eAB A_225 B_225) mu_225 y_225 By_225 none) 1 g_225y_s_1 := vOk_inI fun ρ η f0 f1 f2 f3 f4 f5 f6 f7 f8 f9 f10 f11 f12 f13 f14 f15 f16 f17 f18 f19 f20 f21 f22 f23 f24 f25 => q_225y_1 (n0 := ρ 0) (n1 := ρ 1) (n2 := ρ 2) (n3 := ρ 3) (n4 := ρ 4) (n5 := ρ 5) (n6 := ρ 6) (n7 := ρ 7) (H0 := η 0) (H1 := η 1) (H2 := η 2) f25 f24 f23 f22 f21 f20 f19 f18 f17 f16 f15 f14 f13 f12 f11 f10 f9 f8 f7 f6 f5 f4 f3 f2 f1 f0
theorem q_225y_2 {n0 n1 n2 n3 n4 n5 n6 n7 n8 n9 : Int} {H0 H1 H2 H3 : gH} (f0 : n0 = 285) (f1 : hWt T0 H0 ∧ preb_225 n0 H0) (f2 : n1 = 294) (f3 : hK H0 (n0).toNat = 12) (f4 : n1 = hV H0 (n0).toNat 20) (f5 : n2 ≤ 7) (f6 : 0 ≤ n2) (f7 : hK H0 (n0).toNat = 12) (f8 : n2 = hV H0 (n0).toNat 32) (f9 : n3 ≤ 6) (f10 : 0 ≤ n3) (f11 : n3 = hV H0 (n1).toNat (n2).toNat) (f12 : n4 = 6) (f13 : n3 = n4) (f14 : n5 = 2) (f15 : (hLe T0 H0 H1 ∧ hFr s_217.2.2.2.2 H0 H1 ∧ ((0 : Int) = 0 → H1.length = H0.length) ∧ hWt T0 H1) ∧ (postb_217 n0 n5 H0 H1 ∧ nb_217 n0 n5 H0 H1)) (f16 : (hLe T0 H1 H2 ∧ hFr s_219.2.2.2.2 H1 H2 ∧ ((0 : Int) = 0 → H2.length = H1.length) ∧ hWt T0 H2) ∧ (postb_219 n0 H1 H2 ∧ nb_219 n0 H1 H2)) (f17 : n6 ≤ 500) (f18 : 0 ≤ n6) (f19 : hK H2 (n0).toNat = 12) (f20 : n6 = hV H2 (n0).toNat 11) (f21 : n7 = 1) (f22 : (hLe T0 H2 H3 ∧ hFr s_220.2.2.2.2 H2 H3 ∧ ((0 : Int) = 0 → H3.length = H2.length) ∧ hWt T0 H3) ∧ (postb_220 n0 n7 H2 H3 ∧ nb_220 n0 n7 H2 H3)) (f23 : n8 ≤ 2) (f24 : 0 ≤ n8) (f25 : hK H3 (n0).toNat = 12) (f26 : n8 = hV H3 (n0).toNat 13) (f27 : n8 ≤ 0) (f28 : n9 = 0) : Byb_225_43 n0 n0 n6 n9 H0 H3 := by
  unfold Byb_225_43
  intro z zr kd
  have d8 := rdS (q := 285) f8 f0
  have d11 := rdW (q := 294) f11 f2
  have d20 := rdS (q := 285) f20 f0
  have d26 := rdS (q := 285) f26 f0
  have q13 := f13
  have qc12 := f12
  have q27 := f27
  have p296 : hV H3 296 = hV H0 296 := (fRow f22.1.2.1 296 (by decide +kernel)).trans ((fRow f16.1.2.1 296 (by decide +kernel)).trans (fRow f15.1.2.1 296 (by decide +kernel)))
  exact ⟨(CR8_tr (CR8_fr f15.1.2.1 (by decide +kernel)) (CR8_tr (CR8_fr f16.1.2.1 (by decide +kernel)) (CR8_fr f22.1.2.1 (by decide +kernel)))), p296⟩
def g_225y_s_2 : vG := ([(0, [9], [], 0), (35, [8], [], 0), (20, [8, 0], [3], 13), (23, [0], [3], 12), (90, [8], [], 0), (91, [8], [], 2), (1220, [0, 7], [2, 3], 0), (0, [7], [], 1), (20, [6, 0], [2], 11), (23, [0], [2], 12), (90, [6], [], 0), (91, [6], [], 500), (1219, [0], [1, 2], 0), (1217, [0, 5], [0, 1], 0), (0, [5], [], 2), (40, [3, 4], [], 0), (0, [4], [], 6), (22, [3, 1, 2], [0], 0), (90, [3], [], 0), (91, [3], [], 6), (20, [2, 0], [0], 32), (23, [0], [0], 12), (90, [2], [], 0), (91, [2], [], 7), (20, [1, 0], [0], 20), (23, [0], [0], 12), (0, [1], [], 294), (6000, [0], [0], 0), (0, [0], [], 285)], (4000, [0, 6, 9], [3], 43))
theorem c_225y_s_2 : vOkm T0 (eN e_225w L_225y (eAB A_225 B_225) mu_225 y_225 By_225 none) 1 g_225y_s_2 := vOk_inI fun ρ η f0 f1 f2 f3 f4 f5 f6 f7 f8 f9 f10 f11 f12 f13 f14 f15 f16 f17 f18 f19 f20 f21 f22 f23 f24 f25 f26 f27 f28 => q_225y_2 (n0 := ρ 0) (n1 := ρ 1) (n2 := ρ 2) (n3 := ρ 3) (n4 := ρ 4) (n5 := ρ 5) (n6 := ρ 6) (n7 := ρ 7) (n8 := ρ 8) (n9 := ρ 9) (H0 := η 0) (H1 := η 1) (H2 := η 2) (H3 := η 3) f28 f27 f26 f25 f24 f23 f22 f21 f20 f19 f18 f17 f16 f15 f14 f13 f12 f11 f10 f9 f8 f7 f6 f5 f4 f3 f2 f1 f0
theorem q_225y_3 {n0 n1 n2 n3 n4 n5 n6 n7 n8 : Int} {H0 H1 H2 H3 : gH} (f0 : n0 = 285) (f1 : hWt T0 H0 ∧ preb_225 n0 H0) (f2 : n1 = 294) (f3 : hK H0 (n0).toNat = 12) (f4 : n1 = hV H0 (n0).toNat 20) (f5 : n2 ≤ 7) (f6 : 0 ≤ n2) (f7 : hK H0 (n0).toNat = 12) (f8 : n2 = hV H0 (n0).toNat 32) (f9 : n3 ≤ 6) (f10 : 0 ≤ n3) (f11 : n3 = hV H0 (n1).toNat (n2).toNat) (f12 : n4 = 6) (f13 : n3 = n4) (f14 : n5 = 2) (f15 : (hLe T0 H0 H1 ∧ hFr s_217.2.2.2.2 H0 H1 ∧ ((0 : Int) = 0 → H1.length = H0.length) ∧ hWt T0 H1) ∧ (postb_217 n0 n5 H0 H1 ∧ nb_217 n0 n5 H0 H1)) (f16 : (hLe T0 H1 H2 ∧ hFr s_219.2.2.2.2 H1 H2 ∧ ((0 : Int) = 0 → H2.length = H1.length) ∧ hWt T0 H2) ∧ (postb_219 n0 H1 H2 ∧ nb_219 n0 H1 H2)) (f17 : n6 ≤ 500) (f18 : 0 ≤ n6) (f19 : hK H2 (n0).toNat = 12) (f20 : n6 = hV H2 (n0).toNat 11) (f21 : n7 = 1) (f22 : (hLe T0 H2 H3 ∧ hFr s_220.2.2.2.2 H2 H3 ∧ ((0 : Int) = 0 → H3.length = H2.length) ∧ hWt T0 H3) ∧ (postb_220 n0 n7 H2 H3 ∧ nb_220 n0 n7 H2 H3)) (f23 : n8 ≤ 2) (f24 : 0 ≤ n8) (f25 : hK H3 (n0).toNat = 12) (f26 : n8 = hV H3 (n0).toNat 13) (f27 : 0 < n8) : yb_225 n0 H0 H3 := by
  unfold yb_225
  intro z zr kd
  have d8 := rdS (q := 285) f8 f0
  have d11 := rdW (q := 294) f11 f2
  have d20 := rdS (q := 285) f20 f0
  have d26 := rdS (q := 285) f26 f0
  have q13 := f13
  have qc12 := f12
  have q27 := f27
  have p296 : hV H3 296 = hV H0 296 := (fRow f22.1.2.1 296 (by decide +kernel)).trans ((fRow f16.1.2.1 296 (by decide +kernel)).trans (fRow f15.1.2.1 296 (by decide +kernel)))
  exact ⟨CRl_8 (CR8_tr (CR8_fr f15.1.2.1 (by decide +kernel)) (CR8_tr (CR8_fr f16.1.2.1 (by decide +kernel)) (CR8_fr f22.1.2.1 (by decide +kernel)))), fun k _ => by rw [p296], fun hf => by exfalso; omega⟩
def g_225y_s_3 : vG := ([(34, [8], [], 0), (20, [8, 0], [3], 13), (23, [0], [3], 12), (90, [8], [], 0), (91, [8], [], 2), (1220, [0, 7], [2, 3], 0), (0, [7], [], 1), (20, [6, 0], [2], 11), (23, [0], [2], 12), (90, [6], [], 0), (91, [6], [], 500), (1219, [0], [1, 2], 0), (1217, [0, 5], [0, 1], 0), (0, [5], [], 2), (40, [3, 4], [], 0), (0, [4], [], 6), (22, [3, 1, 2], [0], 0), (90, [3], [], 0), (91, [3], [], 6), (20, [2, 0], [0], 32), (23, [0], [0], 12), (90, [2], [], 0), (91, [2], [], 7), (20, [1, 0], [0], 20), (23, [0], [0], 12), (0, [1], [], 294), (6000, [0], [0], 0), (0, [0], [], 285)], (3000, [], [3], 40))
theorem c_225y_s_3 : vOkm T0 (eN e_225w L_225y (eAB A_225 B_225) mu_225 y_225 By_225 none) 1 g_225y_s_3 := vOk_inI fun ρ η f0 f1 f2 f3 f4 f5 f6 f7 f8 f9 f10 f11 f12 f13 f14 f15 f16 f17 f18 f19 f20 f21 f22 f23 f24 f25 f26 f27 => q_225y_3 (n0 := ρ 0) (n1 := ρ 1) (n2 := ρ 2) (n3 := ρ 3) (n4 := ρ 4) (n5 := ρ 5) (n6 := ρ 6) (n7 := ρ 7) (n8 := ρ 8) (H0 := η 0) (H1 := η 1) (H2 := η 2) (H3 := η 3) f27 f26 f25 f24 f23 f22 f21 f20 f19 f18 f17 f16 f15 f14 f13 f12 f11 f10 f9 f8 f7 f6 f5 f4 f3 f2 f1 f0
def p_225y_s : List vG := [g_225y_s_0,
  g_225y_s_1,
  g_225y_s_2,
  g_225y_s_3]
theorem r_225y_s : vCovBO (eR0 e_225w L_225w cs_225 2000) p_225y_s = true := by decide +kernel
theorem q_225y_4 {q0 : Nat} {n0 n1 n2 n3 n4 n5 n6 n7 n8 n9 n10 n11 n12 n13 n14 n15 n16 n17 n18 n19 n20 n21 n22 n23 n24 n25 n26 n27 n28 n29 : Int} {H0 H1 H2 H3 H4 H5 : gH} (f0 : n0 ≤ 6) (f1 : 0 ≤ n0) (f2 : n1 ≤ 500) (f3 : 0 ≤ n1) (f4 : n2 = 285) (f5 : n3 = 285) (f6 : (hLe T0 H0 H1 ∧ hFr s_225.2.2.2.2 H0 H1 ∧ hWt T0 H1) ∧ (((Ab_225_43 n3 n2 n1 n0 H0 H1 ∧ Bb_225_43 n3 n2 n1 n0 H0 H1) ∧ Byb_225_43 n3 n2 n1 n0 H0 H1) ∧ preb_225 n3 H0) ∧ some q0 = some (mub_225_43 n3 n2 n1 n0 H0 H1)) (f7 : n4 = 294) (f8 : hK H1 (n2).toNat = 12) (f9 : n4 = hV H1 (n2).toNat 20) (f10 : n5 ≤ 7) (f11 : 0 ≤ n5) (f12 : hK H1 (n2).toNat = 12) (f13 : n5 = hV H1 (n2).toNat 32) (f14 : n6 ≤ 6) (f15 : 0 ≤ n6) (f16 : n6 = hV H1 (n4).toNat (n5).toNat) (f17 : n6 ≤ n0) (f18 : n7 = 295) (f19 : hK H1 (n2).toNat = 12) (f20 : n7 = hV H1 (n2).toNat 21) (f21 : n8 = 6) (f22 : n9 ≤ 7) (f23 : 0 ≤ n9) (f24 : hK H1 (n2).toNat = 12) (f25 : n9 = hV H1 (n2).toNat 32) (f26 : n10 = w32 (n8 * n9)) (f27 : n11 = 294) (f28 : hK H1 (n2).toNat = 12) (f29 : n11 = hV H1 (n2).toNat 20) (f30 : n12 ≤ 7) (f31 : 0 ≤ n12) (f32 : hK H1 (n2).toNat = 12) (f33 : n12 = hV H1 (n2).toNat 32) (f34 : n13 ≤ 6) (f35 : 0 ≤ n13) (f36 : n13 = hV H1 (n11).toNat (n12).toNat) (f37 : n14 = w32 (n10 + n13)) (f38 : n15 = 291) (f39 : hK H1 (n2).toNat = 12) (f40 : n15 = hV H1 (n2).toNat 8) (f41 : n16 = hV H1 (n15).toNat (n1).toNat) (f42 : hK H1 (n7).toNat = 189) (f43 : hUpd H2 H1 n7 n14 n16) (f44 : n17 = 7) (f45 : n18 ≤ 7) (f46 : 0 ≤ n18) (f47 : hK H2 (n2).toNat = 12) (f48 : n18 = hV H2 (n2).toNat 32) (f49 : n19 = w32 (n17 * n18)) (f50 : n20 = 294) (f51 : hK H2 (n2).toNat = 12) (f52 : n20 = hV H2 (n2).toNat 20) (f53 : n21 ≤ 7) (f54 : 0 ≤ n21) (f55 : hK H2 (n2).toNat = 12) (f56 : n21 = hV H2 (n2).toNat 32) (f57 : n22 ≤ 6) (f58 : 0 ≤ n22) (f59 : n22 = hV H2 (n20).toNat (n21).toNat) (f60 : n23 = w32 (n19 + n22)) (f61 : hK H2 (n2).toNat = 12) (f62 : n24 = 33) (f63 : hUpd H3 H2 n2 n24 n23) (f64 : (hLe T0 H3 H4 ∧ hFr s_226.2.2.2.2 H3 H4 ∧ ((0 : Int) = 0 → H4.length = H3.length) ∧ hWt T0 H4) ∧ ((postb_226 n2 H3 H4 ∧ nb_226 n2 H3 H4) ∧ yb_226 n2 H3 H4)) (f65 : n25 = 294) (f66 : hK H4 (n2).toNat = 12) (f67 : n25 = hV H4 (n2).toNat 20) (f68 : n26 ≤ 7) (f69 : 0 ≤ n26) (f70 : hK H4 (n2).toNat = 12) (f71 : n26 = hV H4 (n2).toNat 32) (f72 : n27 ≤ 6) (f73 : 0 ≤ n27) (f74 : n27 = hV H4 (n25).toNat (n26).toNat) (f75 : n28 = 1) (f76 : n29 = w32 (n27 + n28)) (f77 : hK H4 (n25).toNat = 180) (f78 : hUpd H5 H4 n25 n26 n29) : yb_225 n3 H0 H5 := by
  unfold yb_225
  intro z zr kd
  have ga := f6.2.1.1.1.2
  unfold Bb_225_43 at ga
  obtain ⟨z1, fz, h6, r294, r295, r297, t1, t0, tl, k1, ea, w3, k20, k26⟩ := ga z zr kd
  have vz : vwR H1 = vwR H0 := vwR_fr f6.1.2.1 (by decide +kernel)
  have d13 := rdS (q := 285) f13 f4
  have d16 := rdW (q := 294) f16 f7
  have d25 := rdS (q := 285) f25 f4
  have d33 := rdS (q := 285) f33 f4
  have d36 := rdW (q := 294) f36 f27
  have d41 := rdW (q := 291) f41 f38
  have d48 := rdS (q := 285) f48 f4
  have d56 := rdS (q := 285) f56 f4
  have d59 := rdW (q := 294) f59 f50
  have d71 := rdS (q := 285) f71 f4
  have d74 := rdW (q := 294) f74 f65
  have q17 := f17
  have f32_ : hV H1 285 32 = hV H0 285 32 := f6.1.2.1.1 285 32 (by decide +kernel)
  have rg0 := f0
  have rg1 := f1
  have rg2 := f2
  have rg3 := f3
  have rg10 := f10
  have rg11 := f11
  have rg14 := f14
  have rg15 := f15
  have rg22 := f22
  have rg23 := f23
  have rg30 := f30
  have rg31 := f31
  have rg34 := f34
  have rg35 := f35
  have rg45 := f45
  have rg46 := f46
  have rg53 := f53
  have rg54 := f54
  have rg57 := f57
  have rg58 := f58
  have rg68 := f68
  have rg69 := f69
  have rg72 := f72
  have rg73 := f73
  have nz : hV H1 291 (n1).toNat = (vwR H0).2.2.1 (ptk (vwR H0) 16 (absR H0)).1 := by
    rw [← t1, ← vz]
    show _ = if kR H1 n1 = 1 then _ else _
    have ok : okR H1 n1 := ⟨t0, by have := z1.2.2.1; omega, by have := z1.2.2.2.2.2.2.2.2.2.1 fz; omega⟩
    unfold kR
    rw [if_pos ok, if_pos k1]
  have nb := (z1.1.2.2.2 (n1).toNat (by have := z1.2.2.2.2.2.2.2.2.2.1 fz; omega)).2.2.2 k1
  have p0 := PR_row (q := 295) f43 f18 (by decide) z1
  have v0 : vwR H2 = vwR H0 := p0.2.1.trans vz
  have ah0 : absR H2 = (absR H1) := p0.1
  have p1 := PR_slot (s := 33) f63 f4 f62 (by decide) p0.2.2.1
  have v1 : vwR H3 = vwR H0 := p1.2.1.trans v0
  have ah1 : absR H3 = (absR H1) := p1.1.trans ah0
  have e32_0 : n5 = hV H0 285 32 := by rw [d13, show hV H1 285 32 = hV H1 285 32 from rfl, f32_]
  have e32_1 : n9 = hV H0 285 32 := by rw [d25, show hV H1 285 32 = hV H1 285 32 from rfl, f32_]
  have e32_2 : n12 = hV H0 285 32 := by rw [d33, show hV H1 285 32 = hV H1 285 32 from rfl, f32_]
  have e32_3 : n18 = hV H0 285 32 := by rw [d48, show hV H2 285 32 = hV H1 285 32 from uPlace f43 285 32 (by rw [f18]; decide), f32_]
  have e32_4 : n21 = hV H0 285 32 := by rw [d56, show hV H2 285 32 = hV H1 285 32 from uPlace f43 285 32 (by rw [f18]; decide), f32_]
  have e32_5 : n26 = hV H0 285 32 := by rw [d71, show hV H4 285 32 = hV H1 285 32 from (f64.1.2.1.1 285 32 (by decide +kernel)).trans ((uSlot f63 285 32 (by rw [f62]; decide)).trans (uPlace f43 285 32 (by rw [f18]; decide))), f32_]
  have eb_0 : n6 = hV H0 294 (hV H0 285 32).toNat := by rw [d16, show hV H1 294 = hV H1 294 from rfl, r294, e32_0]
  have eb_1 : n13 = hV H0 294 (hV H0 285 32).toNat := by rw [d36, show hV H1 294 = hV H1 294 from rfl, r294, e32_2]
  have eb_2 : n22 = hV H0 294 (hV H0 285 32).toNat := by rw [d59, show hV H2 294 = hV H1 294 from uRowNe f43 294 (by rw [f18]; decide), r294, e32_4]
  have eb_3 : n27 = hV H0 294 (hV H0 285 32).toNat := by rw [d74, show hV H4 294 = hV H1 294 from (fRow f64.1.2.1 294 (by decide +kernel)).trans ((uRowNe f63 294 (by rw [f4]; decide)).trans (uRowNe f43 294 (by rw [f18]; decide))), r294, e32_5]
  have bnd : 0 ≤ hV H0 294 (hV H0 285 32).toNat ∧ hV H0 294 (hV H0 285 32).toNat ≤ 6 := by omega
  have s26 : n10 = 6 * n9 := by
    have q := f26
    rw [f21] at q
    rw [q]
    exact w32_id (by omega) (by omega)
  have s37 : n14 = n10 + n13 := by
    have q := f37
    rw [q]
    exact w32_id (by omega) (by omega)
  have s49 : n19 = 7 * n18 := by
    have q := f49
    rw [f44] at q
    rw [q]
    exact w32_id (by omega) (by omega)
  have s60 : n23 = n19 + n22 := by
    have q := f60
    rw [q]
    exact w32_id (by omega) (by omega)
  have s76 : n29 = n27 + 1 := by
    have q := f76
    rw [f75] at q
    rw [q]
    exact w32_id (by omega) (by omega)
  have u1 : hV H2 295 = uF (hV H1 295) n14 n16 := uRow f43 295 f18.symm
  have e33 : hV H3 285 33 = n23 := uSame f63 285 33 (by rw [f4]; rfl) (by rw [f62]; rfl)
  have v295 : hV H3 295 = hV H2 295 := uRowNe f63 295 (by rw [f4]; decide)
  have v294 : hV H3 294 = hV H1 294 := (uRowNe f63 294 (by rw [f4]; decide)).trans (uRowNe f43 294 (by rw [f18]; decide))
  have v297 : hV H3 297 = hV H1 297 := (uRowNe f63 297 (by rw [f4]; decide)).trans (uRowNe f43 297 (by rw [f18]; decide))
  have v32 : hV H3 285 32 = hV H0 285 32 := ((uSlot f63 285 32 (by rw [f62]; decide)).trans (uPlace f43 285 32 (by rw [f18]; decide))).trans f32_
  rw [r295] at u1
  have ixe : n14 = 6 * hV H0 285 32 + hV H0 294 (hV H0 285 32).toNat := by omega
  have pte : hV H3 285 33 = 7 * hV H0 285 32 + hV H0 294 (hV H0 285 32).toNat := by rw [e33]; omega
  have k295 : ∀ k : Nat, (k : Int) < hV H0 294 (hV H0 285 32).toNat → hV H3 295 ((6 * hV H0 285 32).toNat + k) = hV H0 295 ((6 * hV H0 285 32).toNat + k) := fun k hk => by rw [v295, u1, uF_at, if_neg (by omega)]
  have blb : BLr H3 = BLr H0 := by
    unfold BLr
    rw [v32, v294, r294]
    refine BLg_congr (fun k _ hk => ⟨k295 k (by omega), by rw [v297, r297]⟩)
  have zb : ZR H3 := fun k hk => by
    rw [v32, v294, r294] at hk
    rw [v32, k295 k hk, v297, r297]
    exact zr k hk
  have n := f64.2.1.2 p1.2.2.1 (fun _ => zb)
  rw [blb, v1, ah1] at n
  obtain ⟨y1, y2, y3, y4⟩ := n
  have pl : (vwR H0).2.2.2 (ptk (vwR H0) 16 (absR H0)).1 = hV H1 289 (n1).toNat := by
    rw [← t1, ← vz]
    show lR H1 n1 = _
    unfold lR
    exact if_pos ⟨t0, by have := z1.2.2.1; omega, by have := z1.2.2.2.2.2.2.2.2.2.1 fz; omega⟩
  have pa := absR_pos z1 fz
  have pe : absR H1 = pNm2 (vwR H0) (BLr H0) (ptk (vwR H0) 16 (absR H0)) := by
    classical
    have w := W3_end fz w3
    have mm := MBk_all zr (nm := (vwR H0).2.2.1 (ptk (vwR H0) 16 (absR H0)).1)
    refine Prod.ext ea (w.trans ?_)
    have hq : ¬ pt1 (vwR H0) 2 (ptk (vwR H0) 16 (absR H0)).1 < 0 := by rw [← ea]; omega
    show _ = if pt1 (vwR H0) 2 (ptk (vwR H0) 16 (absR H0)).1 < 0 then 0 else if (ptk (vwR H0) 16 (absR H0)).2 = 0 ∧ ¬ pfd (BLr H0) ((vwR H0).2.2.1 (ptk (vwR H0) 16 (absR H0)).1) = -1 then 8 * (vwR H0).2.2.2 (ptk (vwR H0) 16 (absR H0)).1 + 3 else (ptk (vwR H0) 16 (absR H0)).2
    rw [if_neg hq, pl, show n0 = hV H0 294 (hV H0 285 32).toNat by omega]
    simp only [mm]
  have gy := f6.2.1.1.2
  unfold Byb_225_43 at gy
  obtain ⟨y8, y296⟩ := gy z zr kd
  have yy := f64.2.2
  unfold yb_226 at yy
  have yy := yy p1.2.2.1 (fun _ => zb)
  rw [blb, v1, ah1, pte] at yy
  obtain ⟨q1, q2, q3⟩ := yy
  rw [pe] at q3
  have e8a : CR8 H1 H3 := (CR8_tr (CR8_lo (q := 295) f43 f18 (by decide)) (CR8_lo (q := 285) f63 f4 (by decide)))
  have e8c : CR8 H4 H5 := CR8_lo (q := 294) f78 f65 (by decide)
  have m2 : hV H5 296 = hV H4 296 := uRowNe f78 296 (by rw [f65]; decide)
  have m1 : hV H3 296 = hV H1 296 := (uRowNe f63 296 (by rw [f4]; decide)).trans (uRowNe f43 296 (by rw [f18]; decide))
  have e13 : hV H5 285 13 = hV H4 285 13 := uPlace f78 285 13 (by rw [f65]; decide)
  refine ⟨CRl_tr (CRl_8 y8) (CRl_tr (CRl_8 e8a) (CRl_tr q1 (CRl_8 e8c))), fun k hk => ?_, fun hf => ?_⟩
  · rw [m2, q2 k hk, m1, y296]
  · obtain ⟨k1_, k2_, k3_⟩ := q3 (by omega)
    rw [m2]
    exact ⟨k1_, k2_, (lsR_eq (fun k _ => recR_eq (CRo_8 e8c))).trans k3_⟩
def g_225y_43_0 : vG := ([(80, [25, 26, 29], [5, 4], 0), (23, [25], [4], 180), (1, [29, 27, 28], [], 0), (0, [28], [], 1), (22, [27, 25, 26], [4], 0), (90, [27], [], 0), (91, [27], [], 6), (20, [26, 1], [4], 32), (23, [1], [4], 12), (90, [26], [], 0), (91, [26], [], 7), (20, [25, 1], [4], 20), (23, [1], [4], 12), (0, [25], [], 294), (1226, [1], [3, 4], 0), (80, [1, 24, 23], [3, 2], 0), (0, [24], [], 33), (23, [1], [2], 12), (1, [23, 19, 22], [], 0), (22, [22, 20, 21], [2], 0), (90, [22], [], 0), (91, [22], [], 6), (20, [21, 1], [2], 32), (23, [1], [2], 12), (90, [21], [], 0), (91, [21], [], 7), (20, [20, 1], [2], 20), (23, [1], [2], 12), (0, [20], [], 294), (3, [19, 17, 18], [], 0), (20, [18, 1], [2], 32), (23, [1], [2], 12), (90, [18], [], 0), (91, [18], [], 7), (0, [17], [], 7), (80, [7, 14, 16], [2, 1], 1), (23, [7], [1], 189), (22, [16, 15, 2], [1], 0), (20, [15, 1], [1], 8), (23, [1], [1], 12), (0, [15], [], 291), (1, [14, 10, 13], [], 0), (22, [13, 11, 12], [1], 0), (90, [13], [], 0), (91, [13], [], 6), (20, [12, 1], [1], 32), (23, [1], [1], 12), (90, [12], [], 0), (91, [12], [], 7), (20, [11, 1], [1], 20), (23, [1], [1], 12), (0, [11], [], 294), (3, [10, 8, 9], [], 0), (20, [9, 1], [1], 32), (23, [1], [1], 12), (90, [9], [], 0), (91, [9], [], 7), (0, [8], [], 6), (20, [7, 1], [1], 21), (23, [1], [1], 12), (0, [7], [], 295), (43, [3, 6], [], 0), (22, [6, 4, 5], [1], 0), (90, [6], [], 0), (91, [6], [], 6), (20, [5, 1], [1], 32), (23, [1], [1], 12), (90, [5], [], 0), (91, [5], [], 7), (20, [4, 1], [1], 20), (23, [1], [1], 12), (0, [4], [], 294), (5000, [0, 1, 2, 3], [0, 1], 43), (0, [0], [], 285), (0, [1], [], 285), (90, [2], [], 0), (91, [2], [], 500), (90, [3], [], 0), (91, [3], [], 6)], (3000, [], [5], 158))
theorem c_225y_43_0 {q0 : Nat} : vOkm T0 (eN e_225w L_225y (eAB A_225 B_225) mu_225 y_225 By_225 (some q0)) 1 g_225y_43_0 := vOk_inI fun ρ η f0 f1 f2 f3 f4 f5 f6 f7 f8 f9 f10 f11 f12 f13 f14 f15 f16 f17 f18 f19 f20 f21 f22 f23 f24 f25 f26 f27 f28 f29 f30 f31 f32 f33 f34 f35 f36 f37 f38 f39 f40 f41 f42 f43 f44 f45 f46 f47 f48 f49 f50 f51 f52 f53 f54 f55 f56 f57 f58 f59 f60 f61 f62 f63 f64 f65 f66 f67 f68 f69 f70 f71 f72 f73 f74 f75 f76 f77 f78 => q_225y_4 (q0 := q0) (n0 := ρ 3) (n1 := ρ 2) (n2 := ρ 1) (n3 := ρ 0) (n4 := ρ 4) (n5 := ρ 5) (n6 := ρ 6) (n7 := ρ 7) (n8 := ρ 8) (n9 := ρ 9) (n10 := ρ 10) (n11 := ρ 11) (n12 := ρ 12) (n13 := ρ 13) (n14 := ρ 14) (n15 := ρ 15) (n16 := ρ 16) (n17 := ρ 17) (n18 := ρ 18) (n19 := ρ 19) (n20 := ρ 20) (n21 := ρ 21) (n22 := ρ 22) (n23 := ρ 23) (n24 := ρ 24) (n25 := ρ 25) (n26 := ρ 26) (n27 := ρ 27) (n28 := ρ 28) (n29 := ρ 29) (H0 := η 0) (H1 := η 1) (H2 := η 2) (H3 := η 3) (H4 := η 4) (H5 := η 5) f78 f77 f76 f75 f74 f73 f72 f71 f70 f69 f68 f67 f66 f65 f64 f63 f62 f61 f60 f59 f58 f57 f56 f55 f54 f53 f52 f51 f50 f49 f48 f47 f46 f45 f44 f43 f42 f41 f40 f39 f38 f37 f36 f35 f34 f33 f32 f31 f30 f29 f28 f27 f26 f25 f24 f23 f22 f21 f20 f19 f18 f17 f16 f15 f14 f13 f12 f11 f10 f9 f8 f7 f6 f5 f4 f3 f2 f1 f0
theorem q_225y_5 {q0 : Nat} {n0 n1 n2 n3 n4 n5 n6 n7 n8 n9 n10 n11 n12 n13 n14 n15 n16 : Int} {H0 H1 : gH} (f0 : n0 ≤ 6) (f1 : 0 ≤ n0) (f2 : n1 ≤ 500) (f3 : 0 ≤ n1) (f4 : n2 = 285) (f5 : n3 = 285) (f6 : (hLe T0 H0 H1 ∧ hFr s_225.2.2.2.2 H0 H1 ∧ hWt T0 H1) ∧ (((Ab_225_43 n3 n2 n1 n0 H0 H1 ∧ Bb_225_43 n3 n2 n1 n0 H0 H1) ∧ Byb_225_43 n3 n2 n1 n0 H0 H1) ∧ preb_225 n3 H0) ∧ some q0 = some (mub_225_43 n3 n2 n1 n0 H0 H1)) (f7 : n4 = 294) (f8 : hK H1 (n2).toNat = 12) (f9 : n4 = hV H1 (n2).toNat 20) (f10 : n5 ≤ 7) (f11 : 0 ≤ n5) (f12 : hK H1 (n2).toNat = 12) (f13 : n5 = hV H1 (n2).toNat 32) (f14 : n6 ≤ 6) (f15 : 0 ≤ n6) (f16 : n6 = hV H1 (n4).toNat (n5).toNat) (f17 : n0 < n6) (f18 : n7 = 295) (f19 : hK H1 (n2).toNat = 12) (f20 : n7 = hV H1 (n2).toNat 21) (f21 : n8 = 6) (f22 : n9 ≤ 7) (f23 : 0 ≤ n9) (f24 : hK H1 (n2).toNat = 12) (f25 : n9 = hV H1 (n2).toNat 32) (f26 : n10 = w32 (n8 * n9)) (f27 : n11 = w32 (n10 + n0)) (f28 : n12 = hV H1 (n7).toNat (n11).toNat) (f29 : n13 = 291) (f30 : hK H1 (n2).toNat = 12) (f31 : n13 = hV H1 (n2).toNat 8) (f32 : n14 = hV H1 (n13).toNat (n1).toNat) (f33 : n15 = (lg_cmp (Int64.ofInt n12) (Int64.ofInt n14)).toInt) (f34 : n15 ≠ 0) (f35 : n16 = w32 (n0 + 1)) : Byb_225_43 n3 n2 n1 n16 H0 H1 := by
  unfold Byb_225_43
  intro z zr kd
  have gy := f6.2.1.1.2
  unfold Byb_225_43 at gy
  obtain ⟨y8, y296⟩ := gy z zr kd
  exact ⟨y8, y296⟩
def g_225y_43_1 : vG := ([(10, [16, 3], [], 1), (31, [15], [], 0), (65, [15, 12, 14], [], 0), (22, [14, 13, 2], [1], 0), (20, [13, 1], [1], 8), (23, [1], [1], 12), (0, [13], [], 291), (22, [12, 7, 11], [1], 0), (1, [11, 10, 3], [], 0), (3, [10, 8, 9], [], 0), (20, [9, 1], [1], 32), (23, [1], [1], 12), (90, [9], [], 0), (91, [9], [], 7), (0, [8], [], 6), (20, [7, 1], [1], 21), (23, [1], [1], 12), (0, [7], [], 295), (42, [3, 6], [], 0), (22, [6, 4, 5], [1], 0), (90, [6], [], 0), (91, [6], [], 6), (20, [5, 1], [1], 32), (23, [1], [1], 12), (90, [5], [], 0), (91, [5], [], 7), (20, [4, 1], [1], 20), (23, [1], [1], 12), (0, [4], [], 294), (5000, [0, 1, 2, 3], [0, 1], 43), (0, [0], [], 285), (0, [1], [], 285), (90, [2], [], 0), (91, [2], [], 500), (90, [3], [], 0), (91, [3], [], 6)], (4000, [1, 2, 16], [1], 43))
theorem c_225y_43_1 {q0 : Nat} : vOkm T0 (eN e_225w L_225y (eAB A_225 B_225) mu_225 y_225 By_225 (some q0)) 1 g_225y_43_1 := vOk_inI fun ρ η f0 f1 f2 f3 f4 f5 f6 f7 f8 f9 f10 f11 f12 f13 f14 f15 f16 f17 f18 f19 f20 f21 f22 f23 f24 f25 f26 f27 f28 f29 f30 f31 f32 f33 f34 f35 => q_225y_5 (q0 := q0) (n0 := ρ 3) (n1 := ρ 2) (n2 := ρ 1) (n3 := ρ 0) (n4 := ρ 4) (n5 := ρ 5) (n6 := ρ 6) (n7 := ρ 7) (n8 := ρ 8) (n9 := ρ 9) (n10 := ρ 10) (n11 := ρ 11) (n12 := ρ 12) (n13 := ρ 13) (n14 := ρ 14) (n15 := ρ 15) (n16 := ρ 16) (H0 := η 0) (H1 := η 1) f35 f34 f33 f32 f31 f30 f29 f28 f27 f26 f25 f24 f23 f22 f21 f20 f19 f18 f17 f16 f15 f14 f13 f12 f11 f10 f9 f8 f7 f6 f5 f4 f3 f2 f1 f0
theorem q_225y_6 {q0 : Nat} {n0 n1 n2 n3 n4 n5 n6 n7 n8 n9 n10 n11 n12 n13 n14 n15 n16 n17 : Int} {H0 H1 H2 : gH} (f0 : n0 ≤ 6) (f1 : 0 ≤ n0) (f2 : n1 ≤ 500) (f3 : 0 ≤ n1) (f4 : n2 = 285) (f5 : n3 = 285) (f6 : (hLe T0 H0 H1 ∧ hFr s_225.2.2.2.2 H0 H1 ∧ hWt T0 H1) ∧ (((Ab_225_43 n3 n2 n1 n0 H0 H1 ∧ Bb_225_43 n3 n2 n1 n0 H0 H1) ∧ Byb_225_43 n3 n2 n1 n0 H0 H1) ∧ preb_225 n3 H0) ∧ some q0 = some (mub_225_43 n3 n2 n1 n0 H0 H1)) (f7 : n4 = 294) (f8 : hK H1 (n2).toNat = 12) (f9 : n4 = hV H1 (n2).toNat 20) (f10 : n5 ≤ 7) (f11 : 0 ≤ n5) (f12 : hK H1 (n2).toNat = 12) (f13 : n5 = hV H1 (n2).toNat 32) (f14 : n6 ≤ 6) (f15 : 0 ≤ n6) (f16 : n6 = hV H1 (n4).toNat (n5).toNat) (f17 : n0 < n6) (f18 : n7 = 295) (f19 : hK H1 (n2).toNat = 12) (f20 : n7 = hV H1 (n2).toNat 21) (f21 : n8 = 6) (f22 : n9 ≤ 7) (f23 : 0 ≤ n9) (f24 : hK H1 (n2).toNat = 12) (f25 : n9 = hV H1 (n2).toNat 32) (f26 : n10 = w32 (n8 * n9)) (f27 : n11 = w32 (n10 + n0)) (f28 : n12 = hV H1 (n7).toNat (n11).toNat) (f29 : n13 = 291) (f30 : hK H1 (n2).toNat = 12) (f31 : n13 = hV H1 (n2).toNat 8) (f32 : n14 = hV H1 (n13).toNat (n1).toNat) (f33 : n15 = (lg_cmp (Int64.ofInt n12) (Int64.ofInt n14)).toInt) (f34 : n15 = 0) (f35 : n16 = 3) (f36 : (hLe T0 H1 H2 ∧ hFr s_218.2.2.2.2 H1 H2 ∧ ((0 : Int) = 0 → H2.length = H1.length) ∧ hWt T0 H2) ∧ (postb_218 n2 n16 n1 H1 H2 ∧ nb_218 n2 n16 n1 H1 H2)) (f37 : n17 = w32 (n0 + 1)) : Byb_225_43 n3 n2 n1 n17 H0 H2 := by
  unfold Byb_225_43
  intro z zr kd
  have gy := f6.2.1.1.2
  unfold Byb_225_43 at gy
  obtain ⟨y8, y296⟩ := gy z zr kd
  have p296 : hV H2 296 = hV H1 296 := fRow f36.1.2.1 296 (by decide +kernel)
  exact ⟨CR8_tr y8 (CR8_fr f36.1.2.1 (by decide +kernel)), p296.trans y296⟩
def g_225y_43_2 : vG := ([(10, [17, 3], [], 1), (1218, [1, 16, 2], [1, 2], 0), (0, [16], [], 3), (30, [15], [], 0), (65, [15, 12, 14], [], 0), (22, [14, 13, 2], [1], 0), (20, [13, 1], [1], 8), (23, [1], [1], 12), (0, [13], [], 291), (22, [12, 7, 11], [1], 0), (1, [11, 10, 3], [], 0), (3, [10, 8, 9], [], 0), (20, [9, 1], [1], 32), (23, [1], [1], 12), (90, [9], [], 0), (91, [9], [], 7), (0, [8], [], 6), (20, [7, 1], [1], 21), (23, [1], [1], 12), (0, [7], [], 295), (42, [3, 6], [], 0), (22, [6, 4, 5], [1], 0), (90, [6], [], 0), (91, [6], [], 6), (20, [5, 1], [1], 32), (23, [1], [1], 12), (90, [5], [], 0), (91, [5], [], 7), (20, [4, 1], [1], 20), (23, [1], [1], 12), (0, [4], [], 294), (5000, [0, 1, 2, 3], [0, 1], 43), (0, [0], [], 285), (0, [1], [], 285), (90, [2], [], 0), (91, [2], [], 500), (90, [3], [], 0), (91, [3], [], 6)], (4000, [1, 2, 17], [2], 43))
theorem c_225y_43_2 {q0 : Nat} : vOkm T0 (eN e_225w L_225y (eAB A_225 B_225) mu_225 y_225 By_225 (some q0)) 1 g_225y_43_2 := vOk_inI fun ρ η f0 f1 f2 f3 f4 f5 f6 f7 f8 f9 f10 f11 f12 f13 f14 f15 f16 f17 f18 f19 f20 f21 f22 f23 f24 f25 f26 f27 f28 f29 f30 f31 f32 f33 f34 f35 f36 f37 => q_225y_6 (q0 := q0) (n0 := ρ 3) (n1 := ρ 2) (n2 := ρ 1) (n3 := ρ 0) (n4 := ρ 4) (n5 := ρ 5) (n6 := ρ 6) (n7 := ρ 7) (n8 := ρ 8) (n9 := ρ 9) (n10 := ρ 10) (n11 := ρ 11) (n12 := ρ 12) (n13 := ρ 13) (n14 := ρ 14) (n15 := ρ 15) (n16 := ρ 16) (n17 := ρ 17) (H0 := η 0) (H1 := η 1) (H2 := η 2) f37 f36 f35 f34 f33 f32 f31 f30 f29 f28 f27 f26 f25 f24 f23 f22 f21 f20 f19 f18 f17 f16 f15 f14 f13 f12 f11 f10 f9 f8 f7 f6 f5 f4 f3 f2 f1 f0
def p_225y_43 : List vG := [g_225y_43_0,
  g_225y_43_1,
  g_225y_43_2]
theorem r_225y_43 : vCovBO (eRc e_225w L_225w cs_225 2000 (43, [(0, (3, 12, 285, 0)), (1, (0, 0, 500, 0)), (2, (0, 0, 6, 0))])) p_225y_43 = true := by decide +kernel
theorem o_225y : eOK e_225y L_225y cs_225 2000 (eAB (eAB A_225 B_225) By_225) mu_225 := eOK_ref (p1 := p_225y_s) o_225w (sub0 (sub0 (sub0 (sub0 (sub1 trivial))))) r_225y_s (allC c_225y_s_0 (allC c_225y_s_1 (allC c_225y_s_2 (allC c_225y_s_3 allN)))) (allC ⟨p_225y_43, r_225y_43, fun q0 => (allC c_225y_43_0 (allC c_225y_43_1 (allC c_225y_43_2 allN)))⟩ allN)
theorem m_225y (d : Nat) : eC e_225y (d + 9) := eC_OK (d := d + 8) o_225y rfl ⟨m_217w (d + 7), ⟨m_218w (d + 7), ⟨m_219w (d + 6), ⟨m_220w (d + 5), ⟨m_226y d, trivial⟩⟩⟩⟩⟩ rfl (.inl rfl) (by decide +kernel)
/- MixStageModel.tellSheet ()V, more fully still -/
theorem o_224 : eOK e_224 L_224 cs_224 2000 A_224 mu_224 := eOK_of (tp := false) (p0 := p_224_s) (fun z => nomatch z) r_224_s (allC c_224_s_0 allN) (allC (.inl ⟨p_224_10, r_224_10, fun q0 => (allC c_224_10_0 (allC c_224_10_1 (allC c_224_10_2 (allC c_224_10_3 (allC c_224_10_4 (allC c_224_10_5 (allC c_224_10_6 (allC c_224_10_7 (allC c_224_10_8 allN)))))))))⟩) allN)
theorem o_224w : eOK e_224w L_224w cs_224 2000 (eAB A_224 B_224) mu_224 := eOK_ref (p1 := p_224w_s) o_224 (sub0 (sub1 (sub1 (sub1 (sub1 trivial))))) r_224w_s (allC c_224w_s_0 allN) (allC ⟨p_224w_10, r_224w_10, fun q0 => (allC c_224w_10_0 (allC c_224w_10_1 (allC c_224w_10_2 (allC c_224w_10_3 (allC c_224w_10_4 allN)))))⟩ allN)
def yb_224 (a0 : Int) (h0 h : gH) : Prop := RI h0 → CRl h0 h (112 * hV h0 285 32) ∧ (∀ k : Nat, (k : Int) < 7 * hV h0 285 32 → hV h 296 (k) = hV h0 296 (k)) ∧ (hV h 285 13 = 0 → hV h 285 15 = 0 → ZP h (hV h0 285 32).toNat) ∧ (hV h 285 13 = 0 → FIR (vwR h0) (absR h0) h (hV h0 285 32).toNat)
def y_224 : List Int → gH → gH → Prop := fun xs h0 h => match xs with
  | [a0] => yb_224 a0 h0 h
  | _ => True
noncomputable def e_224y : vE := eV e_224w y_224
noncomputable def L_224y : List vE := [e_216, e_218w, e_220w, e_225y, e_226y]
def Byb_224_10 (a0 x0 : Int) (h0 h : gH) : Prop := RI h0 → CRl h0 h (112 * hV h0 285 32) ∧ (∀ k : Nat, (k : Int) < 7 * hV h0 285 32 → hV h 296 (k) = hV h0 296 (k)) ∧ (hV h 285 13 = 0 → lsRB h (hV h0 285 32).toNat (hV h 294 ((hV h0 285 32).toNat)).toNat ++ pDb (vwR h0) (6 - hV h 294 ((hV h0 285 32).toNat)).toNat (absR h) (BLr h) = pDb (vwR h0) 6 (absR h0) [] ∧ R16 h (hV h0 285 32).toNat (hV h 294 ((hV h0 285 32).toNat)).toNat)
def By_224 : Int → List Int → gH → gH → Prop := fun c xs h0 h => match c.toNat with
  | 10 => (match xs with
    | [a0, x0] => Byb_224_10 a0 x0 h0 h
    | _ => False)
  | _ => True
theorem q_224y_0 {n0 n1 n2 n3 : Int} {H0 H1 : gH} (f0 : n0 = 285) (f1 : hWt T0 H0 ∧ preb_224 n0 H0) (f2 : n1 = 294) (f3 : hK H0 (n0).toNat = 12) (f4 : n1 = hV H0 (n0).toNat 20) (f5 : n2 ≤ 7) (f6 : 0 ≤ n2) (f7 : hK H0 (n0).toNat = 12) (f8 : n2 = hV H0 (n0).toNat 32) (f9 : n3 = 0) (f10 : hK H0 (n1).toNat = 180) (f11 : hUpd H1 H0 n1 n2 n3) : Byb_224_10 n0 n0 H0 H1 := by
  unfold Byb_224_10
  intro z
  have d8 := rdS (q := 285) f8 f0
  have p0 := PR_row (q := 294) f11 f2 (by decide) z
  have v0 : vwR H1 = vwR H0 := p0.2.1
  have ah0 : absR H1 = (absR H0) := p0.1
  have g32 := f1.1 285 32 _ _ rW_32
  have u1 : hV H1 294 = uF (hV H0 294) n2 n3 := uRow f11 294 f2.symm
  have v0 := f9
  have nb : hV H1 294 (hV H0 285 32).toNat = 0 := by rw [u1, uF_at, if_pos (by omega), v0]
  have e32 : hV H1 285 32 = hV H0 285 32 := uPlace f11 285 32 (by rw [f2]; decide)
  have bl : BLr H1 = [] := by
    unfold BLr
    rw [e32, nb]
    rfl
  have p296 : hV H1 296 = hV H0 296 := uRowNe f11 296 (by rw [f2]; decide)
  rw [nb, bl, ah0]
  exact ⟨CRl_8 (CR8_lo (q := 294) f11 f2 (by decide)), fun k _ => by rw [p296], fun _ => ⟨rfl, fun b hb => absurd hb (Nat.not_lt_zero b)⟩⟩
def g_224y_s_0 : vG := ([(80, [1, 2, 3], [1, 0], 0), (23, [1], [0], 180), (0, [3], [], 0), (20, [2, 0], [0], 32), (23, [0], [0], 12), (90, [2], [], 0), (91, [2], [], 7), (20, [1, 0], [0], 20), (23, [0], [0], 12), (0, [1], [], 294), (6000, [0], [0], 0), (0, [0], [], 285)], (4000, [0], [1], 10))
theorem c_224y_s_0 : vOkm T0 (eN e_224w L_224y (eAB A_224 B_224) mu_224 y_224 By_224 none) 1 g_224y_s_0 := vOk_inI fun ρ η f0 f1 f2 f3 f4 f5 f6 f7 f8 f9 f10 f11 => q_224y_0 (n0 := ρ 0) (n1 := ρ 1) (n2 := ρ 2) (n3 := ρ 3) (H0 := η 0) (H1 := η 1) f11 f10 f9 f8 f7 f6 f5 f4 f3 f2 f1 f0
def p_224y_s : List vG := [g_224y_s_0]
theorem r_224y_s : vCovBO (eR0 e_224w L_224w cs_224 2000) p_224y_s = true := by decide +kernel
theorem q_224y_1 {q0 : Nat} {n0 n1 n2 n3 n4 n5 n6 n7 n8 n9 n10 n11 n12 : Int} {H0 H1 H2 H3 H4 H5 : gH} (f0 : n0 = 285) (f1 : n1 = 285) (f2 : (hLe T0 H0 H1 ∧ hFr s_224.2.2.2.2 H0 H1 ∧ hWt T0 H1) ∧ (((Ab_224_10 n1 n0 H0 H1 ∧ Bb_224_10 n1 n0 H0 H1) ∧ Byb_224_10 n1 n0 H0 H1) ∧ preb_224 n1 H0) ∧ some q0 = some (mub_224_10 n1 n0 H0 H1)) (f3 : n2 = 20) (f4 : n3 ≤ 1) (f5 : 0 ≤ n3) (f6 : (hLe T0 H1 H2 ∧ hFr s_216.2.2.2.2 H1 H2 ∧ ((0 : Int) = 0 → H2.length = H1.length) ∧ hWt T0 H2) ∧ postb_216 n3 n0 n2 H1 H2) (f7 : n3 = 0) (f8 : n4 ≤ 500) (f9 : 0 ≤ n4) (f10 : hK H2 (n0).toNat = 12) (f11 : n4 = hV H2 (n0).toNat 11) (f12 : n5 = 22) (f13 : (hLe T0 H2 H3 ∧ hFr s_220.2.2.2.2 H2 H3 ∧ ((0 : Int) = 0 → H3.length = H2.length) ∧ hWt T0 H3) ∧ (postb_220 n0 n5 H2 H3 ∧ nb_220 n0 n5 H2 H3)) (f14 : n6 = 7) (f15 : n7 ≤ 7) (f16 : 0 ≤ n7) (f17 : hK H3 (n0).toNat = 12) (f18 : n7 = hV H3 (n0).toNat 32) (f19 : n8 = w32 (n6 * n7)) (f20 : n9 = 6) (f21 : n10 = w32 (n8 + n9)) (f22 : hK H3 (n0).toNat = 12) (f23 : n11 = 33) (f24 : hUpd H4 H3 n0 n11 n10) (f25 : (hLe T0 H4 H5 ∧ hFr s_226.2.2.2.2 H4 H5 ∧ ((0 : Int) = 0 → H5.length = H4.length) ∧ hWt T0 H5) ∧ ((postb_226 n0 H4 H5 ∧ nb_226 n0 H4 H5) ∧ yb_226 n0 H4 H5)) (f26 : n12 ≤ 2) (f27 : 0 ≤ n12) (f28 : hK H5 (n0).toNat = 12) (f29 : n12 = hV H5 (n0).toNat 13) (f30 : n12 ≠ 0) : yb_224 n1 H0 H5 := by
  unfold yb_224
  intro z
  have ga := f2.2.1.1.1.2
  unfold Bb_224_10 at ga
  obtain ⟨z1, y1, y2⟩ := ga z
  have vz : vwR H1 = vwR H0 := vwR_fr f2.1.2.1 (by decide +kernel)
  have gy := f2.2.1.1.2
  unfold Byb_224_10 at gy
  obtain ⟨cl, cp, ct⟩ := gy z
  have d11 := rdS (q := 285) f11 f0
  have d18 := rdS (q := 285) f18 f0
  have d29 := rdS (q := 285) f29 f0
  have q7 := f7
  have q30 := f30
  have f32_ : hV H1 285 32 = hV H0 285 32 := f2.1.2.1.1 285 32 (by decide +kernel)
  have p32_ : (0 : Int) ≤ hV H0 285 32 ∧ hV H0 285 32 ≤ 100 := by
    have q := f2.1.2.2 285 32 _ _ rW_32
    rw [f32_] at q
    exact q
  have p0 := PR_fr f6.1.2.1 (by decide +kernel) z1
  have v0 : vwR H2 = vwR H0 := p0.2.1.trans vz
  have ah0 : absR H2 = (absR H1) := p0.1
  have i0 := f6.2
  unfold postb_216 at i0
  rw [f3] at i0
  have cm0 := f7
  have b0 := (isR_or (k := 20) p0.2.2.1 (by decide) i0).resolve_left (fun w => absurd (w.1.symm.trans cm0) (by decide))
  replace b0 := b0.2
  rw [v0, ah0, kmc_20] at b0
  have c1 := f13.2.2 p0.2.2.1 (by rw [f12]; decide)
  try rw [f12] at c1
  rw [v0, ah0, kmc_22] at c1
  have v1 : vwR H3 = vwR H0 := (vwR_fr f13.1.2.1 (by decide +kernel)).trans v0
  have p2 := PR_slot (s := 33) f24 f0 f23 (by decide) c1.1
  have v2 : vwR H4 = vwR H0 := p2.2.1.trans v1
  have ah2 : absR H4 = (ptk (vwR H0) 18 (absR H1)) := p2.1.trans c1.2
  have g294 : hV H4 294 = hV H1 294 := (uRowNe f24 294 (by rw [f0]; decide)).trans ((fRow f13.1.2.1 294 (by decide +kernel)).trans (fRow f6.1.2.1 294 (by decide +kernel)))
  have g295 : hV H4 295 = hV H1 295 := (uRowNe f24 295 (by rw [f0]; decide)).trans ((fRow f13.1.2.1 295 (by decide +kernel)).trans (fRow f6.1.2.1 295 (by decide +kernel)))
  have g297 : hV H4 297 = hV H1 297 := (uRowNe f24 297 (by rw [f0]; decide)).trans ((fRow f13.1.2.1 297 (by decide +kernel)).trans (fRow f6.1.2.1 297 (by decide +kernel)))
  have g32 : hV H4 285 32 = hV H1 285 32 := (uSlot f24 285 32 (by rw [f23]; decide)).trans ((f13.1.2.1.1 285 32 (by decide +kernel)).trans (f6.1.2.1.1 285 32 (by decide +kernel)))
  have gsm := BLr_same g32 g294 g295 g297
  have r296 : hV H4 296 = hV H1 296 := (uRowNe f24 296 (by rw [f0]; decide)).trans ((fRow f13.1.2.1 296 (by decide +kernel)).trans (fRow f6.1.2.1 296 (by decide +kernel)))
  have zz : hV H4 285 13 = 0 → ZR H4 := fun c => gsm.2 (y1 (faultR_no z1 (pb_tk z (c := 18) (by rw [← ah2]; exact (absR_pos p2.2.2.1 c).2)).1)).2.2.1
  have n := f25.2.1.2 p2.2.2.1 zz
  rw [gsm.1, v2, ah2] at n
  obtain ⟨m1, ma, m3, m4⟩ := n
  have y := f25.2.2
  unfold yb_226 at y
  have y := y p2.2.2.1 zz
  rw [gsm.1, v2, ah2] at y
  obtain ⟨q1, q2, q3⟩ := y
  have s32 : n7 = hV H0 285 32 := by rw [d18, show hV H3 285 32 = hV H1 285 32 from (f13.1.2.1.1 285 32 (by decide +kernel)).trans (f6.1.2.1.1 285 32 (by decide +kernel)), f32_]
  have s19 : n8 = 7 * n7 := by
    have q := f19
    rw [f14] at q
    rw [q]
    exact w32_id (by omega) (by omega)
  have s21 : n10 = n8 + 6 := by
    have q := f21
    rw [f20] at q
    rw [q]
    exact w32_id (by omega) (by omega)
  have e33 : hV H4 285 33 = 7 * hV H0 285 32 + 6 := by
    rw [show hV H4 285 33 = n10 from uSame f24 285 33 (by rw [f0]; rfl) (by rw [f23]; rfl)]
    omega
  rw [e33] at q1 q2 q3
  have e8a : CR8 H1 H4 := (CR8_tr (CR8_fr f6.1.2.1 (by decide +kernel)) (CR8_tr (CR8_fr f13.1.2.1 (by decide +kernel)) (CR8_lo (q := 285) f24 f0 (by decide))))
  have e8c : CR8 H5 H5 := CR8_rfl
  have m2 : hV H5 296 = hV H5 296 := rfl
  have e13 : hV H5 285 13 = hV H5 285 13 := rfl
  refine ⟨CRl_tr cl (CRl_tr (CRl_8 e8a) (CRl_tr (CRl_le q1 (by omega)) (CRl_8 e8c))), fun k hk => ?_, fun hf hw => ?_, fun hf => ?_⟩
  · rw [m2, q2 k (by omega), r296]
    exact cp k hk
  · have pb := f25.2.1.1
    unfold postb_226 at pb
    have w2 : hV H5 285 32 = hV H0 285 32 := ((f25.1.2.1.1 285 32 (by decide +kernel)).trans ((uSlot f24 285 32 (by rw [f23]; decide)).trans ((f13.1.2.1.1 285 32 (by decide +kernel)).trans (f6.1.2.1.1 285 32 (by decide +kernel))))).trans f32_
    have w3 : hV H5 285 33 = hV H4 285 33 := f25.1.2.1.1 285 33 (by decide +kernel)
    exact ZP_of (pt := hV H5 285 33) (by omega) rfl (by omega) (pb.2.1 hf hw) pb.2.2.1
  have hc : hV H5 285 13 = 0 := e13.symm.trans hf
  have hp := (absR_pos m1 hc).2
  have on : hV H1 285 13 = 0 := Classical.byContradiction fun c => by
    have h1 := absR_neg z1 c
    rw [ma, ptk_neg (c := 18) h1 (absR_ok z1), pCuesR_neg h1, ptk_neg h1 (absR_ok z1)] at hp
    omega
  have h294 : hV H5 294 = hV H1 294 := (fRow f25.1.2.1 294 (by decide +kernel)).trans ((uRowNe f24 294 (by rw [f0]; decide)).trans ((fRow f13.1.2.1 294 (by decide +kernel)).trans (fRow f6.1.2.1 294 (by decide +kernel))))
  have h295 : hV H5 295 = hV H1 295 := (fRow f25.1.2.1 295 (by decide +kernel)).trans ((uRowNe f24 295 (by rw [f0]; decide)).trans ((fRow f13.1.2.1 295 (by decide +kernel)).trans (fRow f6.1.2.1 295 (by decide +kernel))))
  obtain ⟨k0, k6, zr, yb, yt⟩ := y1 on
  obtain ⟨e1, e2⟩ := ct on
  obtain ⟨s1, s2, s3⟩ := q3 hc
  rw [pBlocks_stop b0] at yb
  rw [pTable_stop b0] at yt
  rw [pDb_stop b0, List.append_nil] at e1
  have pt : (7 * hV H0 285 32 + 6).toNat = 7 * (hV H0 285 32).toNat + 6 := by omega
  rw [pt] at s1 s2 s3
  have cA : CRl H1 H5 (16 * (7 * hV H0 285 32 + 6)) := CRl_tr (CRl_8 e8a) (CRl_tr q1 (CRl_8 e8c))
  have mo : ∀ b : Nat, b < 6 → hV H5 296 (7 * (hV H0 285 32).toNat + b) = hV H1 296 (7 * (hV H0 285 32).toNat + b) := fun b hb => by rw [m2, q2 _ (by omega), r296]
  have old : lsRB H5 (hV H0 285 32).toNat (hV H1 294 (hV H0 285 32).toNat).toNat = lsRB H1 (hV H0 285 32).toNat (hV H1 294 (hV H0 285 32).toNat).toNat := lsRB_eq (fun b hb => ⟨mo b (by omega), fun k hk => recR_l cA (by have := e2 b hb; omega)⟩)
  have h32 : hV H5 285 32 = hV H0 285 32 := ((f25.1.2.1.1 285 32 (by decide +kernel)).trans ((uSlot f24 285 32 (by rw [f23]; decide)).trans ((f13.1.2.1.1 285 32 (by decide +kernel)).trans (f6.1.2.1.1 285 32 (by decide +kernel))))).trans f32_
  have bl : BLr H5 = BLr H1 := by
    unfold BLr
    rw [h32, f32_, h294]
    refine BLg_congr (fun k _ hk => ⟨by rw [h295], ?_⟩)
    rw [show hV H5 297 = hV H5 297 from rfl, m3 _ (by rw [e33]; omega), show hV H4 297 = hV H1 297 from (uRowNe f24 297 (by rw [f0]; decide)).trans ((fRow f13.1.2.1 297 (by decide +kernel)).trans (fRow f6.1.2.1 297 (by decide +kernel)))]
  rw [yt] at s3
  unfold FIR
  rw [h294, bl, old, yt, ← yb, m2]
  refine ⟨k0, k6, rfl, e1, ?_, fun b hb => ?_, s1, s2⟩
  · exact (lsR_eq (fun k _ => recR_eq (CRo_8 e8c))).trans s3
  · rw [mo b (by omega)]
    exact e2 b hb
def g_224y_10_0 : vG := ([(31, [12], [], 0), (20, [12, 1], [5], 13), (23, [1], [5], 12), (90, [12], [], 0), (91, [12], [], 2), (1226, [1], [4, 5], 0), (80, [1, 11, 10], [4, 3], 0), (0, [11], [], 33), (23, [1], [3], 12), (1, [10, 8, 9], [], 0), (0, [9], [], 6), (3, [8, 6, 7], [], 0), (20, [7, 1], [3], 32), (23, [1], [3], 12), (90, [7], [], 0), (91, [7], [], 7), (0, [6], [], 7), (1220, [1, 5], [2, 3], 0), (0, [5], [], 22), (20, [4, 1], [2], 11), (23, [1], [2], 12), (90, [4], [], 0), (91, [4], [], 500), (30, [3], [], 0), (1216, [3, 1, 2], [1, 2], 0), (90, [3], [], 0), (91, [3], [], 1), (0, [2], [], 20), (5000, [0, 1], [0, 1], 10), (0, [0], [], 285), (0, [1], [], 285)], (3000, [], [5], 90))
theorem c_224y_10_0 {q0 : Nat} : vOkm T0 (eN e_224w L_224y (eAB A_224 B_224) mu_224 y_224 By_224 (some q0)) 1 g_224y_10_0 := vOk_inI fun ρ η f0 f1 f2 f3 f4 f5 f6 f7 f8 f9 f10 f11 f12 f13 f14 f15 f16 f17 f18 f19 f20 f21 f22 f23 f24 f25 f26 f27 f28 f29 f30 => q_224y_1 (q0 := q0) (n0 := ρ 1) (n1 := ρ 0) (n2 := ρ 2) (n3 := ρ 3) (n4 := ρ 4) (n5 := ρ 5) (n6 := ρ 6) (n7 := ρ 7) (n8 := ρ 8) (n9 := ρ 9) (n10 := ρ 10) (n11 := ρ 11) (n12 := ρ 12) (H0 := η 0) (H1 := η 1) (H2 := η 2) (H3 := η 3) (H4 := η 4) (H5 := η 5) f30 f29 f28 f27 f26 f25 f24 f23 f22 f21 f20 f19 f18 f17 f16 f15 f14 f13 f12 f11 f10 f9 f8 f7 f6 f5 f4 f3 f2 f1 f0
theorem q_224y_2 {q0 : Nat} {n0 n1 n2 n3 n4 n5 n6 n7 n8 n9 n10 n11 n12 n13 : Int} {H0 H1 H2 H3 H4 H5 : gH} (f0 : n0 = 285) (f1 : n1 = 285) (f2 : (hLe T0 H0 H1 ∧ hFr s_224.2.2.2.2 H0 H1 ∧ hWt T0 H1) ∧ (((Ab_224_10 n1 n0 H0 H1 ∧ Bb_224_10 n1 n0 H0 H1) ∧ Byb_224_10 n1 n0 H0 H1) ∧ preb_224 n1 H0) ∧ some q0 = some (mub_224_10 n1 n0 H0 H1)) (f3 : n2 = 20) (f4 : n3 ≤ 1) (f5 : 0 ≤ n3) (f6 : (hLe T0 H1 H2 ∧ hFr s_216.2.2.2.2 H1 H2 ∧ ((0 : Int) = 0 → H2.length = H1.length) ∧ hWt T0 H2) ∧ postb_216 n3 n0 n2 H1 H2) (f7 : n3 = 0) (f8 : n4 ≤ 500) (f9 : 0 ≤ n4) (f10 : hK H2 (n0).toNat = 12) (f11 : n4 = hV H2 (n0).toNat 11) (f12 : n5 = 22) (f13 : (hLe T0 H2 H3 ∧ hFr s_220.2.2.2.2 H2 H3 ∧ ((0 : Int) = 0 → H3.length = H2.length) ∧ hWt T0 H3) ∧ (postb_220 n0 n5 H2 H3 ∧ nb_220 n0 n5 H2 H3)) (f14 : n6 = 7) (f15 : n7 ≤ 7) (f16 : 0 ≤ n7) (f17 : hK H3 (n0).toNat = 12) (f18 : n7 = hV H3 (n0).toNat 32) (f19 : n8 = w32 (n6 * n7)) (f20 : n9 = 6) (f21 : n10 = w32 (n8 + n9)) (f22 : hK H3 (n0).toNat = 12) (f23 : n11 = 33) (f24 : hUpd H4 H3 n0 n11 n10) (f25 : (hLe T0 H4 H5 ∧ hFr s_226.2.2.2.2 H4 H5 ∧ ((0 : Int) = 0 → H5.length = H4.length) ∧ hWt T0 H5) ∧ ((postb_226 n0 H4 H5 ∧ nb_226 n0 H4 H5) ∧ yb_226 n0 H4 H5)) (f26 : n12 ≤ 2) (f27 : 0 ≤ n12) (f28 : hK H5 (n0).toNat = 12) (f29 : n12 = hV H5 (n0).toNat 13) (f30 : n12 = 0) (f31 : n13 ≤ 6) (f32 : 0 ≤ n13) (f33 : hK H5 (n0).toNat = 12) (f34 : n13 = hV H5 (n0).toNat 15) (f35 : n13 ≠ 0) : yb_224 n1 H0 H5 := by
  unfold yb_224
  intro z
  have ga := f2.2.1.1.1.2
  unfold Bb_224_10 at ga
  obtain ⟨z1, y1, y2⟩ := ga z
  have vz : vwR H1 = vwR H0 := vwR_fr f2.1.2.1 (by decide +kernel)
  have gy := f2.2.1.1.2
  unfold Byb_224_10 at gy
  obtain ⟨cl, cp, ct⟩ := gy z
  have d11 := rdS (q := 285) f11 f0
  have d18 := rdS (q := 285) f18 f0
  have d29 := rdS (q := 285) f29 f0
  have d34 := rdS (q := 285) f34 f0
  have q7 := f7
  have q30 := f30
  have q35 := f35
  have f32_ : hV H1 285 32 = hV H0 285 32 := f2.1.2.1.1 285 32 (by decide +kernel)
  have p32_ : (0 : Int) ≤ hV H0 285 32 ∧ hV H0 285 32 ≤ 100 := by
    have q := f2.1.2.2 285 32 _ _ rW_32
    rw [f32_] at q
    exact q
  have p0 := PR_fr f6.1.2.1 (by decide +kernel) z1
  have v0 : vwR H2 = vwR H0 := p0.2.1.trans vz
  have ah0 : absR H2 = (absR H1) := p0.1
  have i0 := f6.2
  unfold postb_216 at i0
  rw [f3] at i0
  have cm0 := f7
  have b0 := (isR_or (k := 20) p0.2.2.1 (by decide) i0).resolve_left (fun w => absurd (w.1.symm.trans cm0) (by decide))
  replace b0 := b0.2
  rw [v0, ah0, kmc_20] at b0
  have c1 := f13.2.2 p0.2.2.1 (by rw [f12]; decide)
  try rw [f12] at c1
  rw [v0, ah0, kmc_22] at c1
  have v1 : vwR H3 = vwR H0 := (vwR_fr f13.1.2.1 (by decide +kernel)).trans v0
  have p2 := PR_slot (s := 33) f24 f0 f23 (by decide) c1.1
  have v2 : vwR H4 = vwR H0 := p2.2.1.trans v1
  have ah2 : absR H4 = (ptk (vwR H0) 18 (absR H1)) := p2.1.trans c1.2
  have g294 : hV H4 294 = hV H1 294 := (uRowNe f24 294 (by rw [f0]; decide)).trans ((fRow f13.1.2.1 294 (by decide +kernel)).trans (fRow f6.1.2.1 294 (by decide +kernel)))
  have g295 : hV H4 295 = hV H1 295 := (uRowNe f24 295 (by rw [f0]; decide)).trans ((fRow f13.1.2.1 295 (by decide +kernel)).trans (fRow f6.1.2.1 295 (by decide +kernel)))
  have g297 : hV H4 297 = hV H1 297 := (uRowNe f24 297 (by rw [f0]; decide)).trans ((fRow f13.1.2.1 297 (by decide +kernel)).trans (fRow f6.1.2.1 297 (by decide +kernel)))
  have g32 : hV H4 285 32 = hV H1 285 32 := (uSlot f24 285 32 (by rw [f23]; decide)).trans ((f13.1.2.1.1 285 32 (by decide +kernel)).trans (f6.1.2.1.1 285 32 (by decide +kernel)))
  have gsm := BLr_same g32 g294 g295 g297
  have r296 : hV H4 296 = hV H1 296 := (uRowNe f24 296 (by rw [f0]; decide)).trans ((fRow f13.1.2.1 296 (by decide +kernel)).trans (fRow f6.1.2.1 296 (by decide +kernel)))
  have zz : hV H4 285 13 = 0 → ZR H4 := fun c => gsm.2 (y1 (faultR_no z1 (pb_tk z (c := 18) (by rw [← ah2]; exact (absR_pos p2.2.2.1 c).2)).1)).2.2.1
  have n := f25.2.1.2 p2.2.2.1 zz
  rw [gsm.1, v2, ah2] at n
  obtain ⟨m1, ma, m3, m4⟩ := n
  have y := f25.2.2
  unfold yb_226 at y
  have y := y p2.2.2.1 zz
  rw [gsm.1, v2, ah2] at y
  obtain ⟨q1, q2, q3⟩ := y
  have s32 : n7 = hV H0 285 32 := by rw [d18, show hV H3 285 32 = hV H1 285 32 from (f13.1.2.1.1 285 32 (by decide +kernel)).trans (f6.1.2.1.1 285 32 (by decide +kernel)), f32_]
  have s19 : n8 = 7 * n7 := by
    have q := f19
    rw [f14] at q
    rw [q]
    exact w32_id (by omega) (by omega)
  have s21 : n10 = n8 + 6 := by
    have q := f21
    rw [f20] at q
    rw [q]
    exact w32_id (by omega) (by omega)
  have e33 : hV H4 285 33 = 7 * hV H0 285 32 + 6 := by
    rw [show hV H4 285 33 = n10 from uSame f24 285 33 (by rw [f0]; rfl) (by rw [f23]; rfl)]
    omega
  rw [e33] at q1 q2 q3
  have e8a : CR8 H1 H4 := (CR8_tr (CR8_fr f6.1.2.1 (by decide +kernel)) (CR8_tr (CR8_fr f13.1.2.1 (by decide +kernel)) (CR8_lo (q := 285) f24 f0 (by decide))))
  have e8c : CR8 H5 H5 := CR8_rfl
  have m2 : hV H5 296 = hV H5 296 := rfl
  have e13 : hV H5 285 13 = hV H5 285 13 := rfl
  refine ⟨CRl_tr cl (CRl_tr (CRl_8 e8a) (CRl_tr (CRl_le q1 (by omega)) (CRl_8 e8c))), fun k hk => ?_, fun hf hw => ?_, fun hf => ?_⟩
  · rw [m2, q2 k (by omega), r296]
    exact cp k hk
  · have pb := f25.2.1.1
    unfold postb_226 at pb
    have w2 : hV H5 285 32 = hV H0 285 32 := ((f25.1.2.1.1 285 32 (by decide +kernel)).trans ((uSlot f24 285 32 (by rw [f23]; decide)).trans ((f13.1.2.1.1 285 32 (by decide +kernel)).trans (f6.1.2.1.1 285 32 (by decide +kernel))))).trans f32_
    have w3 : hV H5 285 33 = hV H4 285 33 := f25.1.2.1.1 285 33 (by decide +kernel)
    exact ZP_of (pt := hV H5 285 33) (by omega) rfl (by omega) (pb.2.1 hf hw) pb.2.2.1
  have hc : hV H5 285 13 = 0 := e13.symm.trans hf
  have hp := (absR_pos m1 hc).2
  have on : hV H1 285 13 = 0 := Classical.byContradiction fun c => by
    have h1 := absR_neg z1 c
    rw [ma, ptk_neg (c := 18) h1 (absR_ok z1), pCuesR_neg h1, ptk_neg h1 (absR_ok z1)] at hp
    omega
  have h294 : hV H5 294 = hV H1 294 := (fRow f25.1.2.1 294 (by decide +kernel)).trans ((uRowNe f24 294 (by rw [f0]; decide)).trans ((fRow f13.1.2.1 294 (by decide +kernel)).trans (fRow f6.1.2.1 294 (by decide +kernel))))
  have h295 : hV H5 295 = hV H1 295 := (fRow f25.1.2.1 295 (by decide +kernel)).trans ((uRowNe f24 295 (by rw [f0]; decide)).trans ((fRow f13.1.2.1 295 (by decide +kernel)).trans (fRow f6.1.2.1 295 (by decide +kernel))))
  obtain ⟨k0, k6, zr, yb, yt⟩ := y1 on
  obtain ⟨e1, e2⟩ := ct on
  obtain ⟨s1, s2, s3⟩ := q3 hc
  rw [pBlocks_stop b0] at yb
  rw [pTable_stop b0] at yt
  rw [pDb_stop b0, List.append_nil] at e1
  have pt : (7 * hV H0 285 32 + 6).toNat = 7 * (hV H0 285 32).toNat + 6 := by omega
  rw [pt] at s1 s2 s3
  have cA : CRl H1 H5 (16 * (7 * hV H0 285 32 + 6)) := CRl_tr (CRl_8 e8a) (CRl_tr q1 (CRl_8 e8c))
  have mo : ∀ b : Nat, b < 6 → hV H5 296 (7 * (hV H0 285 32).toNat + b) = hV H1 296 (7 * (hV H0 285 32).toNat + b) := fun b hb => by rw [m2, q2 _ (by omega), r296]
  have old : lsRB H5 (hV H0 285 32).toNat (hV H1 294 (hV H0 285 32).toNat).toNat = lsRB H1 (hV H0 285 32).toNat (hV H1 294 (hV H0 285 32).toNat).toNat := lsRB_eq (fun b hb => ⟨mo b (by omega), fun k hk => recR_l cA (by have := e2 b hb; omega)⟩)
  have h32 : hV H5 285 32 = hV H0 285 32 := ((f25.1.2.1.1 285 32 (by decide +kernel)).trans ((uSlot f24 285 32 (by rw [f23]; decide)).trans ((f13.1.2.1.1 285 32 (by decide +kernel)).trans (f6.1.2.1.1 285 32 (by decide +kernel))))).trans f32_
  have bl : BLr H5 = BLr H1 := by
    unfold BLr
    rw [h32, f32_, h294]
    refine BLg_congr (fun k _ hk => ⟨by rw [h295], ?_⟩)
    rw [show hV H5 297 = hV H5 297 from rfl, m3 _ (by rw [e33]; omega), show hV H4 297 = hV H1 297 from (uRowNe f24 297 (by rw [f0]; decide)).trans ((fRow f13.1.2.1 297 (by decide +kernel)).trans (fRow f6.1.2.1 297 (by decide +kernel)))]
  rw [yt] at s3
  unfold FIR
  rw [h294, bl, old, yt, ← yb, m2]
  refine ⟨k0, k6, rfl, e1, ?_, fun b hb => ?_, s1, s2⟩
  · exact (lsR_eq (fun k _ => recR_eq (CRo_8 e8c))).trans s3
  · rw [mo b (by omega)]
    exact e2 b hb
def g_224y_10_1 : vG := ([(31, [13], [], 0), (20, [13, 1], [5], 15), (23, [1], [5], 12), (90, [13], [], 0), (91, [13], [], 6), (30, [12], [], 0), (20, [12, 1], [5], 13), (23, [1], [5], 12), (90, [12], [], 0), (91, [12], [], 2), (1226, [1], [4, 5], 0), (80, [1, 11, 10], [4, 3], 0), (0, [11], [], 33), (23, [1], [3], 12), (1, [10, 8, 9], [], 0), (0, [9], [], 6), (3, [8, 6, 7], [], 0), (20, [7, 1], [3], 32), (23, [1], [3], 12), (90, [7], [], 0), (91, [7], [], 7), (0, [6], [], 7), (1220, [1, 5], [2, 3], 0), (0, [5], [], 22), (20, [4, 1], [2], 11), (23, [1], [2], 12), (90, [4], [], 0), (91, [4], [], 500), (30, [3], [], 0), (1216, [3, 1, 2], [1, 2], 0), (90, [3], [], 0), (91, [3], [], 1), (0, [2], [], 20), (5000, [0, 1], [0, 1], 10), (0, [0], [], 285), (0, [1], [], 285)], (3000, [], [5], 90))
theorem c_224y_10_1 {q0 : Nat} : vOkm T0 (eN e_224w L_224y (eAB A_224 B_224) mu_224 y_224 By_224 (some q0)) 1 g_224y_10_1 := vOk_inI fun ρ η f0 f1 f2 f3 f4 f5 f6 f7 f8 f9 f10 f11 f12 f13 f14 f15 f16 f17 f18 f19 f20 f21 f22 f23 f24 f25 f26 f27 f28 f29 f30 f31 f32 f33 f34 f35 => q_224y_2 (q0 := q0) (n0 := ρ 1) (n1 := ρ 0) (n2 := ρ 2) (n3 := ρ 3) (n4 := ρ 4) (n5 := ρ 5) (n6 := ρ 6) (n7 := ρ 7) (n8 := ρ 8) (n9 := ρ 9) (n10 := ρ 10) (n11 := ρ 11) (n12 := ρ 12) (n13 := ρ 13) (H0 := η 0) (H1 := η 1) (H2 := η 2) (H3 := η 3) (H4 := η 4) (H5 := η 5) f35 f34 f33 f32 f31 f30 f29 f28 f27 f26 f25 f24 f23 f22 f21 f20 f19 f18 f17 f16 f15 f14 f13 f12 f11 f10 f9 f8 f7 f6 f5 f4 f3 f2 f1 f0
theorem q_224y_3 {q0 : Nat} {n0 n1 n2 n3 n4 n5 n6 n7 n8 n9 n10 n11 n12 n13 n14 n15 n16 n17 : Int} {H0 H1 H2 H3 H4 H5 : gH} (f0 : n0 = 285) (f1 : n1 = 285) (f2 : (hLe T0 H0 H1 ∧ hFr s_224.2.2.2.2 H0 H1 ∧ hWt T0 H1) ∧ (((Ab_224_10 n1 n0 H0 H1 ∧ Bb_224_10 n1 n0 H0 H1) ∧ Byb_224_10 n1 n0 H0 H1) ∧ preb_224 n1 H0) ∧ some q0 = some (mub_224_10 n1 n0 H0 H1)) (f3 : n2 = 20) (f4 : n3 ≤ 1) (f5 : 0 ≤ n3) (f6 : (hLe T0 H1 H2 ∧ hFr s_216.2.2.2.2 H1 H2 ∧ ((0 : Int) = 0 → H2.length = H1.length) ∧ hWt T0 H2) ∧ postb_216 n3 n0 n2 H1 H2) (f7 : n3 = 0) (f8 : n4 ≤ 500) (f9 : 0 ≤ n4) (f10 : hK H2 (n0).toNat = 12) (f11 : n4 = hV H2 (n0).toNat 11) (f12 : n5 = 22) (f13 : (hLe T0 H2 H3 ∧ hFr s_220.2.2.2.2 H2 H3 ∧ ((0 : Int) = 0 → H3.length = H2.length) ∧ hWt T0 H3) ∧ (postb_220 n0 n5 H2 H3 ∧ nb_220 n0 n5 H2 H3)) (f14 : n6 = 7) (f15 : n7 ≤ 7) (f16 : 0 ≤ n7) (f17 : hK H3 (n0).toNat = 12) (f18 : n7 = hV H3 (n0).toNat 32) (f19 : n8 = w32 (n6 * n7)) (f20 : n9 = 6) (f21 : n10 = w32 (n8 + n9)) (f22 : hK H3 (n0).toNat = 12) (f23 : n11 = 33) (f24 : hUpd H4 H3 n0 n11 n10) (f25 : (hLe T0 H4 H5 ∧ hFr s_226.2.2.2.2 H4 H5 ∧ ((0 : Int) = 0 → H5.length = H4.length) ∧ hWt T0 H5) ∧ ((postb_226 n0 H4 H5 ∧ nb_226 n0 H4 H5) ∧ yb_226 n0 H4 H5)) (f26 : n12 ≤ 2) (f27 : 0 ≤ n12) (f28 : hK H5 (n0).toNat = 12) (f29 : n12 = hV H5 (n0).toNat 13) (f30 : n12 = 0) (f31 : n13 ≤ 6) (f32 : 0 ≤ n13) (f33 : hK H5 (n0).toNat = 12) (f34 : n13 = hV H5 (n0).toNat 15) (f35 : n13 = 0) (f36 : n14 = 297) (f37 : hK H5 (n0).toNat = 12) (f38 : n14 = hV H5 (n0).toNat 23) (f39 : n15 ≤ 62) (f40 : 0 ≤ n15) (f41 : hK H5 (n0).toNat = 12) (f42 : n15 = hV H5 (n0).toNat 33) (f43 : n16 ≤ 2000) (f44 : 0 ≤ n16) (f45 : n16 = hV H5 (n14).toNat (n15).toNat) (f46 : n17 = 40) (f47 : n16 ≤ n17) : yb_224 n1 H0 H5 := by
  unfold yb_224
  intro z
  have ga := f2.2.1.1.1.2
  unfold Bb_224_10 at ga
  obtain ⟨z1, y1, y2⟩ := ga z
  have vz : vwR H1 = vwR H0 := vwR_fr f2.1.2.1 (by decide +kernel)
  have gy := f2.2.1.1.2
  unfold Byb_224_10 at gy
  obtain ⟨cl, cp, ct⟩ := gy z
  have d11 := rdS (q := 285) f11 f0
  have d18 := rdS (q := 285) f18 f0
  have d29 := rdS (q := 285) f29 f0
  have d34 := rdS (q := 285) f34 f0
  have d42 := rdS (q := 285) f42 f0
  have d45 := rdW (q := 297) f45 f36
  have q7 := f7
  have q30 := f30
  have q35 := f35
  have q47 := f47
  have qc46 := f46
  have f32_ : hV H1 285 32 = hV H0 285 32 := f2.1.2.1.1 285 32 (by decide +kernel)
  have p32_ : (0 : Int) ≤ hV H0 285 32 ∧ hV H0 285 32 ≤ 100 := by
    have q := f2.1.2.2 285 32 _ _ rW_32
    rw [f32_] at q
    exact q
  have p0 := PR_fr f6.1.2.1 (by decide +kernel) z1
  have v0 : vwR H2 = vwR H0 := p0.2.1.trans vz
  have ah0 : absR H2 = (absR H1) := p0.1
  have i0 := f6.2
  unfold postb_216 at i0
  rw [f3] at i0
  have cm0 := f7
  have b0 := (isR_or (k := 20) p0.2.2.1 (by decide) i0).resolve_left (fun w => absurd (w.1.symm.trans cm0) (by decide))
  replace b0 := b0.2
  rw [v0, ah0, kmc_20] at b0
  have c1 := f13.2.2 p0.2.2.1 (by rw [f12]; decide)
  try rw [f12] at c1
  rw [v0, ah0, kmc_22] at c1
  have v1 : vwR H3 = vwR H0 := (vwR_fr f13.1.2.1 (by decide +kernel)).trans v0
  have p2 := PR_slot (s := 33) f24 f0 f23 (by decide) c1.1
  have v2 : vwR H4 = vwR H0 := p2.2.1.trans v1
  have ah2 : absR H4 = (ptk (vwR H0) 18 (absR H1)) := p2.1.trans c1.2
  have g294 : hV H4 294 = hV H1 294 := (uRowNe f24 294 (by rw [f0]; decide)).trans ((fRow f13.1.2.1 294 (by decide +kernel)).trans (fRow f6.1.2.1 294 (by decide +kernel)))
  have g295 : hV H4 295 = hV H1 295 := (uRowNe f24 295 (by rw [f0]; decide)).trans ((fRow f13.1.2.1 295 (by decide +kernel)).trans (fRow f6.1.2.1 295 (by decide +kernel)))
  have g297 : hV H4 297 = hV H1 297 := (uRowNe f24 297 (by rw [f0]; decide)).trans ((fRow f13.1.2.1 297 (by decide +kernel)).trans (fRow f6.1.2.1 297 (by decide +kernel)))
  have g32 : hV H4 285 32 = hV H1 285 32 := (uSlot f24 285 32 (by rw [f23]; decide)).trans ((f13.1.2.1.1 285 32 (by decide +kernel)).trans (f6.1.2.1.1 285 32 (by decide +kernel)))
  have gsm := BLr_same g32 g294 g295 g297
  have r296 : hV H4 296 = hV H1 296 := (uRowNe f24 296 (by rw [f0]; decide)).trans ((fRow f13.1.2.1 296 (by decide +kernel)).trans (fRow f6.1.2.1 296 (by decide +kernel)))
  have zz : hV H4 285 13 = 0 → ZR H4 := fun c => gsm.2 (y1 (faultR_no z1 (pb_tk z (c := 18) (by rw [← ah2]; exact (absR_pos p2.2.2.1 c).2)).1)).2.2.1
  have n := f25.2.1.2 p2.2.2.1 zz
  rw [gsm.1, v2, ah2] at n
  obtain ⟨m1, ma, m3, m4⟩ := n
  have y := f25.2.2
  unfold yb_226 at y
  have y := y p2.2.2.1 zz
  rw [gsm.1, v2, ah2] at y
  obtain ⟨q1, q2, q3⟩ := y
  have s32 : n7 = hV H0 285 32 := by rw [d18, show hV H3 285 32 = hV H1 285 32 from (f13.1.2.1.1 285 32 (by decide +kernel)).trans (f6.1.2.1.1 285 32 (by decide +kernel)), f32_]
  have s19 : n8 = 7 * n7 := by
    have q := f19
    rw [f14] at q
    rw [q]
    exact w32_id (by omega) (by omega)
  have s21 : n10 = n8 + 6 := by
    have q := f21
    rw [f20] at q
    rw [q]
    exact w32_id (by omega) (by omega)
  have e33 : hV H4 285 33 = 7 * hV H0 285 32 + 6 := by
    rw [show hV H4 285 33 = n10 from uSame f24 285 33 (by rw [f0]; rfl) (by rw [f23]; rfl)]
    omega
  rw [e33] at q1 q2 q3
  have e8a : CR8 H1 H4 := (CR8_tr (CR8_fr f6.1.2.1 (by decide +kernel)) (CR8_tr (CR8_fr f13.1.2.1 (by decide +kernel)) (CR8_lo (q := 285) f24 f0 (by decide))))
  have e8c : CR8 H5 H5 := CR8_rfl
  have m2 : hV H5 296 = hV H5 296 := rfl
  have e13 : hV H5 285 13 = hV H5 285 13 := rfl
  refine ⟨CRl_tr cl (CRl_tr (CRl_8 e8a) (CRl_tr (CRl_le q1 (by omega)) (CRl_8 e8c))), fun k hk => ?_, fun hf hw => ?_, fun hf => ?_⟩
  · rw [m2, q2 k (by omega), r296]
    exact cp k hk
  · have pb := f25.2.1.1
    unfold postb_226 at pb
    have w2 : hV H5 285 32 = hV H0 285 32 := ((f25.1.2.1.1 285 32 (by decide +kernel)).trans ((uSlot f24 285 32 (by rw [f23]; decide)).trans ((f13.1.2.1.1 285 32 (by decide +kernel)).trans (f6.1.2.1.1 285 32 (by decide +kernel))))).trans f32_
    have w3 : hV H5 285 33 = hV H4 285 33 := f25.1.2.1.1 285 33 (by decide +kernel)
    exact ZP_of (pt := hV H5 285 33) (by omega) rfl (by omega) (pb.2.1 hf hw) pb.2.2.1
  have hc : hV H5 285 13 = 0 := e13.symm.trans hf
  have hp := (absR_pos m1 hc).2
  have on : hV H1 285 13 = 0 := Classical.byContradiction fun c => by
    have h1 := absR_neg z1 c
    rw [ma, ptk_neg (c := 18) h1 (absR_ok z1), pCuesR_neg h1, ptk_neg h1 (absR_ok z1)] at hp
    omega
  have h294 : hV H5 294 = hV H1 294 := (fRow f25.1.2.1 294 (by decide +kernel)).trans ((uRowNe f24 294 (by rw [f0]; decide)).trans ((fRow f13.1.2.1 294 (by decide +kernel)).trans (fRow f6.1.2.1 294 (by decide +kernel))))
  have h295 : hV H5 295 = hV H1 295 := (fRow f25.1.2.1 295 (by decide +kernel)).trans ((uRowNe f24 295 (by rw [f0]; decide)).trans ((fRow f13.1.2.1 295 (by decide +kernel)).trans (fRow f6.1.2.1 295 (by decide +kernel))))
  obtain ⟨k0, k6, zr, yb, yt⟩ := y1 on
  obtain ⟨e1, e2⟩ := ct on
  obtain ⟨s1, s2, s3⟩ := q3 hc
  rw [pBlocks_stop b0] at yb
  rw [pTable_stop b0] at yt
  rw [pDb_stop b0, List.append_nil] at e1
  have pt : (7 * hV H0 285 32 + 6).toNat = 7 * (hV H0 285 32).toNat + 6 := by omega
  rw [pt] at s1 s2 s3
  have cA : CRl H1 H5 (16 * (7 * hV H0 285 32 + 6)) := CRl_tr (CRl_8 e8a) (CRl_tr q1 (CRl_8 e8c))
  have mo : ∀ b : Nat, b < 6 → hV H5 296 (7 * (hV H0 285 32).toNat + b) = hV H1 296 (7 * (hV H0 285 32).toNat + b) := fun b hb => by rw [m2, q2 _ (by omega), r296]
  have old : lsRB H5 (hV H0 285 32).toNat (hV H1 294 (hV H0 285 32).toNat).toNat = lsRB H1 (hV H0 285 32).toNat (hV H1 294 (hV H0 285 32).toNat).toNat := lsRB_eq (fun b hb => ⟨mo b (by omega), fun k hk => recR_l cA (by have := e2 b hb; omega)⟩)
  have h32 : hV H5 285 32 = hV H0 285 32 := ((f25.1.2.1.1 285 32 (by decide +kernel)).trans ((uSlot f24 285 32 (by rw [f23]; decide)).trans ((f13.1.2.1.1 285 32 (by decide +kernel)).trans (f6.1.2.1.1 285 32 (by decide +kernel))))).trans f32_
  have bl : BLr H5 = BLr H1 := by
    unfold BLr
    rw [h32, f32_, h294]
    refine BLg_congr (fun k _ hk => ⟨by rw [h295], ?_⟩)
    rw [show hV H5 297 = hV H5 297 from rfl, m3 _ (by rw [e33]; omega), show hV H4 297 = hV H1 297 from (uRowNe f24 297 (by rw [f0]; decide)).trans ((fRow f13.1.2.1 297 (by decide +kernel)).trans (fRow f6.1.2.1 297 (by decide +kernel)))]
  rw [yt] at s3
  unfold FIR
  rw [h294, bl, old, yt, ← yb, m2]
  refine ⟨k0, k6, rfl, e1, ?_, fun b hb => ?_, s1, s2⟩
  · exact (lsR_eq (fun k _ => recR_eq (CRo_8 e8c))).trans s3
  · rw [mo b (by omega)]
    exact e2 b hb
def g_224y_10_2 : vG := ([(45, [16, 17], [], 0), (0, [17], [], 40), (22, [16, 14, 15], [5], 0), (90, [16], [], 0), (91, [16], [], 2000), (20, [15, 1], [5], 33), (23, [1], [5], 12), (90, [15], [], 0), (91, [15], [], 62), (20, [14, 1], [5], 23), (23, [1], [5], 12), (0, [14], [], 297), (30, [13], [], 0), (20, [13, 1], [5], 15), (23, [1], [5], 12), (90, [13], [], 0), (91, [13], [], 6), (30, [12], [], 0), (20, [12, 1], [5], 13), (23, [1], [5], 12), (90, [12], [], 0), (91, [12], [], 2), (1226, [1], [4, 5], 0), (80, [1, 11, 10], [4, 3], 0), (0, [11], [], 33), (23, [1], [3], 12), (1, [10, 8, 9], [], 0), (0, [9], [], 6), (3, [8, 6, 7], [], 0), (20, [7, 1], [3], 32), (23, [1], [3], 12), (90, [7], [], 0), (91, [7], [], 7), (0, [6], [], 7), (1220, [1, 5], [2, 3], 0), (0, [5], [], 22), (20, [4, 1], [2], 11), (23, [1], [2], 12), (90, [4], [], 0), (91, [4], [], 500), (30, [3], [], 0), (1216, [3, 1, 2], [1, 2], 0), (90, [3], [], 0), (91, [3], [], 1), (0, [2], [], 20), (5000, [0, 1], [0, 1], 10), (0, [0], [], 285), (0, [1], [], 285)], (3000, [], [5], 90))
theorem c_224y_10_2 {q0 : Nat} : vOkm T0 (eN e_224w L_224y (eAB A_224 B_224) mu_224 y_224 By_224 (some q0)) 1 g_224y_10_2 := vOk_inI fun ρ η f0 f1 f2 f3 f4 f5 f6 f7 f8 f9 f10 f11 f12 f13 f14 f15 f16 f17 f18 f19 f20 f21 f22 f23 f24 f25 f26 f27 f28 f29 f30 f31 f32 f33 f34 f35 f36 f37 f38 f39 f40 f41 f42 f43 f44 f45 f46 f47 => q_224y_3 (q0 := q0) (n0 := ρ 1) (n1 := ρ 0) (n2 := ρ 2) (n3 := ρ 3) (n4 := ρ 4) (n5 := ρ 5) (n6 := ρ 6) (n7 := ρ 7) (n8 := ρ 8) (n9 := ρ 9) (n10 := ρ 10) (n11 := ρ 11) (n12 := ρ 12) (n13 := ρ 13) (n14 := ρ 14) (n15 := ρ 15) (n16 := ρ 16) (n17 := ρ 17) (H0 := η 0) (H1 := η 1) (H2 := η 2) (H3 := η 3) (H4 := η 4) (H5 := η 5) f47 f46 f45 f44 f43 f42 f41 f40 f39 f38 f37 f36 f35 f34 f33 f32 f31 f30 f29 f28 f27 f26 f25 f24 f23 f22 f21 f20 f19 f18 f17 f16 f15 f14 f13 f12 f11 f10 f9 f8 f7 f6 f5 f4 f3 f2 f1 f0
theorem q_224y_4 {q0 : Nat} {n0 n1 n2 n3 n4 n5 n6 n7 n8 n9 n10 n11 n12 n13 n14 n15 n16 n17 n18 : Int} {H0 H1 H2 H3 H4 H5 H6 : gH} (f0 : n0 = 285) (f1 : n1 = 285) (f2 : (hLe T0 H0 H1 ∧ hFr s_224.2.2.2.2 H0 H1 ∧ hWt T0 H1) ∧ (((Ab_224_10 n1 n0 H0 H1 ∧ Bb_224_10 n1 n0 H0 H1) ∧ Byb_224_10 n1 n0 H0 H1) ∧ preb_224 n1 H0) ∧ some q0 = some (mub_224_10 n1 n0 H0 H1)) (f3 : n2 = 20) (f4 : n3 ≤ 1) (f5 : 0 ≤ n3) (f6 : (hLe T0 H1 H2 ∧ hFr s_216.2.2.2.2 H1 H2 ∧ ((0 : Int) = 0 → H2.length = H1.length) ∧ hWt T0 H2) ∧ postb_216 n3 n0 n2 H1 H2) (f7 : n3 = 0) (f8 : n4 ≤ 500) (f9 : 0 ≤ n4) (f10 : hK H2 (n0).toNat = 12) (f11 : n4 = hV H2 (n0).toNat 11) (f12 : n5 = 22) (f13 : (hLe T0 H2 H3 ∧ hFr s_220.2.2.2.2 H2 H3 ∧ ((0 : Int) = 0 → H3.length = H2.length) ∧ hWt T0 H3) ∧ (postb_220 n0 n5 H2 H3 ∧ nb_220 n0 n5 H2 H3)) (f14 : n6 = 7) (f15 : n7 ≤ 7) (f16 : 0 ≤ n7) (f17 : hK H3 (n0).toNat = 12) (f18 : n7 = hV H3 (n0).toNat 32) (f19 : n8 = w32 (n6 * n7)) (f20 : n9 = 6) (f21 : n10 = w32 (n8 + n9)) (f22 : hK H3 (n0).toNat = 12) (f23 : n11 = 33) (f24 : hUpd H4 H3 n0 n11 n10) (f25 : (hLe T0 H4 H5 ∧ hFr s_226.2.2.2.2 H4 H5 ∧ ((0 : Int) = 0 → H5.length = H4.length) ∧ hWt T0 H5) ∧ ((postb_226 n0 H4 H5 ∧ nb_226 n0 H4 H5) ∧ yb_226 n0 H4 H5)) (f26 : n12 ≤ 2) (f27 : 0 ≤ n12) (f28 : hK H5 (n0).toNat = 12) (f29 : n12 = hV H5 (n0).toNat 13) (f30 : n12 = 0) (f31 : n13 ≤ 6) (f32 : 0 ≤ n13) (f33 : hK H5 (n0).toNat = 12) (f34 : n13 = hV H5 (n0).toNat 15) (f35 : n13 = 0) (f36 : n14 = 297) (f37 : hK H5 (n0).toNat = 12) (f38 : n14 = hV H5 (n0).toNat 23) (f39 : n15 ≤ 62) (f40 : 0 ≤ n15) (f41 : hK H5 (n0).toNat = 12) (f42 : n15 = hV H5 (n0).toNat 33) (f43 : n16 ≤ 2000) (f44 : 0 ≤ n16) (f45 : n16 = hV H5 (n14).toNat (n15).toNat) (f46 : n17 = 40) (f47 : n17 < n16) (f48 : n18 = 6) (f49 : (hLe T0 H5 H6 ∧ hFr s_218.2.2.2.2 H5 H6 ∧ ((0 : Int) = 0 → H6.length = H5.length) ∧ hWt T0 H6) ∧ (postb_218 n0 n18 n4 H5 H6 ∧ nb_218 n0 n18 n4 H5 H6)) : yb_224 n1 H0 H6 := by
  unfold yb_224
  intro z
  have ga := f2.2.1.1.1.2
  unfold Bb_224_10 at ga
  obtain ⟨z1, y1, y2⟩ := ga z
  have vz : vwR H1 = vwR H0 := vwR_fr f2.1.2.1 (by decide +kernel)
  have gy := f2.2.1.1.2
  unfold Byb_224_10 at gy
  obtain ⟨cl, cp, ct⟩ := gy z
  have d11 := rdS (q := 285) f11 f0
  have d18 := rdS (q := 285) f18 f0
  have d29 := rdS (q := 285) f29 f0
  have d34 := rdS (q := 285) f34 f0
  have d42 := rdS (q := 285) f42 f0
  have d45 := rdW (q := 297) f45 f36
  have q7 := f7
  have q30 := f30
  have q35 := f35
  have q47 := f47
  have qc46 := f46
  have f32_ : hV H1 285 32 = hV H0 285 32 := f2.1.2.1.1 285 32 (by decide +kernel)
  have p32_ : (0 : Int) ≤ hV H0 285 32 ∧ hV H0 285 32 ≤ 100 := by
    have q := f2.1.2.2 285 32 _ _ rW_32
    rw [f32_] at q
    exact q
  have p0 := PR_fr f6.1.2.1 (by decide +kernel) z1
  have v0 : vwR H2 = vwR H0 := p0.2.1.trans vz
  have ah0 : absR H2 = (absR H1) := p0.1
  have i0 := f6.2
  unfold postb_216 at i0
  rw [f3] at i0
  have cm0 := f7
  have b0 := (isR_or (k := 20) p0.2.2.1 (by decide) i0).resolve_left (fun w => absurd (w.1.symm.trans cm0) (by decide))
  replace b0 := b0.2
  rw [v0, ah0, kmc_20] at b0
  have c1 := f13.2.2 p0.2.2.1 (by rw [f12]; decide)
  try rw [f12] at c1
  rw [v0, ah0, kmc_22] at c1
  have v1 : vwR H3 = vwR H0 := (vwR_fr f13.1.2.1 (by decide +kernel)).trans v0
  have p2 := PR_slot (s := 33) f24 f0 f23 (by decide) c1.1
  have v2 : vwR H4 = vwR H0 := p2.2.1.trans v1
  have ah2 : absR H4 = (ptk (vwR H0) 18 (absR H1)) := p2.1.trans c1.2
  have g294 : hV H4 294 = hV H1 294 := (uRowNe f24 294 (by rw [f0]; decide)).trans ((fRow f13.1.2.1 294 (by decide +kernel)).trans (fRow f6.1.2.1 294 (by decide +kernel)))
  have g295 : hV H4 295 = hV H1 295 := (uRowNe f24 295 (by rw [f0]; decide)).trans ((fRow f13.1.2.1 295 (by decide +kernel)).trans (fRow f6.1.2.1 295 (by decide +kernel)))
  have g297 : hV H4 297 = hV H1 297 := (uRowNe f24 297 (by rw [f0]; decide)).trans ((fRow f13.1.2.1 297 (by decide +kernel)).trans (fRow f6.1.2.1 297 (by decide +kernel)))
  have g32 : hV H4 285 32 = hV H1 285 32 := (uSlot f24 285 32 (by rw [f23]; decide)).trans ((f13.1.2.1.1 285 32 (by decide +kernel)).trans (f6.1.2.1.1 285 32 (by decide +kernel)))
  have gsm := BLr_same g32 g294 g295 g297
  have r296 : hV H4 296 = hV H1 296 := (uRowNe f24 296 (by rw [f0]; decide)).trans ((fRow f13.1.2.1 296 (by decide +kernel)).trans (fRow f6.1.2.1 296 (by decide +kernel)))
  have zz : hV H4 285 13 = 0 → ZR H4 := fun c => gsm.2 (y1 (faultR_no z1 (pb_tk z (c := 18) (by rw [← ah2]; exact (absR_pos p2.2.2.1 c).2)).1)).2.2.1
  have n := f25.2.1.2 p2.2.2.1 zz
  rw [gsm.1, v2, ah2] at n
  obtain ⟨m1, ma, m3, m4⟩ := n
  have y := f25.2.2
  unfold yb_226 at y
  have y := y p2.2.2.1 zz
  rw [gsm.1, v2, ah2] at y
  obtain ⟨q1, q2, q3⟩ := y
  have s32 : n7 = hV H0 285 32 := by rw [d18, show hV H3 285 32 = hV H1 285 32 from (f13.1.2.1.1 285 32 (by decide +kernel)).trans (f6.1.2.1.1 285 32 (by decide +kernel)), f32_]
  have s19 : n8 = 7 * n7 := by
    have q := f19
    rw [f14] at q
    rw [q]
    exact w32_id (by omega) (by omega)
  have s21 : n10 = n8 + 6 := by
    have q := f21
    rw [f20] at q
    rw [q]
    exact w32_id (by omega) (by omega)
  have e33 : hV H4 285 33 = 7 * hV H0 285 32 + 6 := by
    rw [show hV H4 285 33 = n10 from uSame f24 285 33 (by rw [f0]; rfl) (by rw [f23]; rfl)]
    omega
  rw [e33] at q1 q2 q3
  have e8a : CR8 H1 H4 := (CR8_tr (CR8_fr f6.1.2.1 (by decide +kernel)) (CR8_tr (CR8_fr f13.1.2.1 (by decide +kernel)) (CR8_lo (q := 285) f24 f0 (by decide))))
  have e8c : CR8 H5 H6 := (CR8_fr f49.1.2.1 (by decide +kernel))
  have m2 : hV H6 296 = hV H5 296 := fRow f49.1.2.1 296 (by decide +kernel)
  have ww := f49.2.2
  unfold nb_218 WRs at ww
  have e13 : hV H6 285 13 = hV H5 285 13 := ww.2.1
  refine ⟨CRl_tr cl (CRl_tr (CRl_8 e8a) (CRl_tr (CRl_le q1 (by omega)) (CRl_8 e8c))), fun k hk => ?_, fun hf hw => ?_, fun hf => ?_⟩
  · rw [m2, q2 k (by omega), r296]
    exact cp k hk
  · have w := f49.2.1
    unfold postb_218 at w
    omega
  have hc : hV H5 285 13 = 0 := e13.symm.trans hf
  have hp := (absR_pos m1 hc).2
  have on : hV H1 285 13 = 0 := Classical.byContradiction fun c => by
    have h1 := absR_neg z1 c
    rw [ma, ptk_neg (c := 18) h1 (absR_ok z1), pCuesR_neg h1, ptk_neg h1 (absR_ok z1)] at hp
    omega
  have h294 : hV H6 294 = hV H1 294 := (fRow f49.1.2.1 294 (by decide +kernel)).trans ((fRow f25.1.2.1 294 (by decide +kernel)).trans ((uRowNe f24 294 (by rw [f0]; decide)).trans ((fRow f13.1.2.1 294 (by decide +kernel)).trans (fRow f6.1.2.1 294 (by decide +kernel)))))
  have h295 : hV H6 295 = hV H1 295 := (fRow f49.1.2.1 295 (by decide +kernel)).trans ((fRow f25.1.2.1 295 (by decide +kernel)).trans ((uRowNe f24 295 (by rw [f0]; decide)).trans ((fRow f13.1.2.1 295 (by decide +kernel)).trans (fRow f6.1.2.1 295 (by decide +kernel)))))
  obtain ⟨k0, k6, zr, yb, yt⟩ := y1 on
  obtain ⟨e1, e2⟩ := ct on
  obtain ⟨s1, s2, s3⟩ := q3 hc
  rw [pBlocks_stop b0] at yb
  rw [pTable_stop b0] at yt
  rw [pDb_stop b0, List.append_nil] at e1
  have pt : (7 * hV H0 285 32 + 6).toNat = 7 * (hV H0 285 32).toNat + 6 := by omega
  rw [pt] at s1 s2 s3
  have cA : CRl H1 H6 (16 * (7 * hV H0 285 32 + 6)) := CRl_tr (CRl_8 e8a) (CRl_tr q1 (CRl_8 e8c))
  have mo : ∀ b : Nat, b < 6 → hV H6 296 (7 * (hV H0 285 32).toNat + b) = hV H1 296 (7 * (hV H0 285 32).toNat + b) := fun b hb => by rw [m2, q2 _ (by omega), r296]
  have old : lsRB H6 (hV H0 285 32).toNat (hV H1 294 (hV H0 285 32).toNat).toNat = lsRB H1 (hV H0 285 32).toNat (hV H1 294 (hV H0 285 32).toNat).toNat := lsRB_eq (fun b hb => ⟨mo b (by omega), fun k hk => recR_l cA (by have := e2 b hb; omega)⟩)
  have h32 : hV H6 285 32 = hV H0 285 32 := ((f49.1.2.1.1 285 32 (by decide +kernel)).trans ((f25.1.2.1.1 285 32 (by decide +kernel)).trans ((uSlot f24 285 32 (by rw [f23]; decide)).trans ((f13.1.2.1.1 285 32 (by decide +kernel)).trans (f6.1.2.1.1 285 32 (by decide +kernel)))))).trans f32_
  have bl : BLr H6 = BLr H1 := by
    unfold BLr
    rw [h32, f32_, h294]
    refine BLg_congr (fun k _ hk => ⟨by rw [h295], ?_⟩)
    rw [show hV H6 297 = hV H5 297 from fRow f49.1.2.1 297 (by decide +kernel), m3 _ (by rw [e33]; omega), show hV H4 297 = hV H1 297 from (uRowNe f24 297 (by rw [f0]; decide)).trans ((fRow f13.1.2.1 297 (by decide +kernel)).trans (fRow f6.1.2.1 297 (by decide +kernel)))]
  rw [yt] at s3
  unfold FIR
  rw [h294, bl, old, yt, ← yb, m2]
  refine ⟨k0, k6, rfl, e1, ?_, fun b hb => ?_, s1, s2⟩
  · exact (lsR_eq (fun k _ => recR_eq (CRo_8 e8c))).trans s3
  · rw [mo b (by omega)]
    exact e2 b hb
def g_224y_10_3 : vG := ([(1218, [1, 18, 4], [5, 6], 0), (0, [18], [], 6), (44, [16, 17], [], 0), (0, [17], [], 40), (22, [16, 14, 15], [5], 0), (90, [16], [], 0), (91, [16], [], 2000), (20, [15, 1], [5], 33), (23, [1], [5], 12), (90, [15], [], 0), (91, [15], [], 62), (20, [14, 1], [5], 23), (23, [1], [5], 12), (0, [14], [], 297), (30, [13], [], 0), (20, [13, 1], [5], 15), (23, [1], [5], 12), (90, [13], [], 0), (91, [13], [], 6), (30, [12], [], 0), (20, [12, 1], [5], 13), (23, [1], [5], 12), (90, [12], [], 0), (91, [12], [], 2), (1226, [1], [4, 5], 0), (80, [1, 11, 10], [4, 3], 0), (0, [11], [], 33), (23, [1], [3], 12), (1, [10, 8, 9], [], 0), (0, [9], [], 6), (3, [8, 6, 7], [], 0), (20, [7, 1], [3], 32), (23, [1], [3], 12), (90, [7], [], 0), (91, [7], [], 7), (0, [6], [], 7), (1220, [1, 5], [2, 3], 0), (0, [5], [], 22), (20, [4, 1], [2], 11), (23, [1], [2], 12), (90, [4], [], 0), (91, [4], [], 500), (30, [3], [], 0), (1216, [3, 1, 2], [1, 2], 0), (90, [3], [], 0), (91, [3], [], 1), (0, [2], [], 20), (5000, [0, 1], [0, 1], 10), (0, [0], [], 285), (0, [1], [], 285)], (3000, [], [6], 90))
theorem c_224y_10_3 {q0 : Nat} : vOkm T0 (eN e_224w L_224y (eAB A_224 B_224) mu_224 y_224 By_224 (some q0)) 1 g_224y_10_3 := vOk_inI fun ρ η f0 f1 f2 f3 f4 f5 f6 f7 f8 f9 f10 f11 f12 f13 f14 f15 f16 f17 f18 f19 f20 f21 f22 f23 f24 f25 f26 f27 f28 f29 f30 f31 f32 f33 f34 f35 f36 f37 f38 f39 f40 f41 f42 f43 f44 f45 f46 f47 f48 f49 => q_224y_4 (q0 := q0) (n0 := ρ 1) (n1 := ρ 0) (n2 := ρ 2) (n3 := ρ 3) (n4 := ρ 4) (n5 := ρ 5) (n6 := ρ 6) (n7 := ρ 7) (n8 := ρ 8) (n9 := ρ 9) (n10 := ρ 10) (n11 := ρ 11) (n12 := ρ 12) (n13 := ρ 13) (n14 := ρ 14) (n15 := ρ 15) (n16 := ρ 16) (n17 := ρ 17) (n18 := ρ 18) (H0 := η 0) (H1 := η 1) (H2 := η 2) (H3 := η 3) (H4 := η 4) (H5 := η 5) (H6 := η 6) f49 f48 f47 f46 f45 f44 f43 f42 f41 f40 f39 f38 f37 f36 f35 f34 f33 f32 f31 f30 f29 f28 f27 f26 f25 f24 f23 f22 f21 f20 f19 f18 f17 f16 f15 f14 f13 f12 f11 f10 f9 f8 f7 f6 f5 f4 f3 f2 f1 f0
theorem q_224y_5 {q0 : Nat} {n0 n1 n2 n3 : Int} {H0 H1 H2 H3 : gH} (f0 : n0 = 285) (f1 : n1 = 285) (f2 : (hLe T0 H0 H1 ∧ hFr s_224.2.2.2.2 H0 H1 ∧ hWt T0 H1) ∧ (((Ab_224_10 n1 n0 H0 H1 ∧ Bb_224_10 n1 n0 H0 H1) ∧ Byb_224_10 n1 n0 H0 H1) ∧ preb_224 n1 H0) ∧ some q0 = some (mub_224_10 n1 n0 H0 H1)) (f3 : n2 = 20) (f4 : n3 ≤ 1) (f5 : 0 ≤ n3) (f6 : (hLe T0 H1 H2 ∧ hFr s_216.2.2.2.2 H1 H2 ∧ ((0 : Int) = 0 → H2.length = H1.length) ∧ hWt T0 H2) ∧ postb_216 n3 n0 n2 H1 H2) (f7 : n3 ≠ 0) (f8 : (hLe T0 H2 H3 ∧ hFr s_225.2.2.2.2 H2 H3 ∧ ((0 : Int) = 0 → H3.length = H2.length) ∧ hWt T0 H3) ∧ ((postb_225 n0 H2 H3 ∧ nb_225 n0 H2 H3) ∧ yb_225 n0 H2 H3)) : Byb_224_10 n1 n0 H0 H3 := by
  unfold Byb_224_10
  intro z
  have ga := f2.2.1.1.1.2
  unfold Bb_224_10 at ga
  obtain ⟨z1, y1, y2⟩ := ga z
  have vz : vwR H1 = vwR H0 := vwR_fr f2.1.2.1 (by decide +kernel)
  have gy := f2.2.1.1.2
  unfold Byb_224_10 at gy
  obtain ⟨cl, cp, ct⟩ := gy z
  have q7 := f7
  have f32_ : hV H1 285 32 = hV H0 285 32 := f2.1.2.1.1 285 32 (by decide +kernel)
  have p32 : (0 : Int) ≤ hV H0 285 32 ∧ hV H0 285 32 ≤ 100 := by
    have q := f2.1.2.2 285 32 _ _ rW_32
    rw [f32_] at q
    exact q
  have p0 := PR_fr f6.1.2.1 (by decide +kernel) z1
  have v0 : vwR H2 = vwR H0 := p0.2.1.trans vz
  have ah0 : absR H2 = (absR H1) := p0.1
  have i0 := f6.2
  unfold postb_216 at i0
  rw [f3] at i0
  have cm0 := f7
  have b0 := (isR_or (k := 20) p0.2.2.1 (by decide) i0).resolve_right (fun w => cm0 w.1)
  replace b0 := b0.2
  rw [v0, ah0, kmc_20] at b0
  have g294 : hV H2 294 = hV H1 294 := fRow f6.1.2.1 294 (by decide +kernel)
  have g295 : hV H2 295 = hV H1 295 := fRow f6.1.2.1 295 (by decide +kernel)
  have g297 : hV H2 297 = hV H1 297 := fRow f6.1.2.1 297 (by decide +kernel)
  have g32 : hV H2 285 32 = hV H1 285 32 := f6.1.2.1.1 285 32 (by decide +kernel)
  have gsm := BLr_same g32 g294 g295 g297
  have r296 : hV H2 296 = hV H1 296 := fRow f6.1.2.1 296 (by decide +kernel)
  have fz := faultR_no z1 (kdR_pos b0 (by decide))
  obtain ⟨k0, k6, zr, yb, yt⟩ := y1 fz
  have n := f8.2.1.2 p0.2.2.1 (gsm.2 zr) (by rw [v0, ah0]; exact b0)
  rw [gsm.1, g32, f32_, g294, v0, ah0] at n
  obtain ⟨m1, m2, m3⟩ := n
  have y := f8.2.2
  unfold yb_225 at y
  have y := y p0.2.2.1 (gsm.2 zr) (by rw [v0, ah0]; exact b0)
  rw [gsm.1, g32, f32_, g294, v0, ah0] at y
  obtain ⟨q1, q2, q3⟩ := y
  have e8 : CR8 H1 H2 := (CR8_fr f6.1.2.1 (by decide +kernel))
  have c1 : CRl H1 H3 (16 * (7 * hV H0 285 32 + hV H1 294 (hV H0 285 32).toNat)) := CRl_tr (CRl_8 e8) q1
  refine ⟨CRl_tr cl (CRl_le c1 (by omega)), fun k hk => (q2 k (by omega)).trans ((congrFun r296 k).trans (cp k hk)), fun c => ?_⟩
  obtain ⟨w1, w2, w3⟩ := m3 c
  obtain ⟨e1, e2⟩ := ct fz
  obtain ⟨s1, s2, s3⟩ := q3 c
  rcases m2 with ⟨w6, w⟩ | ⟨w6, w⟩
  · exact absurd c (faultR_of m1 (by rw [w]; exact pfailR_lt z (by decide)))
  · have pt : (7 * hV H0 285 32 + hV H1 294 (hV H0 285 32).toNat).toNat = 7 * (hV H0 285 32).toNat + (hV H1 294 (hV H0 285 32).toNat).toNat := by omega
    rw [pt] at s1 s2 s3
    have old : lsRB H3 (hV H0 285 32).toNat (hV H1 294 (hV H0 285 32).toNat).toNat = lsRB H1 (hV H0 285 32).toNat (hV H1 294 (hV H0 285 32).toNat).toNat := lsRB_eq (fun b hb => ⟨(q2 _ (by omega)).trans (congrFun r296 _), fun k hk => recR_l c1 (by have := e2 b hb; omega)⟩)
    rw [w1, w2, w]
    rw [show (6 - hV H1 294 (hV H0 285 32).toNat).toNat = (6 - (hV H1 294 (hV H0 285 32).toNat + 1)).toNat + 1 by omega, pDb_step b0] at e1
    refine ⟨?_, fun b hb => ?_⟩
    · rw [show (hV H1 294 (hV H0 285 32).toNat + 1).toNat = (hV H1 294 (hV H0 285 32).toNat).toNat + 1 by omega, lsRB_snoc, old, s3]
      exact e1
    · by_cases hb2 : b < (hV H1 294 (hV H0 285 32).toNat).toNat
      · rw [(q2 (7 * (hV H0 285 32).toNat + b) (by omega)).trans (congrFun r296 _)]
        exact e2 b hb2
      · rw [show b = (hV H1 294 (hV H0 285 32).toNat).toNat by omega]
        exact ⟨s1, s2⟩
def g_224y_10_4 : vG := ([(1225, [1], [2, 3], 0), (31, [3], [], 0), (1216, [3, 1, 2], [1, 2], 0), (90, [3], [], 0), (91, [3], [], 1), (0, [2], [], 20), (5000, [0, 1], [0, 1], 10), (0, [0], [], 285), (0, [1], [], 285)], (4000, [1], [3], 10))
theorem c_224y_10_4 {q0 : Nat} : vOkm T0 (eN e_224w L_224y (eAB A_224 B_224) mu_224 y_224 By_224 (some q0)) 1 g_224y_10_4 := vOk_inI fun ρ η f0 f1 f2 f3 f4 f5 f6 f7 f8 => q_224y_5 (q0 := q0) (n0 := ρ 1) (n1 := ρ 0) (n2 := ρ 2) (n3 := ρ 3) (H0 := η 0) (H1 := η 1) (H2 := η 2) (H3 := η 3) f8 f7 f6 f5 f4 f3 f2 f1 f0
def p_224y_10 : List vG := [g_224y_10_0,
  g_224y_10_1,
  g_224y_10_2,
  g_224y_10_3,
  g_224y_10_4]
theorem r_224y_10 : vCovBO (eRc e_224w L_224w cs_224 2000 (10, [(0, (3, 12, 285, 0))])) p_224y_10 = true := by decide +kernel
theorem o_224y : eOK e_224y L_224y cs_224 2000 (eAB (eAB A_224 B_224) By_224) mu_224 := eOK_ref (p1 := p_224y_s) o_224w (sub0 (sub0 (sub0 (sub1 (sub1 trivial))))) r_224y_s (allC c_224y_s_0 allN) (allC ⟨p_224y_10, r_224y_10, fun q0 => (allC c_224y_10_0 (allC c_224y_10_1 (allC c_224y_10_2 (allC c_224y_10_3 (allC c_224y_10_4 allN)))))⟩ allN)
theorem m_224y (d : Nat) : eC e_224y (d + 10) := eC_OK (d := d + 9) o_224y rfl ⟨m_216 (d + 8), ⟨m_218w (d + 8), ⟨m_220w (d + 6), ⟨m_225y d, ⟨m_226y (d + 1), trivial⟩⟩⟩⟩⟩ rfl (.inl rfl) (by decide +kernel)
