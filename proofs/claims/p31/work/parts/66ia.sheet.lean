/-! CONTRACTS of methods told more fully. -/
/- MixStageModel.frameOf (III)I, more fully -/
def nb_269 (r a0 a1 a2 a3 : Int) (h0 h : gH) : Prop := r = frM (hV h0 340) a1 a2 a3
def n_269 : List Int → gH → gH → Prop := fun xs h0 h => match xs with
  | [r, a0, a1, a2, a3] => nb_269 r a0 a1 a2 a3 h0 h
  | _ => True
noncomputable def e_269w : vE := eV e_269 n_269
noncomputable def L_269w : List vE := []
def B_269 : Int → List Int → gH → gH → Prop := fun c xs h0 h => True
theorem q_269w_0 {n0 n1 n2 n3 n4 n5 n6 n7 : Int} {H0 : gH} (f0 : n0 ≤ 1000) (f1 : (-1000) ≤ n0) (f2 : n1 ≤ 9999) (f3 : (-9999) ≤ n1) (f4 : n2 ≤ 7) (f5 : (-1) ≤ n2) (f6 : n3 = 285) (f7 : hWt T0 H0 ∧ True) (f8 : n4 = (-1)) (f9 : n2 ≠ n4) (f10 : n5 = 340) (f11 : hK H0 (n3).toNat = 12) (f12 : n5 = hV H0 (n3).toNat 78) (f13 : n6 ≤ 60) (f14 : 0 ≤ n6) (f15 : n6 = hV H0 (n5).toNat (n2).toNat) (f16 : n7 = w32 (n6 + n1)) : nb_269 n7 n3 n2 n1 n0 H0 H0 := by
  unfold nb_269 frM
  have d15 := rdW (q := 340) f15 f10
  have q9 := f9
  have qc8 := f8
  have rg13 := f13
  have rg14 := f14
  have s16 : n7 = n6 + n1 := by
    have q := f16
    rw [q]
    exact w32_id (by omega) (by omega)
  rw [if_neg (by omega)]
  omega
def g_269w_s_0 : vG := ([(1, [7, 6, 2], [], 0), (22, [6, 5, 1], [0], 0), (90, [6], [], 0), (91, [6], [], 60), (20, [5, 0], [0], 78), (23, [0], [0], 12), (0, [5], [], 340), (41, [1, 4], [], 0), (0, [4], [], -1), (6000, [0, 1, 2, 3], [0], 0), (0, [0], [], 285), (90, [1], [], -1), (91, [1], [], 7), (90, [2], [], -9999), (91, [2], [], 9999), (90, [3], [], -1000), (91, [3], [], 1000)], (3000, [7], [0], 19))
theorem c_269w_s_0 : vOkm T0 (eN e_269 L_269w A_269 mu_269 n_269 B_269 none) 4 g_269w_s_0 := vOk_inI fun ρ η f0 f1 f2 f3 f4 f5 f6 f7 f8 f9 f10 f11 f12 f13 f14 f15 f16 => q_269w_0 (n0 := ρ 3) (n1 := ρ 2) (n2 := ρ 1) (n3 := ρ 0) (n4 := ρ 4) (n5 := ρ 5) (n6 := ρ 6) (n7 := ρ 7) (H0 := η 0) f16 f15 f14 f13 f12 f11 f10 f9 f8 f7 f6 f5 f4 f3 f2 f1 f0
theorem q_269w_1 {n0 n1 n2 n3 n4 n5 : Int} {H0 : gH} (f0 : n0 ≤ 1000) (f1 : (-1000) ≤ n0) (f2 : n1 ≤ 9999) (f3 : (-9999) ≤ n1) (f4 : n2 ≤ 7) (f5 : (-1) ≤ n2) (f6 : n3 = 285) (f7 : hWt T0 H0 ∧ True) (f8 : n4 = (-1)) (f9 : n2 = n4) (f10 : n5 = w32 (n1 + n0)) : nb_269 n5 n3 n2 n1 n0 H0 H0 := by
  unfold nb_269 frM
  have q9 := f9
  have qc8 := f8
  have s10 : n5 = n1 + n0 := by
    have q := f10
    rw [q]
    exact w32_id (by omega) (by omega)
  rw [if_pos (by omega)]
  omega
def g_269w_s_1 : vG := ([(1, [5, 2, 3], [], 0), (40, [1, 4], [], 0), (0, [4], [], -1), (6000, [0, 1, 2, 3], [0], 0), (0, [0], [], 285), (90, [1], [], -1), (91, [1], [], 7), (90, [2], [], -9999), (91, [2], [], 9999), (90, [3], [], -1000), (91, [3], [], 1000)], (3000, [5], [0], 19))
theorem c_269w_s_1 : vOkm T0 (eN e_269 L_269w A_269 mu_269 n_269 B_269 none) 4 g_269w_s_1 := vOk_inI fun ρ η f0 f1 f2 f3 f4 f5 f6 f7 f8 f9 f10 => q_269w_1 (n0 := ρ 3) (n1 := ρ 2) (n2 := ρ 1) (n3 := ρ 0) (n4 := ρ 4) (n5 := ρ 5) (H0 := η 0) f10 f9 f8 f7 f6 f5 f4 f3 f2 f1 f0
def p_269w_s : List vG := [g_269w_s_0,
  g_269w_s_1]
theorem r_269w_s : vCovBO (eR0 e_269 L_269 cs_269 2000) p_269w_s = true := by decide +kernel
theorem m_269w (d : Nat) : eC e_269w (d + 1) := eC_ref (e := e_269) (L := L_269) (L' := L_269w) (cs := cs_269) (n := 2000) (d := d + 0) (A := A_269) (μ := mu_269) (tp := false) (p0 := p_269_s) (p1 := p_269w_s) (N := n_269) (B := B_269) rfl trivial rfl (.inr pre0_ok) (by decide +kernel) (fun z => nomatch z) r_269_s (allC c_269_s_0 (allC c_269_s_1 (allC c_269_s_2 (allC c_269_s_3 (allC c_269_s_4 (allC c_269_s_5 (allC c_269_s_6 allN))))))) allN trivial r_269w_s (allC c_269w_s_0 (allC c_269w_s_1 allN)) allN
/- MixStageModel.unfolds (I)V, more fully -/
def nb_270 (a0 a1 : Int) (h0 h : gH) : Prop := xsL (hV h 344) (hV h 345) (hV h 285 82) = flS (hV h0 296) (hV h0 298) (hV h0 300) (hV h0 301) (hV h0 302) (hV h0 340) (7 * (a1).toNat) 7 6 0
def n_270 : List Int → gH → gH → Prop := fun xs h0 h => match xs with
  | [a0, a1] => nb_270 a0 a1 h0 h
  | _ => True
noncomputable def e_270w : vE := eV e_270 n_270
noncomputable def L_270w : List vE := [e_269w]
def Bb_270_34 (a0 a1 x0 x1 x2 : Int) (h0 h : gH) : Prop := USp (hV h0 296) (hV h0 298) (hV h0 300) (hV h0 301) (hV h0 302) (hV h0 340) (hV h 344) (hV h 345) (hV h 346) (hV h 347) (hV h 348) (a1).toNat (hV h 285 82) x2
def B_270 : Int → List Int → gH → gH → Prop := fun c xs h0 h => match c.toNat with
  | 34 => (match xs with
    | [a0, a1, x0, x1, x2] => Bb_270_34 a0 a1 x0 x1 x2 h0 h
    | _ => False)
  | _ => True
theorem q_270w_0 {n0 n1 n2 n3 n4 n5 n6 n7 n8 n9 n10 n11 n12 n13 n14 n15 n16 : Int} {H0 H1 H2 H3 H4 : gH} (f0 : n0 ≤ 7) (f1 : 0 ≤ n0) (f2 : n1 = 285) (f3 : hWt T0 H0 ∧ preb_270 n1 n0 H0) (f4 : n2 = 0) (f5 : hK H0 (n1).toNat = 12) (f6 : n3 = 82) (f7 : hUpd H1 H0 n1 n3 n2) (f8 : n4 = 0) (f9 : n5 = 346) (f10 : hK H1 (n1).toNat = 12) (f11 : n5 = hV H1 (n1).toNat 85) (f12 : n6 = 0) (f13 : n7 = 7) (f14 : n8 = w32 (n7 * n0)) (f15 : n9 = 6) (f16 : n10 = w32 (n8 + n9)) (f17 : hK H1 (n5).toNat = 596) (f18 : hUpd H2 H1 n5 n6 n10) (f19 : n11 = 347) (f20 : hK H2 (n1).toNat = 12) (f21 : n11 = hV H2 (n1).toNat 86) (f22 : n12 = 0) (f23 : n13 = 0) (f24 : hK H2 (n11).toNat = 604) (f25 : hUpd H3 H2 n11 n12 n13) (f26 : n14 = 348) (f27 : hK H3 (n1).toNat = 12) (f28 : n14 = hV H3 (n1).toNat 87) (f29 : n15 = 0) (f30 : n16 = 0) (f31 : hK H3 (n14).toNat = 612) (f32 : hUpd H4 H3 n14 n15 n16) : Bb_270_34 n1 n0 n1 n0 n4 H0 H4 := by
  unfold Bb_270_34
  have s14 : n8 = 7 * n0 := by
    have q := f14
    rw [f13] at q
    rw [q]
    exact w32_id (by omega) (by omega)
  have s16 : n10 = n8 + 6 := by
    have q := f16
    rw [f15] at q
    rw [q]
    exact w32_id (by omega) (by omega)
  have r346 : hV H4 346 = uF (hV H0 346) n6 n10 := (uRowNe f32 346 (by rw [f26]; decide)).trans ((uRowNe f25 346 (by rw [f19]; decide)).trans ((uRowQ f18 346 f9).trans (congrArg (fun g => uF g n6 n10) ((uRowNe f7 346 (by rw [f2]; decide)).trans rfl))))
  have r347 : hV H4 347 = uF (hV H0 347) n12 n13 := (uRowNe f32 347 (by rw [f26]; decide)).trans ((uRowQ f25 347 f19).trans (congrArg (fun g => uF g n12 n13) ((uRowNe f18 347 (by rw [f9]; decide)).trans ((uRowNe f7 347 (by rw [f2]; decide)).trans rfl))))
  have r348 : hV H4 348 = uF (hV H0 348) n15 n16 := (uRowQ f32 348 f26).trans (congrArg (fun g => uF g n15 n16) ((uRowNe f25 348 (by rw [f19]; decide)).trans ((uRowNe f18 348 (by rw [f9]; decide)).trans ((uRowNe f7 348 (by rw [f2]; decide)).trans rfl))))
  have l0 : hV H4 285 82 = 0 := ((uPlace f32 285 82 (by rw [f26]; decide)).trans ((uPlace f25 285 82 (by rw [f19]; decide)).trans ((uPlace f18 285 82 (by rw [f9]; decide)).trans (uSame f7 285 82 (by rw [f2]; rfl) (by rw [f6]; rfl))))).trans f4
  have k2 := f2
  have k4 := f4
  have k6 := f6
  have k8 := f8
  have k9 := f9
  have k12 := f12
  have k13 := f13
  have k15 := f15
  have k19 := f19
  have k22 := f22
  have k23 := f23
  have k26 := f26
  have k29 := f29
  have k30 := f30
  rw [r346, r347, r348]
  exact USp_first l0 (by omega) (by omega) (by omega) (by omega) (by omega) (by omega) (by omega)
def g_270w_s_0 : vG := ([(80, [14, 15, 16], [4, 3], 0), (23, [14], [3], 612), (0, [16], [], 0), (0, [15], [], 0), (20, [14, 0], [3], 87), (23, [0], [3], 12), (0, [14], [], 348), (80, [11, 12, 13], [3, 2], 0), (23, [11], [2], 604), (0, [13], [], 0), (0, [12], [], 0), (20, [11, 0], [2], 86), (23, [0], [2], 12), (0, [11], [], 347), (80, [5, 6, 10], [2, 1], 0), (23, [5], [1], 596), (1, [10, 8, 9], [], 0), (0, [9], [], 6), (3, [8, 7, 1], [], 0), (0, [7], [], 7), (0, [6], [], 0), (20, [5, 0], [1], 85), (23, [0], [1], 12), (0, [5], [], 346), (0, [4], [], 0), (80, [0, 3, 2], [1, 0], 0), (0, [3], [], 82), (23, [0], [0], 12), (0, [2], [], 0), (6000, [0, 1], [0], 0), (0, [0], [], 285), (90, [1], [], 0), (91, [1], [], 7)], (4000, [0, 1, 4], [4], 34))
theorem c_270w_s_0 : vOkm T0 (eN e_270 L_270w A_270 mu_270 n_270 B_270 none) 2 g_270w_s_0 := vOk_inI fun ρ η f0 f1 f2 f3 f4 f5 f6 f7 f8 f9 f10 f11 f12 f13 f14 f15 f16 f17 f18 f19 f20 f21 f22 f23 f24 f25 f26 f27 f28 f29 f30 f31 f32 => q_270w_0 (n0 := ρ 1) (n1 := ρ 0) (n2 := ρ 2) (n3 := ρ 3) (n4 := ρ 4) (n5 := ρ 5) (n6 := ρ 6) (n7 := ρ 7) (n8 := ρ 8) (n9 := ρ 9) (n10 := ρ 10) (n11 := ρ 11) (n12 := ρ 12) (n13 := ρ 13) (n14 := ρ 14) (n15 := ρ 15) (n16 := ρ 16) (H0 := η 0) (H1 := η 1) (H2 := η 2) (H3 := η 3) (H4 := η 4) f32 f31 f30 f29 f28 f27 f26 f25 f24 f23 f22 f21 f20 f19 f18 f17 f16 f15 f14 f13 f12 f11 f10 f9 f8 f7 f6 f5 f4 f3 f2 f1 f0
def p_270w_s : List vG := [g_270w_s_0]
theorem r_270w_s : vCovBO (eR0 e_270 L_270 cs_270 2000) p_270w_s = true := by decide +kernel
theorem q_270w_1 {q0 : Nat} {n0 n1 n2 n3 n4 : Int} {H0 H1 : gH} (f0 : n0 ≤ 6) (f1 : (-1) ≤ n0) (f2 : n1 ≤ 7) (f3 : 0 ≤ n1) (f4 : n2 = 285) (f5 : n3 ≤ 7) (f6 : 0 ≤ n3) (f7 : n4 = 285) (f8 : (hLe T0 H0 H1 ∧ hFr s_270.2.2.2.2 H0 H1 ∧ hWt T0 H1) ∧ ((Ab_270_34 n4 n3 n2 n1 n0 H0 H1 ∧ Bb_270_34 n4 n3 n2 n1 n0 H0 H1) ∧ preb_270 n4 n3 H0) ∧ some q0 = some (mub_270_34 n4 n3 n2 n1 n0 H0 H1)) (f9 : n0 < 0) : nb_270 n4 n3 H0 H1 := by
  unfold nb_270
  have pz := f8.2.1.2
  unfold preb_270 at pz
  have gb := f8.2.1.1.2
  unfold Bb_270_34 at gb
  have aa := f8.2.1.1.1
  unfold Ab_270_34 at aa
  obtain ⟨a0, aL, aS, aU⟩ := aa
  have q9 := f9
  exact USp_end gb (by omega)
def g_270w_34_0 : vG := ([(32, [4], [], 0), (5000, [0, 1, 2, 3, 4], [0, 1], 34), (0, [0], [], 285), (90, [1], [], 0), (91, [1], [], 7), (0, [2], [], 285), (90, [3], [], 0), (91, [3], [], 7), (90, [4], [], -1), (91, [4], [], 6)], (3000, [], [1], 203))
theorem c_270w_34_0 {q0 : Nat} : vOkm T0 (eN e_270 L_270w A_270 mu_270 n_270 B_270 (some q0)) 2 g_270w_34_0 := vOk_inI fun ρ η f0 f1 f2 f3 f4 f5 f6 f7 f8 f9 => q_270w_1 (q0 := q0) (n0 := ρ 4) (n1 := ρ 3) (n2 := ρ 2) (n3 := ρ 1) (n4 := ρ 0) (H0 := η 0) (H1 := η 1) f9 f8 f7 f6 f5 f4 f3 f2 f1 f0
theorem q_270w_2 {q0 : Nat} {n0 n1 n2 n3 n4 n5 n6 n7 n8 n9 n10 n11 n12 n13 n14 n15 n16 n17 n18 n19 n20 n21 n22 n23 n24 n25 n26 n27 n28 n29 n30 n31 n32 n33 n34 n35 n36 n37 n38 n39 n40 n41 n42 n43 n44 n45 n46 n47 : Int} {H0 H1 H2 H3 H4 H5 H6 : gH} (f0 : n0 ≤ 6) (f1 : (-1) ≤ n0) (f2 : n1 ≤ 7) (f3 : 0 ≤ n1) (f4 : n2 = 285) (f5 : n3 ≤ 7) (f6 : 0 ≤ n3) (f7 : n4 = 285) (f8 : (hLe T0 H0 H1 ∧ hFr s_270.2.2.2.2 H0 H1 ∧ hWt T0 H1) ∧ ((Ab_270_34 n4 n3 n2 n1 n0 H0 H1 ∧ Bb_270_34 n4 n3 n2 n1 n0 H0 H1) ∧ preb_270 n4 n3 H0) ∧ some q0 = some (mub_270_34 n4 n3 n2 n1 n0 H0 H1)) (f9 : 0 ≤ n0) (f10 : n5 = 347) (f11 : hK H1 (n2).toNat = 12) (f12 : n5 = hV H1 (n2).toNat 86) (f13 : n6 ≤ 16) (f14 : 0 ≤ n6) (f15 : n6 = hV H1 (n5).toNat (n0).toNat) (f16 : n7 = 296) (f17 : hK H1 (n2).toNat = 12) (f18 : n7 = hV H1 (n2).toNat 22) (f19 : n8 = 346) (f20 : hK H1 (n2).toNat = 12) (f21 : n8 = hV H1 (n2).toNat 85) (f22 : n9 ≤ 62) (f23 : 0 ≤ n9) (f24 : n9 = hV H1 (n8).toNat (n0).toNat) (f25 : n10 ≤ 16) (f26 : 0 ≤ n10) (f27 : n10 = hV H1 (n7).toNat (n9).toNat) (f28 : n6 ≠ n10) (f29 : n11 = 16) (f30 : n12 = 346) (f31 : hK H1 (n2).toNat = 12) (f32 : n12 = hV H1 (n2).toNat 85) (f33 : n13 ≤ 62) (f34 : 0 ≤ n13) (f35 : n13 = hV H1 (n12).toNat (n0).toNat) (f36 : n14 = w32 (n11 * n13)) (f37 : n15 = 347) (f38 : hK H1 (n2).toNat = 12) (f39 : n15 = hV H1 (n2).toNat 86) (f40 : n16 ≤ 16) (f41 : 0 ≤ n16) (f42 : n16 = hV H1 (n15).toNat (n0).toNat) (f43 : n17 = w32 (n14 + n16)) (f44 : n18 = 347) (f45 : hK H1 (n2).toNat = 12) (f46 : n18 = hV H1 (n2).toNat 86) (f47 : n19 ≤ 16) (f48 : 0 ≤ n19) (f49 : n19 = hV H1 (n18).toNat (n0).toNat) (f50 : n20 = 1) (f51 : n21 = w32 (n19 + n20)) (f52 : hK H1 (n18).toNat = 604) (f53 : hUpd H2 H1 n18 n0 n21) (f54 : n22 = 298) (f55 : hK H2 (n2).toNat = 12) (f56 : n22 = hV H2 (n2).toNat 24) (f57 : n23 ≤ 5) (f58 : 0 ≤ n23) (f59 : n23 = hV H2 (n22).toNat (n17).toNat) (f60 : n24 = 5) (f61 : n23 = n24) (f62 : n25 = 348) (f63 : hK H2 (n2).toNat = 12) (f64 : n25 = hV H2 (n2).toNat 87) (f65 : n26 = 1) (f66 : n27 = w32 (n0 + n26)) (f67 : n28 = 301) (f68 : hK H2 (n2).toNat = 12) (f69 : n28 = hV H2 (n2).toNat 27) (f70 : n29 ≤ 9999) (f71 : (-1) ≤ n29) (f72 : n29 = hV H2 (n28).toNat (n17).toNat) (f73 : n30 = 302) (f74 : hK H2 (n2).toNat = 12) (f75 : n30 = hV H2 (n2).toNat 28) (f76 : n31 ≤ 9999) (f77 : (-9999) ≤ n31) (f78 : n31 = hV H2 (n30).toNat (n17).toNat) (f79 : n32 = 348) (f80 : hK H2 (n2).toNat = 12) (f81 : n32 = hV H2 (n2).toNat 87) (f82 : n33 ≤ 1000) (f83 : (-1000) ≤ n33) (f84 : n33 = hV H2 (n32).toNat (n0).toNat) (f85 : n34 ≤ 10999) (f86 : (-10999) ≤ n34) (f87 : (hLe T0 H2 H3 ∧ hFr s_269.2.2.2.2 H2 H3 ∧ ((0 : Int) = 0 → H3.length = H2.length) ∧ hWt T0 H3) ∧ (postb_269 n34 n2 n29 n31 n33 H2 H3 ∧ nb_269 n34 n2 n29 n31 n33 H2 H3)) (f88 : hK H3 (n25).toNat = 612) (f89 : hUpd H4 H3 n25 n27 n34) (f90 : n35 = 346) (f91 : hK H4 (n2).toNat = 12) (f92 : n35 = hV H4 (n2).toNat 85) (f93 : n36 = 1) (f94 : n37 = w32 (n0 + n36)) (f95 : n38 = 7) (f96 : n39 = w32 (n38 * n1)) (f97 : n40 = 300) (f98 : hK H4 (n2).toNat = 12) (f99 : n40 = hV H4 (n2).toNat 26) (f100 : n41 ≤ 9999) (f101 : (-1) ≤ n41) (f102 : n41 = hV H4 (n40).toNat (n17).toNat) (f103 : n42 = w32 (n39 + n41)) (f104 : hK H4 (n35).toNat = 596) (f105 : hUpd H5 H4 n35 n37 n42) (f106 : n43 = 347) (f107 : hK H5 (n2).toNat = 12) (f108 : n43 = hV H5 (n2).toNat 86) (f109 : n44 = 1) (f110 : n45 = w32 (n0 + n44)) (f111 : n46 = 0) (f112 : hK H5 (n43).toNat = 604) (f113 : hUpd H6 H5 n43 n45 n46) (f114 : n47 = w32 (n0 + 1)) : Bb_270_34 n4 n3 n2 n1 n47 H0 H6 := by
  unfold Bb_270_34
  have pz := f8.2.1.2
  unfold preb_270 at pz
  have gb := f8.2.1.1.2
  unfold Bb_270_34 at gb
  have aa := f8.2.1.1.1
  unfold Ab_270_34 at aa
  obtain ⟨a0, aL, aS, aU⟩ := aa
  have q9 := f9
  have q28 := f28
  have q61 := f61
  have qc60 := f60
  have q114 := f114
  unfold w32 at q114
  have b294 : hV H1 294 = hV H0 294 := fRow f8.1.2.1 294 (by decide +kernel)
  have b296 : hV H1 296 = hV H0 296 := fRow f8.1.2.1 296 (by decide +kernel)
  have b298 : hV H1 298 = hV H0 298 := fRow f8.1.2.1 298 (by decide +kernel)
  have b300 : hV H1 300 = hV H0 300 := fRow f8.1.2.1 300 (by decide +kernel)
  have b301 : hV H1 301 = hV H0 301 := fRow f8.1.2.1 301 (by decide +kernel)
  have b302 : hV H1 302 = hV H0 302 := fRow f8.1.2.1 302 (by decide +kernel)
  have b303 : hV H1 303 = hV H0 303 := fRow f8.1.2.1 303 (by decide +kernel)
  have b305 : hV H1 305 = hV H0 305 := fRow f8.1.2.1 305 (by decide +kernel)
  have b340 : hV H1 340 = hV H0 340 := fRow f8.1.2.1 340 (by decide +kernel)
  rw [b294, b296] at aL
  have d15 := rdW (q := 347) f15 f10
  have d24 := rdW (q := 346) f24 f19
  have d27 := rdW (q := 296) f27 f16
  have d35 := rdW (q := 346) f35 f30
  have d42 := rdW (q := 347) f42 f37
  have d49 := rdW (q := 347) f49 f44
  have d59 := rdW (q := 298) f59 f54
  have d72 := rdW (q := 301) f72 f67
  have d78 := rdW (q := 302) f78 f73
  have d84 := rdW (q := 348) f84 f79
  have d102 := rdW (q := 300) f102 f97
  rw [show hV H2 298 = hV H1 298 from uRowNe f53 298 (by rw [f44]; decide)] at d59
  rw [show hV H2 301 = hV H1 301 from uRowNe f53 301 (by rw [f44]; decide)] at d72
  rw [show hV H2 302 = hV H1 302 from uRowNe f53 302 (by rw [f44]; decide)] at d78
  rw [show hV H2 348 = hV H1 348 from uRowNe f53 348 (by rw [f44]; decide)] at d84
  rw [show hV H4 300 = hV H1 300 from (uRowNe f89 300 (by rw [f62]; decide)).trans ((fRow f87.1.2.1 300 (by decide +kernel)).trans (uRowNe f53 300 (by rw [f44]; decide)))] at d102
  rw [b296] at d27
  rw [b298] at d59
  rw [b301] at d72
  rw [b302] at d78
  rw [b300] at d102
  have rg0 := f0
  have rg1 := f1
  have rg2 := f2
  have rg3 := f3
  have rg13 := f13
  have rg14 := f14
  have rg22 := f22
  have rg23 := f23
  have rg25 := f25
  have rg26 := f26
  have rg33 := f33
  have rg34 := f34
  have rg40 := f40
  have rg41 := f41
  have rg47 := f47
  have rg48 := f48
  have rg57 := f57
  have rg58 := f58
  have rg70 := f70
  have rg71 := f71
  have rg76 := f76
  have rg77 := f77
  have rg82 := f82
  have rg83 := f83
  have rg100 := f100
  have rg101 := f101
  have s36 : n14 = 16 * n13 := by
    have q := f36
    rw [f29] at q
    rw [q]
    exact w32_id (by omega) (by omega)
  have s43 : n17 = n14 + n16 := by
    have q := f43
    rw [q]
    exact w32_id (by omega) (by omega)
  have s51 : n21 = n19 + 1 := by
    have q := f51
    rw [f50] at q
    rw [q]
    exact w32_id (by omega) (by omega)
  have s66 : n27 = n0 + 1 := by
    have q := f66
    rw [f65] at q
    rw [q]
    exact w32_id (by omega) (by omega)
  have s94 : n37 = n0 + 1 := by
    have q := f94
    rw [f93] at q
    rw [q]
    exact w32_id (by omega) (by omega)
  have s96 : n39 = 7 * n1 := by
    have q := f96
    rw [f95] at q
    rw [q]
    exact w32_id (by omega) (by omega)
  have s103 : n42 = n39 + n41 := by
    have q := f103
    rw [q]
    exact w32_id (by omega) (by omega)
  have s110 : n45 = n0 + 1 := by
    have q := f110
    rw [f109] at q
    rw [q]
    exact w32_id (by omega) (by omega)
  have s114 : n47 = n0 + 1 := by
    have q := f114
    rw [q]
    exact w32_id (by omega) (by omega)
  have r344 : hV H6 344 = hV H1 344 := (uRowNe f113 344 (by rw [f106]; decide)).trans ((uRowNe f105 344 (by rw [f90]; decide)).trans ((uRowNe f89 344 (by rw [f62]; decide)).trans ((fRow f87.1.2.1 344 (by decide +kernel)).trans ((uRowNe f53 344 (by rw [f44]; decide)).trans rfl))))
  have r345 : hV H6 345 = hV H1 345 := (uRowNe f113 345 (by rw [f106]; decide)).trans ((uRowNe f105 345 (by rw [f90]; decide)).trans ((uRowNe f89 345 (by rw [f62]; decide)).trans ((fRow f87.1.2.1 345 (by decide +kernel)).trans ((uRowNe f53 345 (by rw [f44]; decide)).trans rfl))))
  have r346 : hV H6 346 = uF (hV H1 346) n37 n42 := (uRowNe f113 346 (by rw [f106]; decide)).trans ((uRowQ f105 346 f90).trans (congrArg (fun g => uF g n37 n42) ((uRowNe f89 346 (by rw [f62]; decide)).trans ((fRow f87.1.2.1 346 (by decide +kernel)).trans ((uRowNe f53 346 (by rw [f44]; decide)).trans rfl)))))
  have r347 : hV H6 347 = uF (uF (hV H1 347) n0 n21) n45 n46 := (uRowQ f113 347 f106).trans (congrArg (fun g => uF g n45 n46) ((uRowNe f105 347 (by rw [f90]; decide)).trans ((uRowNe f89 347 (by rw [f62]; decide)).trans ((fRow f87.1.2.1 347 (by decide +kernel)).trans ((uRowQ f53 347 f44).trans (congrArg (fun g => uF g n0 n21) rfl))))))
  have r348 : hV H6 348 = uF (hV H1 348) n27 n34 := (uRowNe f113 348 (by rw [f106]; decide)).trans ((uRowNe f105 348 (by rw [f90]; decide)).trans ((uRowQ f89 348 f62).trans (congrArg (fun g => uF g n27 n34) ((fRow f87.1.2.1 348 (by decide +kernel)).trans ((uRowNe f53 348 (by rw [f44]; decide)).trans rfl)))))
  have l82 : hV H6 285 82 = hV H1 285 82 := (uPlace f113 285 82 (by rw [f106]; decide)).trans ((uPlace f105 285 82 (by rw [f90]; decide)).trans ((uPlace f89 285 82 (by rw [f62]; decide)).trans ((f87.1.2.1.1 285 82 (by decide +kernel)).trans (uPlace f53 285 82 (by rw [f44]; decide)))))
  have dn : (n0).toNat = (n0).toNat := rfl
  have hia : hV H1 347 (n0).toNat = n6 := d15.symm
  have hip : hV H1 346 (n0).toNat = n9 := d24.symm
  rw [r344, r345, r346, r347, r348, l82]
  have ne : ¬ hV H1 347 (n0).toNat = hV H0 296 (hV H1 346 (n0).toNat).toNat := by
    rw [hia, hip, ← d27]
    omega
  have ec : n17 = 16 * hV H1 346 (n0).toNat + hV H1 347 (n0).toNat := by
    rw [hia, hip]
    omega
  have k4 := f4
  have k7 := f7
  have k10 := f10
  have k16 := f16
  have k19 := f19
  have k29 := f29
  have k30 := f30
  have k37 := f37
  have k44 := f44
  have k50 := f50
  have k54 := f54
  have k60 := f60
  have k62 := f62
  have k65 := f65
  have k67 := f67
  have k73 := f73
  have k79 := f79
  have k90 := f90
  have k93 := f93
  have k95 := f95
  have k97 := f97
  have k106 := f106
  have k109 := f109
  have k111 := f111
  have fr := f87.2.2
  unfold nb_269 at fr
  rw [show hV H2 340 = hV H0 340 from (uRowNe f53 340 (by rw [f44]; decide)).trans b340] at fr
  have P := pz.2 (n3).toNat (by omega)
  exact USp_use gb P aL (by omega) ne ec (by rw [← d59]; omega) (by omega) (by rw [hia]; omega) (by omega) (by omega) (by omega) (by rw [← d102]; omega) (by omega) (by rw [fr, ← d72, ← d78, ← d84]) (by omega)
def g_270w_34_1 : vG := ([(10, [47, 4], [], 1), (80, [43, 45, 46], [6, 5], 0), (23, [43], [5], 604), (0, [46], [], 0), (1, [45, 4, 44], [], 0), (0, [44], [], 1), (20, [43, 2], [5], 86), (23, [2], [5], 12), (0, [43], [], 347), (80, [35, 37, 42], [5, 4], 0), (23, [35], [4], 596), (1, [42, 39, 41], [], 0), (22, [41, 40, 17], [4], 0), (90, [41], [], -1), (91, [41], [], 9999), (20, [40, 2], [4], 26), (23, [2], [4], 12), (0, [40], [], 300), (3, [39, 38, 3], [], 0), (0, [38], [], 7), (1, [37, 4, 36], [], 0), (0, [36], [], 1), (20, [35, 2], [4], 85), (23, [2], [4], 12), (0, [35], [], 346), (80, [25, 27, 34], [4, 3], 0), (23, [25], [3], 612), (1269, [34, 2, 29, 31, 33], [2, 3], 0), (90, [34], [], -10999), (91, [34], [], 10999), (22, [33, 32, 4], [2], 0), (90, [33], [], -1000), (91, [33], [], 1000), (20, [32, 2], [2], 87), (23, [2], [2], 12), (0, [32], [], 348), (22, [31, 30, 17], [2], 0), (90, [31], [], -9999), (91, [31], [], 9999), (20, [30, 2], [2], 28), (23, [2], [2], 12), (0, [30], [], 302), (22, [29, 28, 17], [2], 0), (90, [29], [], -1), (91, [29], [], 9999), (20, [28, 2], [2], 27), (23, [2], [2], 12), (0, [28], [], 301), (1, [27, 4, 26], [], 0), (0, [26], [], 1), (20, [25, 2], [2], 87), (23, [2], [2], 12), (0, [25], [], 348), (40, [23, 24], [], 0), (0, [24], [], 5), (22, [23, 22, 17], [2], 0), (90, [23], [], 0), (91, [23], [], 5), (20, [22, 2], [2], 24), (23, [2], [2], 12), (0, [22], [], 298), (80, [18, 4, 21], [2, 1], 0), (23, [18], [1], 604), (1, [21, 19, 20], [], 0), (0, [20], [], 1), (22, [19, 18, 4], [1], 0), (90, [19], [], 0), (91, [19], [], 16), (20, [18, 2], [1], 86), (23, [2], [1], 12), (0, [18], [], 347), (1, [17, 14, 16], [], 0), (22, [16, 15, 4], [1], 0), (90, [16], [], 0), (91, [16], [], 16), (20, [15, 2], [1], 86), (23, [2], [1], 12), (0, [15], [], 347), (3, [14, 11, 13], [], 0), (22, [13, 12, 4], [1], 0), (90, [13], [], 0), (91, [13], [], 62), (20, [12, 2], [1], 85), (23, [2], [1], 12), (0, [12], [], 346), (0, [11], [], 16), (41, [6, 10], [], 0), (22, [10, 7, 9], [1], 0), (90, [10], [], 0), (91, [10], [], 16), (22, [9, 8, 4], [1], 0), (90, [9], [], 0), (91, [9], [], 62), (20, [8, 2], [1], 85), (23, [2], [1], 12), (0, [8], [], 346), (20, [7, 2], [1], 22), (23, [2], [1], 12), (0, [7], [], 296), (22, [6, 5, 4], [1], 0), (90, [6], [], 0), (91, [6], [], 16), (20, [5, 2], [1], 86), (23, [2], [1], 12), (0, [5], [], 347), (33, [4], [], 0), (5000, [0, 1, 2, 3, 4], [0, 1], 34), (0, [0], [], 285), (90, [1], [], 0), (91, [1], [], 7), (0, [2], [], 285), (90, [3], [], 0), (91, [3], [], 7), (90, [4], [], -1), (91, [4], [], 6)], (4000, [2, 3, 47], [6], 34))
theorem c_270w_34_1 {q0 : Nat} : vOkm T0 (eN e_270 L_270w A_270 mu_270 n_270 B_270 (some q0)) 2 g_270w_34_1 := vOk_inI fun ρ η f0 f1 f2 f3 f4 f5 f6 f7 f8 f9 f10 f11 f12 f13 f14 f15 f16 f17 f18 f19 f20 f21 f22 f23 f24 f25 f26 f27 f28 f29 f30 f31 f32 f33 f34 f35 f36 f37 f38 f39 f40 f41 f42 f43 f44 f45 f46 f47 f48 f49 f50 f51 f52 f53 f54 f55 f56 f57 f58 f59 f60 f61 f62 f63 f64 f65 f66 f67 f68 f69 f70 f71 f72 f73 f74 f75 f76 f77 f78 f79 f80 f81 f82 f83 f84 f85 f86 f87 f88 f89 f90 f91 f92 f93 f94 f95 f96 f97 f98 f99 f100 f101 f102 f103 f104 f105 f106 f107 f108 f109 f110 f111 f112 f113 f114 => q_270w_2 (q0 := q0) (n0 := ρ 4) (n1 := ρ 3) (n2 := ρ 2) (n3 := ρ 1) (n4 := ρ 0) (n5 := ρ 5) (n6 := ρ 6) (n7 := ρ 7) (n8 := ρ 8) (n9 := ρ 9) (n10 := ρ 10) (n11 := ρ 11) (n12 := ρ 12) (n13 := ρ 13) (n14 := ρ 14) (n15 := ρ 15) (n16 := ρ 16) (n17 := ρ 17) (n18 := ρ 18) (n19 := ρ 19) (n20 := ρ 20) (n21 := ρ 21) (n22 := ρ 22) (n23 := ρ 23) (n24 := ρ 24) (n25 := ρ 25) (n26 := ρ 26) (n27 := ρ 27) (n28 := ρ 28) (n29 := ρ 29) (n30 := ρ 30) (n31 := ρ 31) (n32 := ρ 32) (n33 := ρ 33) (n34 := ρ 34) (n35 := ρ 35) (n36 := ρ 36) (n37 := ρ 37) (n38 := ρ 38) (n39 := ρ 39) (n40 := ρ 40) (n41 := ρ 41) (n42 := ρ 42) (n43 := ρ 43) (n44 := ρ 44) (n45 := ρ 45) (n46 := ρ 46) (n47 := ρ 47) (H0 := η 0) (H1 := η 1) (H2 := η 2) (H3 := η 3) (H4 := η 4) (H5 := η 5) (H6 := η 6) f114 f113 f112 f111 f110 f109 f108 f107 f106 f105 f104 f103 f102 f101 f100 f99 f98 f97 f96 f95 f94 f93 f92 f91 f90 f89 f88 f87 f86 f85 f84 f83 f82 f81 f80 f79 f78 f77 f76 f75 f74 f73 f72 f71 f70 f69 f68 f67 f66 f65 f64 f63 f62 f61 f60 f59 f58 f57 f56 f55 f54 f53 f52 f51 f50 f49 f48 f47 f46 f45 f44 f43 f42 f41 f40 f39 f38 f37 f36 f35 f34 f33 f32 f31 f30 f29 f28 f27 f26 f25 f24 f23 f22 f21 f20 f19 f18 f17 f16 f15 f14 f13 f12 f11 f10 f9 f8 f7 f6 f5 f4 f3 f2 f1 f0
theorem q_270w_3 {q0 : Nat} {n0 n1 n2 n3 n4 n5 n6 n7 n8 n9 n10 n11 n12 n13 n14 n15 n16 n17 n18 n19 n20 n21 n22 n23 n24 n25 n26 n27 n28 n29 n30 n31 n32 n33 n34 : Int} {H0 H1 H2 H3 H4 H5 : gH} (f0 : n0 ≤ 6) (f1 : (-1) ≤ n0) (f2 : n1 ≤ 7) (f3 : 0 ≤ n1) (f4 : n2 = 285) (f5 : n3 ≤ 7) (f6 : 0 ≤ n3) (f7 : n4 = 285) (f8 : (hLe T0 H0 H1 ∧ hFr s_270.2.2.2.2 H0 H1 ∧ hWt T0 H1) ∧ ((Ab_270_34 n4 n3 n2 n1 n0 H0 H1 ∧ Bb_270_34 n4 n3 n2 n1 n0 H0 H1) ∧ preb_270 n4 n3 H0) ∧ some q0 = some (mub_270_34 n4 n3 n2 n1 n0 H0 H1)) (f9 : 0 ≤ n0) (f10 : n5 = 347) (f11 : hK H1 (n2).toNat = 12) (f12 : n5 = hV H1 (n2).toNat 86) (f13 : n6 ≤ 16) (f14 : 0 ≤ n6) (f15 : n6 = hV H1 (n5).toNat (n0).toNat) (f16 : n7 = 296) (f17 : hK H1 (n2).toNat = 12) (f18 : n7 = hV H1 (n2).toNat 22) (f19 : n8 = 346) (f20 : hK H1 (n2).toNat = 12) (f21 : n8 = hV H1 (n2).toNat 85) (f22 : n9 ≤ 62) (f23 : 0 ≤ n9) (f24 : n9 = hV H1 (n8).toNat (n0).toNat) (f25 : n10 ≤ 16) (f26 : 0 ≤ n10) (f27 : n10 = hV H1 (n7).toNat (n9).toNat) (f28 : n6 ≠ n10) (f29 : n11 = 16) (f30 : n12 = 346) (f31 : hK H1 (n2).toNat = 12) (f32 : n12 = hV H1 (n2).toNat 85) (f33 : n13 ≤ 62) (f34 : 0 ≤ n13) (f35 : n13 = hV H1 (n12).toNat (n0).toNat) (f36 : n14 = w32 (n11 * n13)) (f37 : n15 = 347) (f38 : hK H1 (n2).toNat = 12) (f39 : n15 = hV H1 (n2).toNat 86) (f40 : n16 ≤ 16) (f41 : 0 ≤ n16) (f42 : n16 = hV H1 (n15).toNat (n0).toNat) (f43 : n17 = w32 (n14 + n16)) (f44 : n18 = 347) (f45 : hK H1 (n2).toNat = 12) (f46 : n18 = hV H1 (n2).toNat 86) (f47 : n19 ≤ 16) (f48 : 0 ≤ n19) (f49 : n19 = hV H1 (n18).toNat (n0).toNat) (f50 : n20 = 1) (f51 : n21 = w32 (n19 + n20)) (f52 : hK H1 (n18).toNat = 604) (f53 : hUpd H2 H1 n18 n0 n21) (f54 : n22 = 298) (f55 : hK H2 (n2).toNat = 12) (f56 : n22 = hV H2 (n2).toNat 24) (f57 : n23 ≤ 5) (f58 : 0 ≤ n23) (f59 : n23 = hV H2 (n22).toNat (n17).toNat) (f60 : n24 = 5) (f61 : n23 ≠ n24) (f62 : n25 = 344) (f63 : hK H2 (n2).toNat = 12) (f64 : n25 = hV H2 (n2).toNat 83) (f65 : n26 ≤ 40) (f66 : 0 ≤ n26) (f67 : hK H2 (n2).toNat = 12) (f68 : n26 = hV H2 (n2).toNat 82) (f69 : hK H2 (n25).toNat = 580) (f70 : hUpd H3 H2 n25 n26 n17) (f71 : n27 = 345) (f72 : hK H3 (n2).toNat = 12) (f73 : n27 = hV H3 (n2).toNat 84) (f74 : n28 ≤ 40) (f75 : 0 ≤ n28) (f76 : hK H3 (n2).toNat = 12) (f77 : n28 = hV H3 (n2).toNat 82) (f78 : n29 = 348) (f79 : hK H3 (n2).toNat = 12) (f80 : n29 = hV H3 (n2).toNat 87) (f81 : n30 ≤ 1000) (f82 : (-1000) ≤ n30) (f83 : n30 = hV H3 (n29).toNat (n0).toNat) (f84 : hK H3 (n27).toNat = 588) (f85 : hUpd H4 H3 n27 n28 n30) (f86 : n31 ≤ 40) (f87 : 0 ≤ n31) (f88 : hK H4 (n2).toNat = 12) (f89 : n31 = hV H4 (n2).toNat 82) (f90 : n32 = 1) (f91 : n33 = w32 (n31 + n32)) (f92 : hK H4 (n2).toNat = 12) (f93 : n34 = 82) (f94 : hUpd H5 H4 n2 n34 n33) : Bb_270_34 n4 n3 n2 n1 n0 H0 H5 := by
  unfold Bb_270_34
  have pz := f8.2.1.2
  unfold preb_270 at pz
  have gb := f8.2.1.1.2
  unfold Bb_270_34 at gb
  have aa := f8.2.1.1.1
  unfold Ab_270_34 at aa
  obtain ⟨a0, aL, aS, aU⟩ := aa
  have q9 := f9
  have q28 := f28
  have q61 := f61
  have qc60 := f60
  have b294 : hV H1 294 = hV H0 294 := fRow f8.1.2.1 294 (by decide +kernel)
  have b296 : hV H1 296 = hV H0 296 := fRow f8.1.2.1 296 (by decide +kernel)
  have b298 : hV H1 298 = hV H0 298 := fRow f8.1.2.1 298 (by decide +kernel)
  have b300 : hV H1 300 = hV H0 300 := fRow f8.1.2.1 300 (by decide +kernel)
  have b301 : hV H1 301 = hV H0 301 := fRow f8.1.2.1 301 (by decide +kernel)
  have b302 : hV H1 302 = hV H0 302 := fRow f8.1.2.1 302 (by decide +kernel)
  have b303 : hV H1 303 = hV H0 303 := fRow f8.1.2.1 303 (by decide +kernel)
  have b305 : hV H1 305 = hV H0 305 := fRow f8.1.2.1 305 (by decide +kernel)
  have b340 : hV H1 340 = hV H0 340 := fRow f8.1.2.1 340 (by decide +kernel)
  rw [b294, b296] at aL
  have d15 := rdW (q := 347) f15 f10
  have d24 := rdW (q := 346) f24 f19
  have d27 := rdW (q := 296) f27 f16
  have d35 := rdW (q := 346) f35 f30
  have d42 := rdW (q := 347) f42 f37
  have d49 := rdW (q := 347) f49 f44
  have d59 := rdW (q := 298) f59 f54
  have d68 := rdS (q := 285) f68 f4
  have d77 := rdS (q := 285) f77 f4
  have d83 := rdW (q := 348) f83 f78
  have d89 := rdS (q := 285) f89 f4
  rw [show hV H2 298 = hV H1 298 from uRowNe f53 298 (by rw [f44]; decide)] at d59
  rw [show hV H3 348 = hV H1 348 from (uRowNe f70 348 (by rw [f62]; decide)).trans (uRowNe f53 348 (by rw [f44]; decide))] at d83
  rw [b296] at d27
  rw [b298] at d59
  have rg0 := f0
  have rg1 := f1
  have rg2 := f2
  have rg3 := f3
  have rg13 := f13
  have rg14 := f14
  have rg22 := f22
  have rg23 := f23
  have rg25 := f25
  have rg26 := f26
  have rg33 := f33
  have rg34 := f34
  have rg40 := f40
  have rg41 := f41
  have rg47 := f47
  have rg48 := f48
  have rg57 := f57
  have rg58 := f58
  have rg81 := f81
  have rg82 := f82
  have s36 : n14 = 16 * n13 := by
    have q := f36
    rw [f29] at q
    rw [q]
    exact w32_id (by omega) (by omega)
  have s43 : n17 = n14 + n16 := by
    have q := f43
    rw [q]
    exact w32_id (by omega) (by omega)
  have s51 : n21 = n19 + 1 := by
    have q := f51
    rw [f50] at q
    rw [q]
    exact w32_id (by omega) (by omega)
  have s91 : n33 = n31 + 1 := by
    have q := f91
    rw [f90] at q
    rw [q]
    exact w32_id (by omega) (by omega)
  have r344 : hV H5 344 = uF (hV H1 344) n26 n17 := (uRowNe f94 344 (by rw [f4]; decide)).trans ((uRowNe f85 344 (by rw [f71]; decide)).trans ((uRowQ f70 344 f62).trans (congrArg (fun g => uF g n26 n17) ((uRowNe f53 344 (by rw [f44]; decide)).trans rfl))))
  have r345 : hV H5 345 = uF (hV H1 345) n28 n30 := (uRowNe f94 345 (by rw [f4]; decide)).trans ((uRowQ f85 345 f71).trans (congrArg (fun g => uF g n28 n30) ((uRowNe f70 345 (by rw [f62]; decide)).trans ((uRowNe f53 345 (by rw [f44]; decide)).trans rfl))))
  have r346 : hV H5 346 = hV H1 346 := (uRowNe f94 346 (by rw [f4]; decide)).trans ((uRowNe f85 346 (by rw [f71]; decide)).trans ((uRowNe f70 346 (by rw [f62]; decide)).trans ((uRowNe f53 346 (by rw [f44]; decide)).trans rfl)))
  have r347 : hV H5 347 = uF (hV H1 347) n0 n21 := (uRowNe f94 347 (by rw [f4]; decide)).trans ((uRowNe f85 347 (by rw [f71]; decide)).trans ((uRowNe f70 347 (by rw [f62]; decide)).trans ((uRowQ f53 347 f44).trans (congrArg (fun g => uF g n0 n21) rfl))))
  have r348 : hV H5 348 = hV H1 348 := (uRowNe f94 348 (by rw [f4]; decide)).trans ((uRowNe f85 348 (by rw [f71]; decide)).trans ((uRowNe f70 348 (by rw [f62]; decide)).trans ((uRowNe f53 348 (by rw [f44]; decide)).trans rfl)))
  have l82 : hV H5 285 82 = n33 := uSame f94 285 82 (by rw [f4]; rfl) (by rw [f93]; rfl)
  have c68 : n26 = hV H1 285 82 := d68.trans (uPlace f53 285 82 (by rw [f44]; decide))
  have c77 : n28 = hV H1 285 82 := d77.trans ((uPlace f70 285 82 (by rw [f62]; decide)).trans (uPlace f53 285 82 (by rw [f44]; decide)))
  have c89 : n31 = hV H1 285 82 := d89.trans ((uPlace f85 285 82 (by rw [f71]; decide)).trans ((uPlace f70 285 82 (by rw [f62]; decide)).trans (uPlace f53 285 82 (by rw [f44]; decide))))
  have rg65 := f65
  have rg66 := f66
  have rg74 := f74
  have rg75 := f75
  have rg86 := f86
  have rg87 := f87
  have dn : (n0).toNat = (n0).toNat := rfl
  have hia : hV H1 347 (n0).toNat = n6 := d15.symm
  have hip : hV H1 346 (n0).toNat = n9 := d24.symm
  rw [r344, r345, r346, r347, r348, l82]
  have ne : ¬ hV H1 347 (n0).toNat = hV H0 296 (hV H1 346 (n0).toNat).toNat := by
    rw [hia, hip, ← d27]
    omega
  have ec : n17 = 16 * hV H1 346 (n0).toNat + hV H1 347 (n0).toNat := by
    rw [hia, hip]
    omega
  have k4 := f4
  have k7 := f7
  have k10 := f10
  have k16 := f16
  have k19 := f19
  have k29 := f29
  have k30 := f30
  have k37 := f37
  have k44 := f44
  have k50 := f50
  have k54 := f54
  have k60 := f60
  have k62 := f62
  have k71 := f71
  have k78 := f78
  have k90 := f90
  have k93 := f93
  exact USp_lay gb aL (by omega) (by omega) ne ec (by rw [← d59]; omega) (by omega) (by rw [hia]; omega) (by omega) rfl (by omega) d83 (by omega)
def g_270w_34_2 : vG := ([(80, [2, 34, 33], [5, 4], 0), (0, [34], [], 82), (23, [2], [4], 12), (1, [33, 31, 32], [], 0), (0, [32], [], 1), (20, [31, 2], [4], 82), (23, [2], [4], 12), (90, [31], [], 0), (91, [31], [], 40), (80, [27, 28, 30], [4, 3], 0), (23, [27], [3], 588), (22, [30, 29, 4], [3], 0), (90, [30], [], -1000), (91, [30], [], 1000), (20, [29, 2], [3], 87), (23, [2], [3], 12), (0, [29], [], 348), (20, [28, 2], [3], 82), (23, [2], [3], 12), (90, [28], [], 0), (91, [28], [], 40), (20, [27, 2], [3], 84), (23, [2], [3], 12), (0, [27], [], 345), (80, [25, 26, 17], [3, 2], 0), (23, [25], [2], 580), (20, [26, 2], [2], 82), (23, [2], [2], 12), (90, [26], [], 0), (91, [26], [], 40), (20, [25, 2], [2], 83), (23, [2], [2], 12), (0, [25], [], 344), (41, [23, 24], [], 0), (0, [24], [], 5), (22, [23, 22, 17], [2], 0), (90, [23], [], 0), (91, [23], [], 5), (20, [22, 2], [2], 24), (23, [2], [2], 12), (0, [22], [], 298), (80, [18, 4, 21], [2, 1], 0), (23, [18], [1], 604), (1, [21, 19, 20], [], 0), (0, [20], [], 1), (22, [19, 18, 4], [1], 0), (90, [19], [], 0), (91, [19], [], 16), (20, [18, 2], [1], 86), (23, [2], [1], 12), (0, [18], [], 347), (1, [17, 14, 16], [], 0), (22, [16, 15, 4], [1], 0), (90, [16], [], 0), (91, [16], [], 16), (20, [15, 2], [1], 86), (23, [2], [1], 12), (0, [15], [], 347), (3, [14, 11, 13], [], 0), (22, [13, 12, 4], [1], 0), (90, [13], [], 0), (91, [13], [], 62), (20, [12, 2], [1], 85), (23, [2], [1], 12), (0, [12], [], 346), (0, [11], [], 16), (41, [6, 10], [], 0), (22, [10, 7, 9], [1], 0), (90, [10], [], 0), (91, [10], [], 16), (22, [9, 8, 4], [1], 0), (90, [9], [], 0), (91, [9], [], 62), (20, [8, 2], [1], 85), (23, [2], [1], 12), (0, [8], [], 346), (20, [7, 2], [1], 22), (23, [2], [1], 12), (0, [7], [], 296), (22, [6, 5, 4], [1], 0), (90, [6], [], 0), (91, [6], [], 16), (20, [5, 2], [1], 86), (23, [2], [1], 12), (0, [5], [], 347), (33, [4], [], 0), (5000, [0, 1, 2, 3, 4], [0, 1], 34), (0, [0], [], 285), (90, [1], [], 0), (91, [1], [], 7), (0, [2], [], 285), (90, [3], [], 0), (91, [3], [], 7), (90, [4], [], -1), (91, [4], [], 6)], (4000, [2, 3, 4], [5], 34))
theorem c_270w_34_2 {q0 : Nat} : vOkm T0 (eN e_270 L_270w A_270 mu_270 n_270 B_270 (some q0)) 2 g_270w_34_2 := vOk_inI fun ρ η f0 f1 f2 f3 f4 f5 f6 f7 f8 f9 f10 f11 f12 f13 f14 f15 f16 f17 f18 f19 f20 f21 f22 f23 f24 f25 f26 f27 f28 f29 f30 f31 f32 f33 f34 f35 f36 f37 f38 f39 f40 f41 f42 f43 f44 f45 f46 f47 f48 f49 f50 f51 f52 f53 f54 f55 f56 f57 f58 f59 f60 f61 f62 f63 f64 f65 f66 f67 f68 f69 f70 f71 f72 f73 f74 f75 f76 f77 f78 f79 f80 f81 f82 f83 f84 f85 f86 f87 f88 f89 f90 f91 f92 f93 f94 => q_270w_3 (q0 := q0) (n0 := ρ 4) (n1 := ρ 3) (n2 := ρ 2) (n3 := ρ 1) (n4 := ρ 0) (n5 := ρ 5) (n6 := ρ 6) (n7 := ρ 7) (n8 := ρ 8) (n9 := ρ 9) (n10 := ρ 10) (n11 := ρ 11) (n12 := ρ 12) (n13 := ρ 13) (n14 := ρ 14) (n15 := ρ 15) (n16 := ρ 16) (n17 := ρ 17) (n18 := ρ 18) (n19 := ρ 19) (n20 := ρ 20) (n21 := ρ 21) (n22 := ρ 22) (n23 := ρ 23) (n24 := ρ 24) (n25 := ρ 25) (n26 := ρ 26) (n27 := ρ 27) (n28 := ρ 28) (n29 := ρ 29) (n30 := ρ 30) (n31 := ρ 31) (n32 := ρ 32) (n33 := ρ 33) (n34 := ρ 34) (H0 := η 0) (H1 := η 1) (H2 := η 2) (H3 := η 3) (H4 := η 4) (H5 := η 5) f94 f93 f92 f91 f90 f89 f88 f87 f86 f85 f84 f83 f82 f81 f80 f79 f78 f77 f76 f75 f74 f73 f72 f71 f70 f69 f68 f67 f66 f65 f64 f63 f62 f61 f60 f59 f58 f57 f56 f55 f54 f53 f52 f51 f50 f49 f48 f47 f46 f45 f44 f43 f42 f41 f40 f39 f38 f37 f36 f35 f34 f33 f32 f31 f30 f29 f28 f27 f26 f25 f24 f23 f22 f21 f20 f19 f18 f17 f16 f15 f14 f13 f12 f11 f10 f9 f8 f7 f6 f5 f4 f3 f2 f1 f0
theorem q_270w_4 {q0 : Nat} {n0 n1 n2 n3 n4 n5 n6 n7 n8 n9 n10 n11 : Int} {H0 H1 : gH} (f0 : n0 ≤ 6) (f1 : (-1) ≤ n0) (f2 : n1 ≤ 7) (f3 : 0 ≤ n1) (f4 : n2 = 285) (f5 : n3 ≤ 7) (f6 : 0 ≤ n3) (f7 : n4 = 285) (f8 : (hLe T0 H0 H1 ∧ hFr s_270.2.2.2.2 H0 H1 ∧ hWt T0 H1) ∧ ((Ab_270_34 n4 n3 n2 n1 n0 H0 H1 ∧ Bb_270_34 n4 n3 n2 n1 n0 H0 H1) ∧ preb_270 n4 n3 H0) ∧ some q0 = some (mub_270_34 n4 n3 n2 n1 n0 H0 H1)) (f9 : 0 ≤ n0) (f10 : n5 = 347) (f11 : hK H1 (n2).toNat = 12) (f12 : n5 = hV H1 (n2).toNat 86) (f13 : n6 ≤ 16) (f14 : 0 ≤ n6) (f15 : n6 = hV H1 (n5).toNat (n0).toNat) (f16 : n7 = 296) (f17 : hK H1 (n2).toNat = 12) (f18 : n7 = hV H1 (n2).toNat 22) (f19 : n8 = 346) (f20 : hK H1 (n2).toNat = 12) (f21 : n8 = hV H1 (n2).toNat 85) (f22 : n9 ≤ 62) (f23 : 0 ≤ n9) (f24 : n9 = hV H1 (n8).toNat (n0).toNat) (f25 : n10 ≤ 16) (f26 : 0 ≤ n10) (f27 : n10 = hV H1 (n7).toNat (n9).toNat) (f28 : n6 = n10) (f29 : n11 = w32 (n0 + (-1))) : Bb_270_34 n4 n3 n2 n1 n11 H0 H1 := by
  unfold Bb_270_34
  have pz := f8.2.1.2
  unfold preb_270 at pz
  have gb := f8.2.1.1.2
  unfold Bb_270_34 at gb
  have aa := f8.2.1.1.1
  unfold Ab_270_34 at aa
  obtain ⟨a0, aL, aS, aU⟩ := aa
  have q9 := f9
  have q28 := f28
  have q29 := f29
  unfold w32 at q29
  have b294 : hV H1 294 = hV H0 294 := fRow f8.1.2.1 294 (by decide +kernel)
  have b296 : hV H1 296 = hV H0 296 := fRow f8.1.2.1 296 (by decide +kernel)
  have b298 : hV H1 298 = hV H0 298 := fRow f8.1.2.1 298 (by decide +kernel)
  have b300 : hV H1 300 = hV H0 300 := fRow f8.1.2.1 300 (by decide +kernel)
  have b301 : hV H1 301 = hV H0 301 := fRow f8.1.2.1 301 (by decide +kernel)
  have b302 : hV H1 302 = hV H0 302 := fRow f8.1.2.1 302 (by decide +kernel)
  have b303 : hV H1 303 = hV H0 303 := fRow f8.1.2.1 303 (by decide +kernel)
  have b305 : hV H1 305 = hV H0 305 := fRow f8.1.2.1 305 (by decide +kernel)
  have b340 : hV H1 340 = hV H0 340 := fRow f8.1.2.1 340 (by decide +kernel)
  rw [b294, b296] at aL
  have d15 := rdW (q := 347) f15 f10
  have d24 := rdW (q := 346) f24 f19
  have d27 := rdW (q := 296) f27 f16
  rw [b296] at d27
  have rg0 := f0
  have rg1 := f1
  have rg2 := f2
  have rg3 := f3
  have rg13 := f13
  have rg14 := f14
  have rg22 := f22
  have rg23 := f23
  have rg25 := f25
  have rg26 := f26
  have s29 : n11 = n0 + (-1) := by
    have q := f29
    rw [q]
    exact w32_id (by omega) (by omega)
  have r344 : hV H1 344 = hV H1 344 := rfl
  have r345 : hV H1 345 = hV H1 345 := rfl
  have r346 : hV H1 346 = hV H1 346 := rfl
  have r347 : hV H1 347 = hV H1 347 := rfl
  have r348 : hV H1 348 = hV H1 348 := rfl
  have l82 : hV H1 285 82 = hV H1 285 82 := rfl
  have dn : (n0).toNat = (n0).toNat := rfl
  have hia : hV H1 347 (n0).toNat = n6 := d15.symm
  have hip : hV H1 346 (n0).toNat = n9 := d24.symm
  rw [r344, r345, r346, r347, r348, l82]
  exact USp_pop gb (by omega) (by rw [hia, hip, ← d27]; omega) (by omega)
def g_270w_34_3 : vG := ([(10, [11, 4], [], -1), (40, [6, 10], [], 0), (22, [10, 7, 9], [1], 0), (90, [10], [], 0), (91, [10], [], 16), (22, [9, 8, 4], [1], 0), (90, [9], [], 0), (91, [9], [], 62), (20, [8, 2], [1], 85), (23, [2], [1], 12), (0, [8], [], 346), (20, [7, 2], [1], 22), (23, [2], [1], 12), (0, [7], [], 296), (22, [6, 5, 4], [1], 0), (90, [6], [], 0), (91, [6], [], 16), (20, [5, 2], [1], 86), (23, [2], [1], 12), (0, [5], [], 347), (33, [4], [], 0), (5000, [0, 1, 2, 3, 4], [0, 1], 34), (0, [0], [], 285), (90, [1], [], 0), (91, [1], [], 7), (0, [2], [], 285), (90, [3], [], 0), (91, [3], [], 7), (90, [4], [], -1), (91, [4], [], 6)], (4000, [2, 3, 11], [1], 34))
theorem c_270w_34_3 {q0 : Nat} : vOkm T0 (eN e_270 L_270w A_270 mu_270 n_270 B_270 (some q0)) 2 g_270w_34_3 := vOk_inI fun ρ η f0 f1 f2 f3 f4 f5 f6 f7 f8 f9 f10 f11 f12 f13 f14 f15 f16 f17 f18 f19 f20 f21 f22 f23 f24 f25 f26 f27 f28 f29 => q_270w_4 (q0 := q0) (n0 := ρ 4) (n1 := ρ 3) (n2 := ρ 2) (n3 := ρ 1) (n4 := ρ 0) (n5 := ρ 5) (n6 := ρ 6) (n7 := ρ 7) (n8 := ρ 8) (n9 := ρ 9) (n10 := ρ 10) (n11 := ρ 11) (H0 := η 0) (H1 := η 1) f29 f28 f27 f26 f25 f24 f23 f22 f21 f20 f19 f18 f17 f16 f15 f14 f13 f12 f11 f10 f9 f8 f7 f6 f5 f4 f3 f2 f1 f0
def p_270w_34 : List vG := [g_270w_34_0,
  g_270w_34_1,
  g_270w_34_2,
  g_270w_34_3]
theorem r_270w_34 : vCovBO (eRc e_270 L_270 cs_270 2000 (34, [(0, (3, 12, 285, 0)), (1, (0, 0, 7, 0)), (2, (0, -1, 6, 0))])) p_270w_34 = true := by decide +kernel
theorem m_270w (d : Nat) : eC e_270w (d + 2) := eC_ref (e := e_270) (L := L_270) (L' := L_270w) (cs := cs_270) (n := 2000) (d := d + 1) (A := A_270) (μ := mu_270) (tp := false) (p0 := p_270_s) (p1 := p_270w_s) (N := n_270) (B := B_270) rfl ⟨m_269w d, trivial⟩ rfl (.inl rfl) (by decide +kernel) (fun z => nomatch z) r_270_s (allC c_270_s_0 (allC c_270_s_1 (allC c_270_s_2 allN))) (allC (.inl ⟨p_270_34, r_270_34, fun q0 => (allC c_270_34_0 (allC c_270_34_1 (allC c_270_34_2 (allC c_270_34_3 (allC c_270_34_4 (allC c_270_34_5 (allC c_270_34_6 (allC c_270_34_7 (allC c_270_34_8 (allC c_270_34_9 (allC c_270_34_10 (allC c_270_34_11 (allC c_270_34_12 (allC c_270_34_13 (allC c_270_34_14 (allC c_270_34_15 (allC c_270_34_16 (allC c_270_34_17 (allC c_270_34_18 (allC c_270_34_19 (allC c_270_34_20 (allC c_270_34_21 (allC c_270_34_22 (allC c_270_34_23 (allC c_270_34_24 (allC c_270_34_25 (allC c_270_34_26 (allC c_270_34_27 allN))))))))))))))))))))))))))))⟩) allN) (sub1 trivial) r_270w_s (allC c_270w_s_0 allN) (allC ⟨p_270w_34, r_270w_34, fun q0 => (allC c_270w_34_0 (allC c_270w_34_1 (allC c_270w_34_2 (allC c_270w_34_3 allN))))⟩ allN)
/- MixStageModel.cues (I)I, more fully -/
def nb_293 (r a0 a1 : Int) (h0 h : gH) : Prop := (0 ≤ a1 ∧ a1 < hV h0 285 18 → r = ((flS (hV h0 296) (hV h0 298) (hV h0 300) (hV h0 301) (hV h0 302) (hV h0 340) (7 * (a1).toNat) 7 6 0).length : Int)) ∧ (¬ (0 ≤ a1 ∧ a1 < hV h0 285 18) → r = -1)
def n_293 : List Int → gH → gH → Prop := fun xs h0 h => match xs with
  | [r, a0, a1] => nb_293 r a0 a1 h0 h
  | _ => True
noncomputable def e_293w : vE := eV e_293 n_293
noncomputable def L_293w : List vE := [e_270w, e_282]
def B_293 : Int → List Int → gH → gH → Prop := fun c xs h0 h => True
theorem q_293w_0 {n0 n1 n2 n3 : Int} {H0 H1 H2 : gH} (f0 : n0 ≤ 2147483647) (f1 : (-2147483648) ≤ n0) (f2 : n1 = 285) (f3 : hWt T0 H0 ∧ preb_293 n1 n0 H0) (f4 : n2 ≤ 1) (f5 : 0 ≤ n2) (f6 : (hLe T0 H0 H1 ∧ hFr s_282.2.2.2.2 H0 H1 ∧ ((0 : Int) = 0 → H1.length = H0.length) ∧ hWt T0 H1) ∧ postb_282 n2 n1 n0 H0 H1) (f7 : n2 ≠ 0) (f8 : (hLe T0 H1 H2 ∧ hFr s_270.2.2.2.2 H1 H2 ∧ ((0 : Int) = 0 → H2.length = H1.length) ∧ hWt T0 H2) ∧ (postb_270 n1 n0 H1 H2 ∧ nb_270 n1 n0 H1 H2)) (f9 : n3 ≤ 40) (f10 : 0 ≤ n3) (f11 : hK H2 (n1).toNat = 12) (f12 : n3 = hV H2 (n1).toNat 82) : nb_293 n3 n1 n0 H0 H2 := by
  unfold nb_293
  have si := f6.2
  unfold postb_282 at si
  have s18 : hV H1 285 18 = hV H0 285 18 := f6.1.2.1.1 285 18 (by decide +kernel)
  have q7 := f7
  have un := f8.2.2
  unfold nb_270 at un
  rw [show hV H1 296 = hV H0 296 from fRow f6.1.2.1 296 (by decide +kernel)] at un
  rw [show hV H1 298 = hV H0 298 from fRow f6.1.2.1 298 (by decide +kernel)] at un
  rw [show hV H1 300 = hV H0 300 from fRow f6.1.2.1 300 (by decide +kernel)] at un
  rw [show hV H1 301 = hV H0 301 from fRow f6.1.2.1 301 (by decide +kernel)] at un
  rw [show hV H1 302 = hV H0 302 from fRow f6.1.2.1 302 (by decide +kernel)] at un
  rw [show hV H1 340 = hV H0 340 from fRow f6.1.2.1 340 (by decide +kernel)] at un
  have d12 := rdS (q := 285) f12 f2
  have rg9 := f9
  have rg10 := f10
  have ln := congrArg List.length un
  rw [xsL_len] at ln
  refine ⟨fun _ => ?_, fun w => by exfalso; omega⟩
  omega
def g_293w_s_0 : vG := ([(20, [3, 0], [2], 82), (23, [0], [2], 12), (90, [3], [], 0), (91, [3], [], 40), (1270, [0, 1], [1, 2], 0), (31, [2], [], 0), (1282, [2, 0, 1], [0, 1], 0), (90, [2], [], 0), (91, [2], [], 1), (6000, [0, 1], [0], 0), (0, [0], [], 285), (90, [1], [], -2147483648), (91, [1], [], 2147483647)], (3000, [3], [2], 19))
theorem c_293w_s_0 : vOkm T0 (eN e_293 L_293w A_293 mu_293 n_293 B_293 none) 2 g_293w_s_0 := vOk_inI fun ρ η f0 f1 f2 f3 f4 f5 f6 f7 f8 f9 f10 f11 f12 => q_293w_0 (n0 := ρ 1) (n1 := ρ 0) (n2 := ρ 2) (n3 := ρ 3) (H0 := η 0) (H1 := η 1) (H2 := η 2) f12 f11 f10 f9 f8 f7 f6 f5 f4 f3 f2 f1 f0
theorem q_293w_1 {n0 n1 n2 n3 : Int} {H0 H1 : gH} (f0 : n0 ≤ 2147483647) (f1 : (-2147483648) ≤ n0) (f2 : n1 = 285) (f3 : hWt T0 H0 ∧ preb_293 n1 n0 H0) (f4 : n2 ≤ 1) (f5 : 0 ≤ n2) (f6 : (hLe T0 H0 H1 ∧ hFr s_282.2.2.2.2 H0 H1 ∧ ((0 : Int) = 0 → H1.length = H0.length) ∧ hWt T0 H1) ∧ postb_282 n2 n1 n0 H0 H1) (f7 : n2 = 0) (f8 : n3 = (-1)) : nb_293 n3 n1 n0 H0 H1 := by
  unfold nb_293
  have si := f6.2
  unfold postb_282 at si
  have s18 : hV H1 285 18 = hV H0 285 18 := f6.1.2.1.1 285 18 (by decide +kernel)
  have q7 := f7
  have rc := f8
  exact ⟨fun w => by exfalso; omega, fun _ => rc⟩
def g_293w_s_1 : vG := ([(0, [3], [], -1), (30, [2], [], 0), (1282, [2, 0, 1], [0, 1], 0), (90, [2], [], 0), (91, [2], [], 1), (6000, [0, 1], [0], 0), (0, [0], [], 285), (90, [1], [], -2147483648), (91, [1], [], 2147483647)], (3000, [3], [1], 9))
theorem c_293w_s_1 : vOkm T0 (eN e_293 L_293w A_293 mu_293 n_293 B_293 none) 2 g_293w_s_1 := vOk_inI fun ρ η f0 f1 f2 f3 f4 f5 f6 f7 f8 => q_293w_1 (n0 := ρ 1) (n1 := ρ 0) (n2 := ρ 2) (n3 := ρ 3) (H0 := η 0) (H1 := η 1) f8 f7 f6 f5 f4 f3 f2 f1 f0
def p_293w_s : List vG := [g_293w_s_0,
  g_293w_s_1]
theorem r_293w_s : vCovBO (eR0 e_293 L_293 cs_293 2000) p_293w_s = true := by decide +kernel
theorem m_293w (d : Nat) : eC e_293w (d + 3) := eC_ref (e := e_293) (L := L_293) (L' := L_293w) (cs := cs_293) (n := 2000) (d := d + 2) (A := A_293) (μ := mu_293) (tp := true) (p0 := p_293_s) (p1 := p_293w_s) (N := n_293) (B := B_293) rfl ⟨m_270w d, ⟨m_282 (d + 1), trivial⟩⟩ rfl (.inl rfl) (by decide +kernel) (fun _ => post0_ok) r_293_s (allC c_293_s_0 (allC c_293_s_1 (allC c_293_s_2 allN))) allN (sub1 (sub0 trivial)) r_293w_s (allC c_293w_s_0 (allC c_293w_s_1 allN)) allN
/- MixStageModel.isCue (II)Z, more fully -/
def nb_294 (r a0 a1 a2 : Int) (h0 h : gH) : Prop := (r = 1 ∧ (0 ≤ a1 ∧ a1 < hV h0 285 18) ∧ 0 ≤ a2 ∧ a2 < ((flS (hV h0 296) (hV h0 298) (hV h0 300) (hV h0 301) (hV h0 302) (hV h0 340) (7 * (a1).toNat) 7 6 0).length : Int) ∧ xsL (hV h 344) (hV h 345) (hV h 285 82) = flS (hV h0 296) (hV h0 298) (hV h0 300) (hV h0 301) (hV h0 302) (hV h0 340) (7 * (a1).toNat) 7 6 0) ∨ (r = 0 ∧ ¬ ((0 ≤ a1 ∧ a1 < hV h0 285 18) ∧ 0 ≤ a2 ∧ a2 < ((flS (hV h0 296) (hV h0 298) (hV h0 300) (hV h0 301) (hV h0 302) (hV h0 340) (7 * (a1).toNat) 7 6 0).length : Int)))
def n_294 : List Int → gH → gH → Prop := fun xs h0 h => match xs with
  | [r, a0, a1, a2] => nb_294 r a0 a1 a2 h0 h
  | _ => True
noncomputable def e_294w : vE := eV e_294 n_294
noncomputable def L_294w : List vE := [e_270w, e_282]
def B_294 : Int → List Int → gH → gH → Prop := fun c xs h0 h => True
theorem q_294w_0 {n0 n1 n2 n3 n4 : Int} {H0 H1 H2 : gH} (f0 : n0 ≤ 2147483647) (f1 : (-2147483648) ≤ n0) (f2 : n1 ≤ 2147483647) (f3 : (-2147483648) ≤ n1) (f4 : n2 = 285) (f5 : hWt T0 H0 ∧ preb_294 n2 n1 n0 H0) (f6 : n3 ≤ 1) (f7 : 0 ≤ n3) (f8 : (hLe T0 H0 H1 ∧ hFr s_282.2.2.2.2 H0 H1 ∧ ((0 : Int) = 0 → H1.length = H0.length) ∧ hWt T0 H1) ∧ postb_282 n3 n2 n1 H0 H1) (f9 : n3 ≠ 0) (f10 : (hLe T0 H1 H2 ∧ hFr s_270.2.2.2.2 H1 H2 ∧ ((0 : Int) = 0 → H2.length = H1.length) ∧ hWt T0 H2) ∧ (postb_270 n2 n1 H1 H2 ∧ nb_270 n2 n1 H1 H2)) (f11 : n0 < 0) (f12 : n4 = 0) : nb_294 n4 n2 n1 n0 H0 H2 := by
  unfold nb_294
  have si := f8.2
  unfold postb_282 at si
  have s18 : hV H1 285 18 = hV H0 285 18 := f8.1.2.1.1 285 18 (by decide +kernel)
  have q9 := f9
  have q11 := f11
  have rc := f12
  have un := f10.2.2
  unfold nb_270 at un
  rw [show hV H1 296 = hV H0 296 from fRow f8.1.2.1 296 (by decide +kernel)] at un
  rw [show hV H1 298 = hV H0 298 from fRow f8.1.2.1 298 (by decide +kernel)] at un
  rw [show hV H1 300 = hV H0 300 from fRow f8.1.2.1 300 (by decide +kernel)] at un
  rw [show hV H1 301 = hV H0 301 from fRow f8.1.2.1 301 (by decide +kernel)] at un
  rw [show hV H1 302 = hV H0 302 from fRow f8.1.2.1 302 (by decide +kernel)] at un
  rw [show hV H1 340 = hV H0 340 from fRow f8.1.2.1 340 (by decide +kernel)] at un
  have ln := congrArg List.length un
  rw [xsL_len] at ln
  exact .inr ⟨rc, fun w => by have := w.2; omega⟩
def g_294w_s_0 : vG := ([(0, [4], [], 0), (32, [2], [], 0), (1270, [0, 1], [1, 2], 0), (31, [3], [], 0), (1282, [3, 0, 1], [0, 1], 0), (90, [3], [], 0), (91, [3], [], 1), (6000, [0, 1, 2], [0], 0), (0, [0], [], 285), (90, [1], [], -2147483648), (91, [1], [], 2147483647), (90, [2], [], -2147483648), (91, [2], [], 2147483647)], (3000, [4], [2], 32))
theorem c_294w_s_0 : vOkm T0 (eN e_294 L_294w A_294 mu_294 n_294 B_294 none) 3 g_294w_s_0 := vOk_inI fun ρ η f0 f1 f2 f3 f4 f5 f6 f7 f8 f9 f10 f11 f12 => q_294w_0 (n0 := ρ 2) (n1 := ρ 1) (n2 := ρ 0) (n3 := ρ 3) (n4 := ρ 4) (H0 := η 0) (H1 := η 1) (H2 := η 2) f12 f11 f10 f9 f8 f7 f6 f5 f4 f3 f2 f1 f0
theorem q_294w_1 {n0 n1 n2 n3 n4 n5 : Int} {H0 H1 H2 : gH} (f0 : n0 ≤ 2147483647) (f1 : (-2147483648) ≤ n0) (f2 : n1 ≤ 2147483647) (f3 : (-2147483648) ≤ n1) (f4 : n2 = 285) (f5 : hWt T0 H0 ∧ preb_294 n2 n1 n0 H0) (f6 : n3 ≤ 1) (f7 : 0 ≤ n3) (f8 : (hLe T0 H0 H1 ∧ hFr s_282.2.2.2.2 H0 H1 ∧ ((0 : Int) = 0 → H1.length = H0.length) ∧ hWt T0 H1) ∧ postb_282 n3 n2 n1 H0 H1) (f9 : n3 ≠ 0) (f10 : (hLe T0 H1 H2 ∧ hFr s_270.2.2.2.2 H1 H2 ∧ ((0 : Int) = 0 → H2.length = H1.length) ∧ hWt T0 H2) ∧ (postb_270 n2 n1 H1 H2 ∧ nb_270 n2 n1 H1 H2)) (f11 : 0 ≤ n0) (f12 : n4 ≤ 40) (f13 : 0 ≤ n4) (f14 : hK H2 (n2).toNat = 12) (f15 : n4 = hV H2 (n2).toNat 82) (f16 : n4 ≤ n0) (f17 : n5 = 0) : nb_294 n5 n2 n1 n0 H0 H2 := by
  unfold nb_294
  have si := f8.2
  unfold postb_282 at si
  have s18 : hV H1 285 18 = hV H0 285 18 := f8.1.2.1.1 285 18 (by decide +kernel)
  have q9 := f9
  have q11 := f11
  have q16 := f16
  have rc := f17
  have un := f10.2.2
  unfold nb_270 at un
  rw [show hV H1 296 = hV H0 296 from fRow f8.1.2.1 296 (by decide +kernel)] at un
  rw [show hV H1 298 = hV H0 298 from fRow f8.1.2.1 298 (by decide +kernel)] at un
  rw [show hV H1 300 = hV H0 300 from fRow f8.1.2.1 300 (by decide +kernel)] at un
  rw [show hV H1 301 = hV H0 301 from fRow f8.1.2.1 301 (by decide +kernel)] at un
  rw [show hV H1 302 = hV H0 302 from fRow f8.1.2.1 302 (by decide +kernel)] at un
  rw [show hV H1 340 = hV H0 340 from fRow f8.1.2.1 340 (by decide +kernel)] at un
  have d15 := rdS (q := 285) f15 f4
  have rg12 := f12
  have rg13 := f13
  have ln := congrArg List.length un
  rw [xsL_len] at ln
  exact .inr ⟨rc, fun w => by have := w.2; omega⟩
def g_294w_s_1 : vG := ([(0, [5], [], 0), (43, [2, 4], [], 0), (20, [4, 0], [2], 82), (23, [0], [2], 12), (90, [4], [], 0), (91, [4], [], 40), (33, [2], [], 0), (1270, [0, 1], [1, 2], 0), (31, [3], [], 0), (1282, [3, 0, 1], [0, 1], 0), (90, [3], [], 0), (91, [3], [], 1), (6000, [0, 1, 2], [0], 0), (0, [0], [], 285), (90, [1], [], -2147483648), (91, [1], [], 2147483647), (90, [2], [], -2147483648), (91, [2], [], 2147483647)], (3000, [5], [2], 32))
theorem c_294w_s_1 : vOkm T0 (eN e_294 L_294w A_294 mu_294 n_294 B_294 none) 3 g_294w_s_1 := vOk_inI fun ρ η f0 f1 f2 f3 f4 f5 f6 f7 f8 f9 f10 f11 f12 f13 f14 f15 f16 f17 => q_294w_1 (n0 := ρ 2) (n1 := ρ 1) (n2 := ρ 0) (n3 := ρ 3) (n4 := ρ 4) (n5 := ρ 5) (H0 := η 0) (H1 := η 1) (H2 := η 2) f17 f16 f15 f14 f13 f12 f11 f10 f9 f8 f7 f6 f5 f4 f3 f2 f1 f0
theorem q_294w_2 {n0 n1 n2 n3 n4 n5 : Int} {H0 H1 H2 : gH} (f0 : n0 ≤ 2147483647) (f1 : (-2147483648) ≤ n0) (f2 : n1 ≤ 2147483647) (f3 : (-2147483648) ≤ n1) (f4 : n2 = 285) (f5 : hWt T0 H0 ∧ preb_294 n2 n1 n0 H0) (f6 : n3 ≤ 1) (f7 : 0 ≤ n3) (f8 : (hLe T0 H0 H1 ∧ hFr s_282.2.2.2.2 H0 H1 ∧ ((0 : Int) = 0 → H1.length = H0.length) ∧ hWt T0 H1) ∧ postb_282 n3 n2 n1 H0 H1) (f9 : n3 ≠ 0) (f10 : (hLe T0 H1 H2 ∧ hFr s_270.2.2.2.2 H1 H2 ∧ ((0 : Int) = 0 → H2.length = H1.length) ∧ hWt T0 H2) ∧ (postb_270 n2 n1 H1 H2 ∧ nb_270 n2 n1 H1 H2)) (f11 : 0 ≤ n0) (f12 : n4 ≤ 40) (f13 : 0 ≤ n4) (f14 : hK H2 (n2).toNat = 12) (f15 : n4 = hV H2 (n2).toNat 82) (f16 : n0 < n4) (f17 : n5 = 1) : nb_294 n5 n2 n1 n0 H0 H2 := by
  unfold nb_294
  have si := f8.2
  unfold postb_282 at si
  have s18 : hV H1 285 18 = hV H0 285 18 := f8.1.2.1.1 285 18 (by decide +kernel)
  have q9 := f9
  have q11 := f11
  have q16 := f16
  have rc := f17
  have un := f10.2.2
  unfold nb_270 at un
  rw [show hV H1 296 = hV H0 296 from fRow f8.1.2.1 296 (by decide +kernel)] at un
  rw [show hV H1 298 = hV H0 298 from fRow f8.1.2.1 298 (by decide +kernel)] at un
  rw [show hV H1 300 = hV H0 300 from fRow f8.1.2.1 300 (by decide +kernel)] at un
  rw [show hV H1 301 = hV H0 301 from fRow f8.1.2.1 301 (by decide +kernel)] at un
  rw [show hV H1 302 = hV H0 302 from fRow f8.1.2.1 302 (by decide +kernel)] at un
  rw [show hV H1 340 = hV H0 340 from fRow f8.1.2.1 340 (by decide +kernel)] at un
  have d15 := rdS (q := 285) f15 f4
  have rg12 := f12
  have rg13 := f13
  have ln := congrArg List.length un
  rw [xsL_len] at ln
  exact .inl ⟨rc, ⟨by omega, by omega⟩, by omega, by omega, un⟩
def g_294w_s_2 : vG := ([(0, [5], [], 1), (42, [2, 4], [], 0), (20, [4, 0], [2], 82), (23, [0], [2], 12), (90, [4], [], 0), (91, [4], [], 40), (33, [2], [], 0), (1270, [0, 1], [1, 2], 0), (31, [3], [], 0), (1282, [3, 0, 1], [0, 1], 0), (90, [3], [], 0), (91, [3], [], 1), (6000, [0, 1, 2], [0], 0), (0, [0], [], 285), (90, [1], [], -2147483648), (91, [1], [], 2147483647), (90, [2], [], -2147483648), (91, [2], [], 2147483647)], (3000, [5], [2], 32))
theorem c_294w_s_2 : vOkm T0 (eN e_294 L_294w A_294 mu_294 n_294 B_294 none) 3 g_294w_s_2 := vOk_inI fun ρ η f0 f1 f2 f3 f4 f5 f6 f7 f8 f9 f10 f11 f12 f13 f14 f15 f16 f17 => q_294w_2 (n0 := ρ 2) (n1 := ρ 1) (n2 := ρ 0) (n3 := ρ 3) (n4 := ρ 4) (n5 := ρ 5) (H0 := η 0) (H1 := η 1) (H2 := η 2) f17 f16 f15 f14 f13 f12 f11 f10 f9 f8 f7 f6 f5 f4 f3 f2 f1 f0
theorem q_294w_3 {n0 n1 n2 n3 n4 : Int} {H0 H1 : gH} (f0 : n0 ≤ 2147483647) (f1 : (-2147483648) ≤ n0) (f2 : n1 ≤ 2147483647) (f3 : (-2147483648) ≤ n1) (f4 : n2 = 285) (f5 : hWt T0 H0 ∧ preb_294 n2 n1 n0 H0) (f6 : n3 ≤ 1) (f7 : 0 ≤ n3) (f8 : (hLe T0 H0 H1 ∧ hFr s_282.2.2.2.2 H0 H1 ∧ ((0 : Int) = 0 → H1.length = H0.length) ∧ hWt T0 H1) ∧ postb_282 n3 n2 n1 H0 H1) (f9 : n3 = 0) (f10 : n4 = 0) : nb_294 n4 n2 n1 n0 H0 H1 := by
  unfold nb_294
  have si := f8.2
  unfold postb_282 at si
  have s18 : hV H1 285 18 = hV H0 285 18 := f8.1.2.1.1 285 18 (by decide +kernel)
  have q9 := f9
  have rc := f10
  exact .inr ⟨rc, fun w => by have := w.1; omega⟩
def g_294w_s_3 : vG := ([(0, [4], [], 0), (30, [3], [], 0), (1282, [3, 0, 1], [0, 1], 0), (90, [3], [], 0), (91, [3], [], 1), (6000, [0, 1, 2], [0], 0), (0, [0], [], 285), (90, [1], [], -2147483648), (91, [1], [], 2147483647), (90, [2], [], -2147483648), (91, [2], [], 2147483647)], (3000, [4], [1], 9))
theorem c_294w_s_3 : vOkm T0 (eN e_294 L_294w A_294 mu_294 n_294 B_294 none) 3 g_294w_s_3 := vOk_inI fun ρ η f0 f1 f2 f3 f4 f5 f6 f7 f8 f9 f10 => q_294w_3 (n0 := ρ 2) (n1 := ρ 1) (n2 := ρ 0) (n3 := ρ 3) (n4 := ρ 4) (H0 := η 0) (H1 := η 1) f10 f9 f8 f7 f6 f5 f4 f3 f2 f1 f0
def p_294w_s : List vG := [g_294w_s_0,
  g_294w_s_1,
  g_294w_s_2,
  g_294w_s_3]
theorem r_294w_s : vCovBO (eR0 e_294 L_294 cs_294 2000) p_294w_s = true := by decide +kernel
theorem m_294w (d : Nat) : eC e_294w (d + 3) := eC_ref (e := e_294) (L := L_294) (L' := L_294w) (cs := cs_294) (n := 2000) (d := d + 2) (A := A_294) (μ := mu_294) (tp := false) (p0 := p_294_s) (p1 := p_294w_s) (N := n_294) (B := B_294) rfl ⟨m_270w d, ⟨m_282 (d + 1), trivial⟩⟩ rfl (.inl rfl) (by decide +kernel) (fun z => nomatch z) r_294_s (allC c_294_s_0 (allC c_294_s_1 (allC c_294_s_2 (allC c_294_s_3 (allC c_294_s_4 (allC c_294_s_5 (allC c_294_s_6 allN))))))) allN (sub1 (sub0 trivial)) r_294w_s (allC c_294w_s_0 (allC c_294w_s_1 (allC c_294w_s_2 (allC c_294w_s_3 allN)))) allN
/- MixStageModel.atOf (I)I, more fully -/
def nb_271 (r a0 a1 : Int) (h0 h : gH) : Prop := r = frM (hV h0 340) (hV h0 301 (hV h0 344 (a1).toNat).toNat) (hV h0 302 (hV h0 344 (a1).toNat).toNat) (hV h0 345 (a1).toNat)
def n_271 : List Int → gH → gH → Prop := fun xs h0 h => match xs with
  | [r, a0, a1] => nb_271 r a0 a1 h0 h
  | _ => True
noncomputable def e_271w : vE := eV e_271 n_271
noncomputable def L_271w : List vE := [e_269w]
def B_271 : Int → List Int → gH → gH → Prop := fun c xs h0 h => True
theorem q_271w_0 {n0 n1 n2 n3 n4 n5 n6 n7 n8 n9 n10 n11 n12 : Int} {H0 H1 : gH} (f0 : n0 ≤ 39) (f1 : 0 ≤ n0) (f2 : n1 = 285) (f3 : hWt T0 H0 ∧ preb_271 n1 n0 H0) (f4 : n2 = 301) (f5 : hK H0 (n1).toNat = 12) (f6 : n2 = hV H0 (n1).toNat 27) (f7 : n3 = 344) (f8 : hK H0 (n1).toNat = 12) (f9 : n3 = hV H0 (n1).toNat 83) (f10 : n4 ≤ 1007) (f11 : 0 ≤ n4) (f12 : n4 = hV H0 (n3).toNat (n0).toNat) (f13 : n5 ≤ 9999) (f14 : (-1) ≤ n5) (f15 : n5 = hV H0 (n2).toNat (n4).toNat) (f16 : n6 = 302) (f17 : hK H0 (n1).toNat = 12) (f18 : n6 = hV H0 (n1).toNat 28) (f19 : n7 = 344) (f20 : hK H0 (n1).toNat = 12) (f21 : n7 = hV H0 (n1).toNat 83) (f22 : n8 ≤ 1007) (f23 : 0 ≤ n8) (f24 : n8 = hV H0 (n7).toNat (n0).toNat) (f25 : n9 ≤ 9999) (f26 : (-9999) ≤ n9) (f27 : n9 = hV H0 (n6).toNat (n8).toNat) (f28 : n10 = 345) (f29 : hK H0 (n1).toNat = 12) (f30 : n10 = hV H0 (n1).toNat 84) (f31 : n11 ≤ 1000) (f32 : (-1000) ≤ n11) (f33 : n11 = hV H0 (n10).toNat (n0).toNat) (f34 : n12 ≤ 10999) (f35 : (-10999) ≤ n12) (f36 : (hLe T0 H0 H1 ∧ hFr s_269.2.2.2.2 H0 H1 ∧ ((0 : Int) = 0 → H1.length = H0.length) ∧ hWt T0 H1) ∧ (postb_269 n12 n1 n5 n9 n11 H0 H1 ∧ nb_269 n12 n1 n5 n9 n11 H0 H1)) : nb_271 n12 n1 n0 H0 H1 := by
  unfold nb_271
  have d12 := rdW (q := 344) f12 f7
  have d15 := rdW (q := 301) f15 f4
  have d24 := rdW (q := 344) f24 f19
  have d27 := rdW (q := 302) f27 f16
  have d33 := rdW (q := 345) f33 f28
  have fr := f36.2.2
  unfold nb_269 at fr
  rw [d12] at d15
  rw [d24] at d27
  rw [fr, d15, d27, d33]
def g_271w_s_0 : vG := ([(1269, [12, 0, 5, 9, 11], [0, 1], 0), (90, [12], [], -10999), (91, [12], [], 10999), (22, [11, 10, 1], [0], 0), (90, [11], [], -1000), (91, [11], [], 1000), (20, [10, 0], [0], 84), (23, [0], [0], 12), (0, [10], [], 345), (22, [9, 6, 8], [0], 0), (90, [9], [], -9999), (91, [9], [], 9999), (22, [8, 7, 1], [0], 0), (90, [8], [], 0), (91, [8], [], 1007), (20, [7, 0], [0], 83), (23, [0], [0], 12), (0, [7], [], 344), (20, [6, 0], [0], 28), (23, [0], [0], 12), (0, [6], [], 302), (22, [5, 2, 4], [0], 0), (90, [5], [], -1), (91, [5], [], 9999), (22, [4, 3, 1], [0], 0), (90, [4], [], 0), (91, [4], [], 1007), (20, [3, 0], [0], 83), (23, [0], [0], 12), (0, [3], [], 344), (20, [2, 0], [0], 27), (23, [0], [0], 12), (0, [2], [], 301), (6000, [0, 1], [0], 0), (0, [0], [], 285), (90, [1], [], 0), (91, [1], [], 39)], (3000, [12], [1], 32))
theorem c_271w_s_0 : vOkm T0 (eN e_271 L_271w A_271 mu_271 n_271 B_271 none) 2 g_271w_s_0 := vOk_inI fun ρ η f0 f1 f2 f3 f4 f5 f6 f7 f8 f9 f10 f11 f12 f13 f14 f15 f16 f17 f18 f19 f20 f21 f22 f23 f24 f25 f26 f27 f28 f29 f30 f31 f32 f33 f34 f35 f36 => q_271w_0 (n0 := ρ 1) (n1 := ρ 0) (n2 := ρ 2) (n3 := ρ 3) (n4 := ρ 4) (n5 := ρ 5) (n6 := ρ 6) (n7 := ρ 7) (n8 := ρ 8) (n9 := ρ 9) (n10 := ρ 10) (n11 := ρ 11) (n12 := ρ 12) (H0 := η 0) (H1 := η 1) f36 f35 f34 f33 f32 f31 f30 f29 f28 f27 f26 f25 f24 f23 f22 f21 f20 f19 f18 f17 f16 f15 f14 f13 f12 f11 f10 f9 f8 f7 f6 f5 f4 f3 f2 f1 f0
def p_271w_s : List vG := [g_271w_s_0]
theorem r_271w_s : vCovBO (eR0 e_271 L_271 cs_271 2000) p_271w_s = true := by decide +kernel
theorem m_271w (d : Nat) : eC e_271w (d + 2) := eC_ref (e := e_271) (L := L_271) (L' := L_271w) (cs := cs_271) (n := 2000) (d := d + 1) (A := A_271) (μ := mu_271) (tp := true) (p0 := p_271_s) (p1 := p_271w_s) (N := n_271) (B := B_271) rfl ⟨m_269w d, trivial⟩ rfl (.inl rfl) (by decide +kernel) (fun _ => post0_ok) r_271_s (allC c_271_s_0 allN) allN (sub1 trivial) r_271w_s (allC c_271w_s_0 allN) allN
/- MixStageModel.toOf (I)I, more fully -/
def nb_272 (r a0 a1 : Int) (h0 h : gH) : Prop := r = frM (hV h0 340) (hV h0 303 (hV h0 344 (a1).toNat).toNat) (hV h0 304 (hV h0 344 (a1).toNat).toNat) (hV h0 345 (a1).toNat)
def n_272 : List Int → gH → gH → Prop := fun xs h0 h => match xs with
  | [r, a0, a1] => nb_272 r a0 a1 h0 h
  | _ => True
noncomputable def e_272w : vE := eV e_272 n_272
noncomputable def L_272w : List vE := [e_269w]
def B_272 : Int → List Int → gH → gH → Prop := fun c xs h0 h => True
theorem q_272w_0 {n0 n1 n2 n3 n4 n5 n6 n7 n8 n9 n10 n11 n12 : Int} {H0 H1 : gH} (f0 : n0 ≤ 39) (f1 : 0 ≤ n0) (f2 : n1 = 285) (f3 : hWt T0 H0 ∧ preb_272 n1 n0 H0) (f4 : n2 = 303) (f5 : hK H0 (n1).toNat = 12) (f6 : n2 = hV H0 (n1).toNat 29) (f7 : n3 = 344) (f8 : hK H0 (n1).toNat = 12) (f9 : n3 = hV H0 (n1).toNat 83) (f10 : n4 ≤ 1007) (f11 : 0 ≤ n4) (f12 : n4 = hV H0 (n3).toNat (n0).toNat) (f13 : n5 ≤ 9999) (f14 : (-1) ≤ n5) (f15 : n5 = hV H0 (n2).toNat (n4).toNat) (f16 : n6 = 304) (f17 : hK H0 (n1).toNat = 12) (f18 : n6 = hV H0 (n1).toNat 30) (f19 : n7 = 344) (f20 : hK H0 (n1).toNat = 12) (f21 : n7 = hV H0 (n1).toNat 83) (f22 : n8 ≤ 1007) (f23 : 0 ≤ n8) (f24 : n8 = hV H0 (n7).toNat (n0).toNat) (f25 : n9 ≤ 9999) (f26 : (-9999) ≤ n9) (f27 : n9 = hV H0 (n6).toNat (n8).toNat) (f28 : n10 = 345) (f29 : hK H0 (n1).toNat = 12) (f30 : n10 = hV H0 (n1).toNat 84) (f31 : n11 ≤ 1000) (f32 : (-1000) ≤ n11) (f33 : n11 = hV H0 (n10).toNat (n0).toNat) (f34 : n12 ≤ 10999) (f35 : (-10999) ≤ n12) (f36 : (hLe T0 H0 H1 ∧ hFr s_269.2.2.2.2 H0 H1 ∧ ((0 : Int) = 0 → H1.length = H0.length) ∧ hWt T0 H1) ∧ (postb_269 n12 n1 n5 n9 n11 H0 H1 ∧ nb_269 n12 n1 n5 n9 n11 H0 H1)) : nb_272 n12 n1 n0 H0 H1 := by
  unfold nb_272
  have d12 := rdW (q := 344) f12 f7
  have d15 := rdW (q := 303) f15 f4
  have d24 := rdW (q := 344) f24 f19
  have d27 := rdW (q := 304) f27 f16
  have d33 := rdW (q := 345) f33 f28
  have fr := f36.2.2
  unfold nb_269 at fr
  rw [d12] at d15
  rw [d24] at d27
  rw [fr, d15, d27, d33]
def g_272w_s_0 : vG := ([(1269, [12, 0, 5, 9, 11], [0, 1], 0), (90, [12], [], -10999), (91, [12], [], 10999), (22, [11, 10, 1], [0], 0), (90, [11], [], -1000), (91, [11], [], 1000), (20, [10, 0], [0], 84), (23, [0], [0], 12), (0, [10], [], 345), (22, [9, 6, 8], [0], 0), (90, [9], [], -9999), (91, [9], [], 9999), (22, [8, 7, 1], [0], 0), (90, [8], [], 0), (91, [8], [], 1007), (20, [7, 0], [0], 83), (23, [0], [0], 12), (0, [7], [], 344), (20, [6, 0], [0], 30), (23, [0], [0], 12), (0, [6], [], 304), (22, [5, 2, 4], [0], 0), (90, [5], [], -1), (91, [5], [], 9999), (22, [4, 3, 1], [0], 0), (90, [4], [], 0), (91, [4], [], 1007), (20, [3, 0], [0], 83), (23, [0], [0], 12), (0, [3], [], 344), (20, [2, 0], [0], 29), (23, [0], [0], 12), (0, [2], [], 303), (6000, [0, 1], [0], 0), (0, [0], [], 285), (90, [1], [], 0), (91, [1], [], 39)], (3000, [12], [1], 32))
theorem c_272w_s_0 : vOkm T0 (eN e_272 L_272w A_272 mu_272 n_272 B_272 none) 2 g_272w_s_0 := vOk_inI fun ρ η f0 f1 f2 f3 f4 f5 f6 f7 f8 f9 f10 f11 f12 f13 f14 f15 f16 f17 f18 f19 f20 f21 f22 f23 f24 f25 f26 f27 f28 f29 f30 f31 f32 f33 f34 f35 f36 => q_272w_0 (n0 := ρ 1) (n1 := ρ 0) (n2 := ρ 2) (n3 := ρ 3) (n4 := ρ 4) (n5 := ρ 5) (n6 := ρ 6) (n7 := ρ 7) (n8 := ρ 8) (n9 := ρ 9) (n10 := ρ 10) (n11 := ρ 11) (n12 := ρ 12) (H0 := η 0) (H1 := η 1) f36 f35 f34 f33 f32 f31 f30 f29 f28 f27 f26 f25 f24 f23 f22 f21 f20 f19 f18 f17 f16 f15 f14 f13 f12 f11 f10 f9 f8 f7 f6 f5 f4 f3 f2 f1 f0
def p_272w_s : List vG := [g_272w_s_0]
theorem r_272w_s : vCovBO (eR0 e_272 L_272 cs_272 2000) p_272w_s = true := by decide +kernel
theorem m_272w (d : Nat) : eC e_272w (d + 2) := eC_ref (e := e_272) (L := L_272) (L' := L_272w) (cs := cs_272) (n := 2000) (d := d + 1) (A := A_272) (μ := mu_272) (tp := true) (p0 := p_272_s) (p1 := p_272w_s) (N := n_272) (B := B_272) rfl ⟨m_269w d, trivial⟩ rfl (.inl rfl) (by decide +kernel) (fun _ => post0_ok) r_272_s (allC c_272_s_0 allN) allN (sub1 trivial) r_272w_s (allC c_272w_s_0 allN) allN
/- MixStageModel.cue (III)I, more fully -/
def nb_295 (r a0 a1 a2 a3 : Int) (h0 h : gH) : Prop := ((0 ≤ a1 ∧ a1 < hV h0 285 18) ∧ 0 ≤ a2 ∧ a2 < ((flS (hV h0 296) (hV h0 298) (hV h0 300) (hV h0 301) (hV h0 302) (hV h0 340) (7 * (a1).toNat) 7 6 0).length : Int) → ∀ p, (flS (hV h0 296) (hV h0 298) (hV h0 300) (hV h0 301) (hV h0 302) (hV h0 340) (7 * (a1).toNat) 7 6 0)[(a2).toNat]? = some p → r = cuA (hV h0 298) (hV h0 299) (hV h0 300) (hV h0 301) (hV h0 302) (hV h0 340) p a3) ∧ (¬ ((0 ≤ a1 ∧ a1 < hV h0 285 18) ∧ 0 ≤ a2 ∧ a2 < ((flS (hV h0 296) (hV h0 298) (hV h0 300) (hV h0 301) (hV h0 302) (hV h0 340) (7 * (a1).toNat) 7 6 0).length : Int)) → r = -1)
def n_295 : List Int → gH → gH → Prop := fun xs h0 h => match xs with
  | [r, a0, a1, a2, a3] => nb_295 r a0 a1 a2 a3 h0 h
  | _ => True
noncomputable def e_295w : vE := eV e_295 n_295
noncomputable def L_295w : List vE := [e_271w, e_294w]
def B_295 : Int → List Int → gH → gH → Prop := fun c xs h0 h => True
theorem q_295w_0 {n0 n1 n2 n3 n4 n5 n6 n7 : Int} {H0 H1 : gH} (f0 : n0 ≤ 2147483647) (f1 : (-2147483648) ≤ n0) (f2 : n1 ≤ 2147483647) (f3 : (-2147483648) ≤ n1) (f4 : n2 ≤ 2147483647) (f5 : (-2147483648) ≤ n2) (f6 : n3 = 285) (f7 : hWt T0 H0 ∧ preb_295 n3 n2 n1 n0 H0) (f8 : n4 ≤ 1) (f9 : 0 ≤ n4) (f10 : (hLe T0 H0 H1 ∧ hFr s_294.2.2.2.2 H0 H1 ∧ ((0 : Int) = 0 → H1.length = H0.length) ∧ hWt T0 H1) ∧ (postb_294 n4 n3 n2 n1 H0 H1 ∧ nb_294 n4 n3 n2 n1 H0 H1)) (f11 : n4 ≠ 0) (f12 : n5 = 344) (f13 : hK H1 (n3).toNat = 12) (f14 : n5 = hV H1 (n3).toNat 83) (f15 : n6 ≤ 1007) (f16 : 0 ≤ n6) (f17 : n6 = hV H1 (n5).toNat (n1).toNat) (f18 : n0 < 0) (f19 : n7 = (-1)) : nb_295 n7 n3 n2 n1 n0 H0 H1 := by
  unfold nb_295
  have ci := f10.2.2
  unfold nb_294 at ci
  have q11 := f11
  have q18 := f18
  have rc := f19
  obtain ⟨c1, c2, c3, c4, c5⟩ := ci.resolve_right (fun w => by have := w.1; omega)
  have d17 := rdW (q := 344) f17 f12
  refine ⟨fun w p hp => ?_, fun w => absurd ⟨c2, c3, c4⟩ w⟩
  have e := xsL_at c5 hp
  unfold cuA
  rw [if_neg (by omega), if_neg (by omega), if_neg (by omega), if_neg (by omega)]
  exact rc
def g_295w_s_0 : vG := ([(0, [7], [], -1), (66, [3], [], 0), (22, [6, 5, 2], [1], 0), (90, [6], [], 0), (91, [6], [], 1007), (20, [5, 0], [1], 83), (23, [0], [1], 12), (0, [5], [], 344), (31, [4], [], 0), (1294, [4, 0, 1, 2], [0, 1], 0), (90, [4], [], 0), (91, [4], [], 1), (6000, [0, 1, 2, 3], [0], 0), (0, [0], [], 285), (90, [1], [], -2147483648), (91, [1], [], 2147483647), (90, [2], [], -2147483648), (91, [2], [], 2147483647), (90, [3], [], -2147483648), (91, [3], [], 2147483647)], (3000, [7], [1], 98))
theorem c_295w_s_0 : vOkm T0 (eN e_295 L_295w A_295 mu_295 n_295 B_295 none) 4 g_295w_s_0 := vOk_inI fun ρ η f0 f1 f2 f3 f4 f5 f6 f7 f8 f9 f10 f11 f12 f13 f14 f15 f16 f17 f18 f19 => q_295w_0 (n0 := ρ 3) (n1 := ρ 2) (n2 := ρ 1) (n3 := ρ 0) (n4 := ρ 4) (n5 := ρ 5) (n6 := ρ 6) (n7 := ρ 7) (H0 := η 0) (H1 := η 1) f19 f18 f17 f16 f15 f14 f13 f12 f11 f10 f9 f8 f7 f6 f5 f4 f3 f2 f1 f0
theorem q_295w_1 {n0 n1 n2 n3 n4 n5 n6 n7 : Int} {H0 H1 : gH} (f0 : n0 ≤ 2147483647) (f1 : (-2147483648) ≤ n0) (f2 : n1 ≤ 2147483647) (f3 : (-2147483648) ≤ n1) (f4 : n2 ≤ 2147483647) (f5 : (-2147483648) ≤ n2) (f6 : n3 = 285) (f7 : hWt T0 H0 ∧ preb_295 n3 n2 n1 n0 H0) (f8 : n4 ≤ 1) (f9 : 0 ≤ n4) (f10 : (hLe T0 H0 H1 ∧ hFr s_294.2.2.2.2 H0 H1 ∧ ((0 : Int) = 0 → H1.length = H0.length) ∧ hWt T0 H1) ∧ (postb_294 n4 n3 n2 n1 H0 H1 ∧ nb_294 n4 n3 n2 n1 H0 H1)) (f11 : n4 ≠ 0) (f12 : n5 = 344) (f13 : hK H1 (n3).toNat = 12) (f14 : n5 = hV H1 (n3).toNat 83) (f15 : n6 ≤ 1007) (f16 : 0 ≤ n6) (f17 : n6 = hV H1 (n5).toNat (n1).toNat) (f18 : 3 < n0) (f19 : n7 = (-1)) : nb_295 n7 n3 n2 n1 n0 H0 H1 := by
  unfold nb_295
  have ci := f10.2.2
  unfold nb_294 at ci
  have q11 := f11
  have q18 := f18
  have rc := f19
  obtain ⟨c1, c2, c3, c4, c5⟩ := ci.resolve_right (fun w => by have := w.1; omega)
  have d17 := rdW (q := 344) f17 f12
  refine ⟨fun w p hp => ?_, fun w => absurd ⟨c2, c3, c4⟩ w⟩
  have e := xsL_at c5 hp
  unfold cuA
  rw [if_neg (by omega), if_neg (by omega), if_neg (by omega), if_neg (by omega)]
  exact rc
def g_295w_s_1 : vG := ([(0, [7], [], -1), (67, [3], [], 3), (22, [6, 5, 2], [1], 0), (90, [6], [], 0), (91, [6], [], 1007), (20, [5, 0], [1], 83), (23, [0], [1], 12), (0, [5], [], 344), (31, [4], [], 0), (1294, [4, 0, 1, 2], [0, 1], 0), (90, [4], [], 0), (91, [4], [], 1), (6000, [0, 1, 2, 3], [0], 0), (0, [0], [], 285), (90, [1], [], -2147483648), (91, [1], [], 2147483647), (90, [2], [], -2147483648), (91, [2], [], 2147483647), (90, [3], [], -2147483648), (91, [3], [], 2147483647)], (3000, [7], [1], 98))
theorem c_295w_s_1 : vOkm T0 (eN e_295 L_295w A_295 mu_295 n_295 B_295 none) 4 g_295w_s_1 := vOk_inI fun ρ η f0 f1 f2 f3 f4 f5 f6 f7 f8 f9 f10 f11 f12 f13 f14 f15 f16 f17 f18 f19 => q_295w_1 (n0 := ρ 3) (n1 := ρ 2) (n2 := ρ 1) (n3 := ρ 0) (n4 := ρ 4) (n5 := ρ 5) (n6 := ρ 6) (n7 := ρ 7) (H0 := η 0) (H1 := η 1) f19 f18 f17 f16 f15 f14 f13 f12 f11 f10 f9 f8 f7 f6 f5 f4 f3 f2 f1 f0
theorem q_295w_2 {n0 n1 n2 n3 n4 n5 n6 n7 n8 : Int} {H0 H1 : gH} (f0 : n0 ≤ 2147483647) (f1 : (-2147483648) ≤ n0) (f2 : n1 ≤ 2147483647) (f3 : (-2147483648) ≤ n1) (f4 : n2 ≤ 2147483647) (f5 : (-2147483648) ≤ n2) (f6 : n3 = 285) (f7 : hWt T0 H0 ∧ preb_295 n3 n2 n1 n0 H0) (f8 : n4 ≤ 1) (f9 : 0 ≤ n4) (f10 : (hLe T0 H0 H1 ∧ hFr s_294.2.2.2.2 H0 H1 ∧ ((0 : Int) = 0 → H1.length = H0.length) ∧ hWt T0 H1) ∧ (postb_294 n4 n3 n2 n1 H0 H1 ∧ nb_294 n4 n3 n2 n1 H0 H1)) (f11 : n4 ≠ 0) (f12 : n5 = 344) (f13 : hK H1 (n3).toNat = 12) (f14 : n5 = hV H1 (n3).toNat 83) (f15 : n6 ≤ 1007) (f16 : 0 ≤ n6) (f17 : n6 = hV H1 (n5).toNat (n1).toNat) (f18 : n0 = 0) (f19 : n7 = 298) (f20 : hK H1 (n3).toNat = 12) (f21 : n7 = hV H1 (n3).toNat 24) (f22 : n8 ≤ 5) (f23 : 0 ≤ n8) (f24 : n8 = hV H1 (n7).toNat (n6).toNat) : nb_295 n8 n3 n2 n1 n0 H0 H1 := by
  unfold nb_295
  have ci := f10.2.2
  unfold nb_294 at ci
  have q11 := f11
  obtain ⟨c1, c2, c3, c4, c5⟩ := ci.resolve_right (fun w => by have := w.1; omega)
  have d17 := rdW (q := 344) f17 f12
  have d24 := rdW (q := 298) f24 f19
  refine ⟨fun w p hp => ?_, fun w => absurd ⟨c2, c3, c4⟩ w⟩
  have e := xsL_at c5 hp
  have k3 := f18
  unfold cuA
  rw [d17, e.1, show hV H1 298 = hV H0 298 from fRow f10.1.2.1 298 (by decide +kernel)] at d24
  rw [if_pos k3]
  exact d24
def g_295w_s_2 : vG := ([(22, [8, 7, 6], [1], 0), (90, [8], [], 0), (91, [8], [], 5), (20, [7, 0], [1], 24), (23, [0], [1], 12), (0, [7], [], 298), (0, [3], [], 0), (22, [6, 5, 2], [1], 0), (90, [6], [], 0), (91, [6], [], 1007), (20, [5, 0], [1], 83), (23, [0], [1], 12), (0, [5], [], 344), (31, [4], [], 0), (1294, [4, 0, 1, 2], [0, 1], 0), (90, [4], [], 0), (91, [4], [], 1), (6000, [0, 1, 2, 3], [0], 0), (0, [0], [], 285), (90, [1], [], -2147483648), (91, [1], [], 2147483647), (90, [2], [], -2147483648), (91, [2], [], 2147483647), (90, [3], [], -2147483648), (91, [3], [], 2147483647)], (3000, [8], [1], 59))
theorem c_295w_s_2 : vOkm T0 (eN e_295 L_295w A_295 mu_295 n_295 B_295 none) 4 g_295w_s_2 := vOk_inI fun ρ η f0 f1 f2 f3 f4 f5 f6 f7 f8 f9 f10 f11 f12 f13 f14 f15 f16 f17 f18 f19 f20 f21 f22 f23 f24 => q_295w_2 (n0 := ρ 3) (n1 := ρ 2) (n2 := ρ 1) (n3 := ρ 0) (n4 := ρ 4) (n5 := ρ 5) (n6 := ρ 6) (n7 := ρ 7) (n8 := ρ 8) (H0 := η 0) (H1 := η 1) f24 f23 f22 f21 f20 f19 f18 f17 f16 f15 f14 f13 f12 f11 f10 f9 f8 f7 f6 f5 f4 f3 f2 f1 f0
theorem q_295w_3 {n0 n1 n2 n3 n4 n5 n6 n7 n8 n9 n10 : Int} {H0 H1 : gH} (f0 : n0 ≤ 2147483647) (f1 : (-2147483648) ≤ n0) (f2 : n1 ≤ 2147483647) (f3 : (-2147483648) ≤ n1) (f4 : n2 ≤ 2147483647) (f5 : (-2147483648) ≤ n2) (f6 : n3 = 285) (f7 : hWt T0 H0 ∧ preb_295 n3 n2 n1 n0 H0) (f8 : n4 ≤ 1) (f9 : 0 ≤ n4) (f10 : (hLe T0 H0 H1 ∧ hFr s_294.2.2.2.2 H0 H1 ∧ ((0 : Int) = 0 → H1.length = H0.length) ∧ hWt T0 H1) ∧ (postb_294 n4 n3 n2 n1 H0 H1 ∧ nb_294 n4 n3 n2 n1 H0 H1)) (f11 : n4 ≠ 0) (f12 : n5 = 344) (f13 : hK H1 (n3).toNat = 12) (f14 : n5 = hV H1 (n3).toNat 83) (f15 : n6 ≤ 1007) (f16 : 0 ≤ n6) (f17 : n6 = hV H1 (n5).toNat (n1).toNat) (f18 : n0 = 1) (f19 : n7 = 298) (f20 : hK H1 (n3).toNat = 12) (f21 : n7 = hV H1 (n3).toNat 24) (f22 : n8 ≤ 5) (f23 : 0 ≤ n8) (f24 : n8 = hV H1 (n7).toNat (n6).toNat) (f25 : n9 = 2) (f26 : n9 ≤ n8) (f27 : n10 = (-1)) : nb_295 n10 n3 n2 n1 n0 H0 H1 := by
  unfold nb_295
  have ci := f10.2.2
  unfold nb_294 at ci
  have q11 := f11
  have q26 := f26
  have qc25 := f25
  have rc := f27
  obtain ⟨c1, c2, c3, c4, c5⟩ := ci.resolve_right (fun w => by have := w.1; omega)
  have d17 := rdW (q := 344) f17 f12
  have d24 := rdW (q := 298) f24 f19
  refine ⟨fun w p hp => ?_, fun w => absurd ⟨c2, c3, c4⟩ w⟩
  have e := xsL_at c5 hp
  have k3 := f18
  unfold cuA
  rw [d17, e.1, show hV H1 298 = hV H0 298 from fRow f10.1.2.1 298 (by decide +kernel)] at d24
  rw [if_neg (by omega), if_pos k3]
  rw [if_neg (by omega)]
  exact rc
def g_295w_s_3 : vG := ([(0, [10], [], -1), (43, [8, 9], [], 0), (0, [9], [], 2), (22, [8, 7, 6], [1], 0), (90, [8], [], 0), (91, [8], [], 5), (20, [7, 0], [1], 24), (23, [0], [1], 12), (0, [7], [], 298), (0, [3], [], 1), (22, [6, 5, 2], [1], 0), (90, [6], [], 0), (91, [6], [], 1007), (20, [5, 0], [1], 83), (23, [0], [1], 12), (0, [5], [], 344), (31, [4], [], 0), (1294, [4, 0, 1, 2], [0, 1], 0), (90, [4], [], 0), (91, [4], [], 1), (6000, [0, 1, 2, 3], [0], 0), (0, [0], [], 285), (90, [1], [], -2147483648), (91, [1], [], 2147483647), (90, [2], [], -2147483648), (91, [2], [], 2147483647), (90, [3], [], -2147483648), (91, [3], [], 2147483647)], (3000, [10], [1], 80))
theorem c_295w_s_3 : vOkm T0 (eN e_295 L_295w A_295 mu_295 n_295 B_295 none) 4 g_295w_s_3 := vOk_inI fun ρ η f0 f1 f2 f3 f4 f5 f6 f7 f8 f9 f10 f11 f12 f13 f14 f15 f16 f17 f18 f19 f20 f21 f22 f23 f24 f25 f26 f27 => q_295w_3 (n0 := ρ 3) (n1 := ρ 2) (n2 := ρ 1) (n3 := ρ 0) (n4 := ρ 4) (n5 := ρ 5) (n6 := ρ 6) (n7 := ρ 7) (n8 := ρ 8) (n9 := ρ 9) (n10 := ρ 10) (H0 := η 0) (H1 := η 1) f27 f26 f25 f24 f23 f22 f21 f20 f19 f18 f17 f16 f15 f14 f13 f12 f11 f10 f9 f8 f7 f6 f5 f4 f3 f2 f1 f0
theorem q_295w_4 {n0 n1 n2 n3 n4 n5 n6 n7 n8 n9 n10 : Int} {H0 H1 H2 : gH} (f0 : n0 ≤ 2147483647) (f1 : (-2147483648) ≤ n0) (f2 : n1 ≤ 2147483647) (f3 : (-2147483648) ≤ n1) (f4 : n2 ≤ 2147483647) (f5 : (-2147483648) ≤ n2) (f6 : n3 = 285) (f7 : hWt T0 H0 ∧ preb_295 n3 n2 n1 n0 H0) (f8 : n4 ≤ 1) (f9 : 0 ≤ n4) (f10 : (hLe T0 H0 H1 ∧ hFr s_294.2.2.2.2 H0 H1 ∧ ((0 : Int) = 0 → H1.length = H0.length) ∧ hWt T0 H1) ∧ (postb_294 n4 n3 n2 n1 H0 H1 ∧ nb_294 n4 n3 n2 n1 H0 H1)) (f11 : n4 ≠ 0) (f12 : n5 = 344) (f13 : hK H1 (n3).toNat = 12) (f14 : n5 = hV H1 (n3).toNat 83) (f15 : n6 ≤ 1007) (f16 : 0 ≤ n6) (f17 : n6 = hV H1 (n5).toNat (n1).toNat) (f18 : n0 = 1) (f19 : n7 = 298) (f20 : hK H1 (n3).toNat = 12) (f21 : n7 = hV H1 (n3).toNat 24) (f22 : n8 ≤ 5) (f23 : 0 ≤ n8) (f24 : n8 = hV H1 (n7).toNat (n6).toNat) (f25 : n9 = 2) (f26 : n8 < n9) (f27 : n10 ≤ 10999) (f28 : (-10999) ≤ n10) (f29 : (hLe T0 H1 H2 ∧ hFr s_271.2.2.2.2 H1 H2 ∧ ((0 : Int) = 0 → H2.length = H1.length) ∧ hWt T0 H2) ∧ (True ∧ nb_271 n10 n3 n1 H1 H2)) : nb_295 n10 n3 n2 n1 n0 H0 H2 := by
  unfold nb_295
  have ci := f10.2.2
  unfold nb_294 at ci
  have q11 := f11
  have q26 := f26
  have qc25 := f25
  obtain ⟨c1, c2, c3, c4, c5⟩ := ci.resolve_right (fun w => by have := w.1; omega)
  have d17 := rdW (q := 344) f17 f12
  have d24 := rdW (q := 298) f24 f19
  refine ⟨fun w p hp => ?_, fun w => absurd ⟨c2, c3, c4⟩ w⟩
  have e := xsL_at c5 hp
  have k3 := f18
  unfold cuA
  rw [d17, e.1, show hV H1 298 = hV H0 298 from fRow f10.1.2.1 298 (by decide +kernel)] at d24
  rw [if_neg (by omega), if_pos k3]
  rw [if_pos (by omega)]
  have fr := f29.2.2
  unfold nb_271 at fr
  rw [show hV H1 301 = hV H0 301 from fRow f10.1.2.1 301 (by decide +kernel)] at fr
  rw [show hV H1 302 = hV H0 302 from fRow f10.1.2.1 302 (by decide +kernel)] at fr
  rw [show hV H1 340 = hV H0 340 from fRow f10.1.2.1 340 (by decide +kernel)] at fr
  rw [e.1, e.2] at fr
  exact fr
def g_295w_s_4 : vG := ([(1271, [10, 0, 2], [1, 2], 0), (90, [10], [], -10999), (91, [10], [], 10999), (42, [8, 9], [], 0), (0, [9], [], 2), (22, [8, 7, 6], [1], 0), (90, [8], [], 0), (91, [8], [], 5), (20, [7, 0], [1], 24), (23, [0], [1], 12), (0, [7], [], 298), (0, [3], [], 1), (22, [6, 5, 2], [1], 0), (90, [6], [], 0), (91, [6], [], 1007), (20, [5, 0], [1], 83), (23, [0], [1], 12), (0, [5], [], 344), (31, [4], [], 0), (1294, [4, 0, 1, 2], [0, 1], 0), (90, [4], [], 0), (91, [4], [], 1), (6000, [0, 1, 2, 3], [0], 0), (0, [0], [], 285), (90, [1], [], -2147483648), (91, [1], [], 2147483647), (90, [2], [], -2147483648), (91, [2], [], 2147483647), (90, [3], [], -2147483648), (91, [3], [], 2147483647)], (3000, [10], [2], 80))
theorem c_295w_s_4 : vOkm T0 (eN e_295 L_295w A_295 mu_295 n_295 B_295 none) 4 g_295w_s_4 := vOk_inI fun ρ η f0 f1 f2 f3 f4 f5 f6 f7 f8 f9 f10 f11 f12 f13 f14 f15 f16 f17 f18 f19 f20 f21 f22 f23 f24 f25 f26 f27 f28 f29 => q_295w_4 (n0 := ρ 3) (n1 := ρ 2) (n2 := ρ 1) (n3 := ρ 0) (n4 := ρ 4) (n5 := ρ 5) (n6 := ρ 6) (n7 := ρ 7) (n8 := ρ 8) (n9 := ρ 9) (n10 := ρ 10) (H0 := η 0) (H1 := η 1) (H2 := η 2) f29 f28 f27 f26 f25 f24 f23 f22 f21 f20 f19 f18 f17 f16 f15 f14 f13 f12 f11 f10 f9 f8 f7 f6 f5 f4 f3 f2 f1 f0
theorem q_295w_5 {n0 n1 n2 n3 n4 n5 n6 n7 n8 : Int} {H0 H1 : gH} (f0 : n0 ≤ 2147483647) (f1 : (-2147483648) ≤ n0) (f2 : n1 ≤ 2147483647) (f3 : (-2147483648) ≤ n1) (f4 : n2 ≤ 2147483647) (f5 : (-2147483648) ≤ n2) (f6 : n3 = 285) (f7 : hWt T0 H0 ∧ preb_295 n3 n2 n1 n0 H0) (f8 : n4 ≤ 1) (f9 : 0 ≤ n4) (f10 : (hLe T0 H0 H1 ∧ hFr s_294.2.2.2.2 H0 H1 ∧ ((0 : Int) = 0 → H1.length = H0.length) ∧ hWt T0 H1) ∧ (postb_294 n4 n3 n2 n1 H0 H1 ∧ nb_294 n4 n3 n2 n1 H0 H1)) (f11 : n4 ≠ 0) (f12 : n5 = 344) (f13 : hK H1 (n3).toNat = 12) (f14 : n5 = hV H1 (n3).toNat 83) (f15 : n6 ≤ 1007) (f16 : 0 ≤ n6) (f17 : n6 = hV H1 (n5).toNat (n1).toNat) (f18 : n0 = 2) (f19 : n7 = 300) (f20 : hK H1 (n3).toNat = 12) (f21 : n7 = hV H1 (n3).toNat 26) (f22 : n8 ≤ 9999) (f23 : (-1) ≤ n8) (f24 : n8 = hV H1 (n7).toNat (n6).toNat) : nb_295 n8 n3 n2 n1 n0 H0 H1 := by
  unfold nb_295
  have ci := f10.2.2
  unfold nb_294 at ci
  have q11 := f11
  obtain ⟨c1, c2, c3, c4, c5⟩ := ci.resolve_right (fun w => by have := w.1; omega)
  have d17 := rdW (q := 344) f17 f12
  have d24 := rdW (q := 300) f24 f19
  refine ⟨fun w p hp => ?_, fun w => absurd ⟨c2, c3, c4⟩ w⟩
  have e := xsL_at c5 hp
  have k3 := f18
  unfold cuA
  rw [d17, e.1, show hV H1 300 = hV H0 300 from fRow f10.1.2.1 300 (by decide +kernel)] at d24
  rw [if_neg (by omega), if_neg (by omega), if_pos k3]
  exact d24
def g_295w_s_5 : vG := ([(22, [8, 7, 6], [1], 0), (90, [8], [], -1), (91, [8], [], 9999), (20, [7, 0], [1], 26), (23, [0], [1], 12), (0, [7], [], 300), (0, [3], [], 2), (22, [6, 5, 2], [1], 0), (90, [6], [], 0), (91, [6], [], 1007), (20, [5, 0], [1], 83), (23, [0], [1], 12), (0, [5], [], 344), (31, [4], [], 0), (1294, [4, 0, 1, 2], [0, 1], 0), (90, [4], [], 0), (91, [4], [], 1), (6000, [0, 1, 2, 3], [0], 0), (0, [0], [], 285), (90, [1], [], -2147483648), (91, [1], [], 2147483647), (90, [2], [], -2147483648), (91, [2], [], 2147483647), (90, [3], [], -2147483648), (91, [3], [], 2147483647)], (3000, [8], [1], 88))
theorem c_295w_s_5 : vOkm T0 (eN e_295 L_295w A_295 mu_295 n_295 B_295 none) 4 g_295w_s_5 := vOk_inI fun ρ η f0 f1 f2 f3 f4 f5 f6 f7 f8 f9 f10 f11 f12 f13 f14 f15 f16 f17 f18 f19 f20 f21 f22 f23 f24 => q_295w_5 (n0 := ρ 3) (n1 := ρ 2) (n2 := ρ 1) (n3 := ρ 0) (n4 := ρ 4) (n5 := ρ 5) (n6 := ρ 6) (n7 := ρ 7) (n8 := ρ 8) (H0 := η 0) (H1 := η 1) f24 f23 f22 f21 f20 f19 f18 f17 f16 f15 f14 f13 f12 f11 f10 f9 f8 f7 f6 f5 f4 f3 f2 f1 f0
theorem q_295w_6 {n0 n1 n2 n3 n4 n5 n6 n7 n8 : Int} {H0 H1 : gH} (f0 : n0 ≤ 2147483647) (f1 : (-2147483648) ≤ n0) (f2 : n1 ≤ 2147483647) (f3 : (-2147483648) ≤ n1) (f4 : n2 ≤ 2147483647) (f5 : (-2147483648) ≤ n2) (f6 : n3 = 285) (f7 : hWt T0 H0 ∧ preb_295 n3 n2 n1 n0 H0) (f8 : n4 ≤ 1) (f9 : 0 ≤ n4) (f10 : (hLe T0 H0 H1 ∧ hFr s_294.2.2.2.2 H0 H1 ∧ ((0 : Int) = 0 → H1.length = H0.length) ∧ hWt T0 H1) ∧ (postb_294 n4 n3 n2 n1 H0 H1 ∧ nb_294 n4 n3 n2 n1 H0 H1)) (f11 : n4 ≠ 0) (f12 : n5 = 344) (f13 : hK H1 (n3).toNat = 12) (f14 : n5 = hV H1 (n3).toNat 83) (f15 : n6 ≤ 1007) (f16 : 0 ≤ n6) (f17 : n6 = hV H1 (n5).toNat (n1).toNat) (f18 : n0 = 3) (f19 : n7 = 299) (f20 : hK H1 (n3).toNat = 12) (f21 : n7 = hV H1 (n3).toNat 25) (f22 : n8 ≤ 2000) (f23 : 0 ≤ n8) (f24 : n8 = hV H1 (n7).toNat (n6).toNat) : nb_295 n8 n3 n2 n1 n0 H0 H1 := by
  unfold nb_295
  have ci := f10.2.2
  unfold nb_294 at ci
  have q11 := f11
  obtain ⟨c1, c2, c3, c4, c5⟩ := ci.resolve_right (fun w => by have := w.1; omega)
  have d17 := rdW (q := 344) f17 f12
  have d24 := rdW (q := 299) f24 f19
  refine ⟨fun w p hp => ?_, fun w => absurd ⟨c2, c3, c4⟩ w⟩
  have e := xsL_at c5 hp
  have k3 := f18
  unfold cuA
  rw [d17, e.1, show hV H1 299 = hV H0 299 from fRow f10.1.2.1 299 (by decide +kernel)] at d24
  rw [if_neg (by omega), if_neg (by omega), if_neg (by omega), if_pos k3]
  exact d24
def g_295w_s_6 : vG := ([(22, [8, 7, 6], [1], 0), (90, [8], [], 0), (91, [8], [], 2000), (20, [7, 0], [1], 25), (23, [0], [1], 12), (0, [7], [], 299), (0, [3], [], 3), (22, [6, 5, 2], [1], 0), (90, [6], [], 0), (91, [6], [], 1007), (20, [5, 0], [1], 83), (23, [0], [1], 12), (0, [5], [], 344), (31, [4], [], 0), (1294, [4, 0, 1, 2], [0, 1], 0), (90, [4], [], 0), (91, [4], [], 1), (6000, [0, 1, 2, 3], [0], 0), (0, [0], [], 285), (90, [1], [], -2147483648), (91, [1], [], 2147483647), (90, [2], [], -2147483648), (91, [2], [], 2147483647), (90, [3], [], -2147483648), (91, [3], [], 2147483647)], (3000, [8], [1], 96))
theorem c_295w_s_6 : vOkm T0 (eN e_295 L_295w A_295 mu_295 n_295 B_295 none) 4 g_295w_s_6 := vOk_inI fun ρ η f0 f1 f2 f3 f4 f5 f6 f7 f8 f9 f10 f11 f12 f13 f14 f15 f16 f17 f18 f19 f20 f21 f22 f23 f24 => q_295w_6 (n0 := ρ 3) (n1 := ρ 2) (n2 := ρ 1) (n3 := ρ 0) (n4 := ρ 4) (n5 := ρ 5) (n6 := ρ 6) (n7 := ρ 7) (n8 := ρ 8) (H0 := η 0) (H1 := η 1) f24 f23 f22 f21 f20 f19 f18 f17 f16 f15 f14 f13 f12 f11 f10 f9 f8 f7 f6 f5 f4 f3 f2 f1 f0
theorem q_295w_7 {n0 n1 n2 n3 n4 n5 : Int} {H0 H1 : gH} (f0 : n0 ≤ 2147483647) (f1 : (-2147483648) ≤ n0) (f2 : n1 ≤ 2147483647) (f3 : (-2147483648) ≤ n1) (f4 : n2 ≤ 2147483647) (f5 : (-2147483648) ≤ n2) (f6 : n3 = 285) (f7 : hWt T0 H0 ∧ preb_295 n3 n2 n1 n0 H0) (f8 : n4 ≤ 1) (f9 : 0 ≤ n4) (f10 : (hLe T0 H0 H1 ∧ hFr s_294.2.2.2.2 H0 H1 ∧ ((0 : Int) = 0 → H1.length = H0.length) ∧ hWt T0 H1) ∧ (postb_294 n4 n3 n2 n1 H0 H1 ∧ nb_294 n4 n3 n2 n1 H0 H1)) (f11 : n4 = 0) (f12 : n5 = (-1)) : nb_295 n5 n3 n2 n1 n0 H0 H1 := by
  unfold nb_295
  have ci := f10.2.2
  unfold nb_294 at ci
  have q11 := f11
  have rc := f12
  have no := ci.resolve_left (fun w => by have := w.1; omega)
  exact ⟨fun w => absurd w no.2, fun _ => rc⟩
def g_295w_s_7 : vG := ([(0, [5], [], -1), (30, [4], [], 0), (1294, [4, 0, 1, 2], [0, 1], 0), (90, [4], [], 0), (91, [4], [], 1), (6000, [0, 1, 2, 3], [0], 0), (0, [0], [], 285), (90, [1], [], -2147483648), (91, [1], [], 2147483647), (90, [2], [], -2147483648), (91, [2], [], 2147483647), (90, [3], [], -2147483648), (91, [3], [], 2147483647)], (3000, [5], [1], 10))
theorem c_295w_s_7 : vOkm T0 (eN e_295 L_295w A_295 mu_295 n_295 B_295 none) 4 g_295w_s_7 := vOk_inI fun ρ η f0 f1 f2 f3 f4 f5 f6 f7 f8 f9 f10 f11 f12 => q_295w_7 (n0 := ρ 3) (n1 := ρ 2) (n2 := ρ 1) (n3 := ρ 0) (n4 := ρ 4) (n5 := ρ 5) (H0 := η 0) (H1 := η 1) f12 f11 f10 f9 f8 f7 f6 f5 f4 f3 f2 f1 f0
def p_295w_s : List vG := [g_295w_s_0,
  g_295w_s_1,
  g_295w_s_2,
  g_295w_s_3,
  g_295w_s_4,
  g_295w_s_5,
  g_295w_s_6,
  g_295w_s_7]
theorem r_295w_s : vCovBO (eR0 e_295 L_295 cs_295 2000) p_295w_s = true := by decide +kernel
theorem m_295w (d : Nat) : eC e_295w (d + 4) := eC_ref (e := e_295) (L := L_295) (L' := L_295w) (cs := cs_295) (n := 2000) (d := d + 3) (A := A_295) (μ := mu_295) (tp := true) (p0 := p_295_s) (p1 := p_295w_s) (N := n_295) (B := B_295) rfl ⟨m_271w (d + 1), ⟨m_294w d, trivial⟩⟩ rfl (.inl rfl) (by decide +kernel) (fun _ => post0_ok) r_295_s (allC c_295_s_0 (allC c_295_s_1 (allC c_295_s_2 (allC c_295_s_3 (allC c_295_s_4 allN))))) allN (sub1 (sub1 trivial)) r_295w_s (allC c_295w_s_0 (allC c_295w_s_1 (allC c_295w_s_2 (allC c_295w_s_3 (allC c_295w_s_4 (allC c_295w_s_5 (allC c_295w_s_6 (allC c_295w_s_7 allN)))))))) allN
/- MixStageModel.mark (II)Z, more fully -/
def nb_262 (r a0 a1 a2 : Int) (h0 h : gH) : Prop := (0 ≤ a1 ∧ a1 ≤ 7 ∧ 0 ≤ a2 ∧ a2 ≤ 60 → r = 1 ∧ hV h 340 = uF (hV h0 340) a1 a2) ∧ (¬ (0 ≤ a1 ∧ a1 ≤ 7 ∧ 0 ≤ a2 ∧ a2 ≤ 60) → r = 0 ∧ hV h 340 = hV h0 340)
def n_262 : List Int → gH → gH → Prop := fun xs h0 h => match xs with
  | [r, a0, a1, a2] => nb_262 r a0 a1 a2 h0 h
  | _ => True
noncomputable def e_262w : vE := eV e_262 n_262
noncomputable def L_262w : List vE := [e_251]
def B_262 : Int → List Int → gH → gH → Prop := fun c xs h0 h => True
theorem q_262w_0 {n0 n1 n2 n3 n4 n5 n6 : Int} {H0 H1 : gH} (f0 : n0 ≤ 2147483647) (f1 : (-2147483648) ≤ n0) (f2 : n1 ≤ 2147483647) (f3 : (-2147483648) ≤ n1) (f4 : n2 = 285) (f5 : hWt T0 H0 ∧ preb_262 n2 n1 n0 H0) (f6 : n3 = 0) (f7 : n4 = 7) (f8 : n5 ≤ 1) (f9 : 0 ≤ n5) (f10 : (hLe T0 H0 H1 ∧ hFr s_251.2.2.2.2 H0 H1 ∧ ((0 : Int) = 0 → H1.length = H0.length) ∧ hWt T0 H1) ∧ postb_251 n5 n1 n3 n4 H0 H1) (f11 : n5 = 0) (f12 : n6 = 0) : nb_262 n6 n2 n1 n0 H0 H1 := by
  unfold nb_262
  have rc := f12
  have i10 := f10.2
  unfold postb_251 at i10
  have k4 := f4
  have k6 := f6
  have k7 := f7
  have k12 := f12
  have e : hV H1 340 = hV H0 340 := (fRow f10.1.2.1 340 (by decide +kernel)).trans rfl
  exact ⟨fun w => by exfalso; omega, fun w => ⟨rc, e⟩⟩
def g_262w_s_0 : vG := ([(0, [6], [], 0), (30, [5], [], 0), (1251, [5, 1, 3, 4], [0, 1], 0), (90, [5], [], 0), (91, [5], [], 1), (0, [4], [], 7), (0, [3], [], 0), (6000, [0, 1, 2], [0], 0), (0, [0], [], 285), (90, [1], [], -2147483648), (91, [1], [], 2147483647), (90, [2], [], -2147483648), (91, [2], [], 2147483647)], (3000, [6], [1], 21))
theorem c_262w_s_0 : vOkm T0 (eN e_262 L_262w A_262 mu_262 n_262 B_262 none) 3 g_262w_s_0 := vOk_inI fun ρ η f0 f1 f2 f3 f4 f5 f6 f7 f8 f9 f10 f11 f12 => q_262w_0 (n0 := ρ 2) (n1 := ρ 1) (n2 := ρ 0) (n3 := ρ 3) (n4 := ρ 4) (n5 := ρ 5) (n6 := ρ 6) (H0 := η 0) (H1 := η 1) f12 f11 f10 f9 f8 f7 f6 f5 f4 f3 f2 f1 f0
theorem q_262w_1 {n0 n1 n2 n3 n4 n5 n6 n7 n8 n9 n10 n11 n12 n13 n14 n15 n16 : Int} {H0 H1 H2 H3 H4 H5 : gH} (f0 : n0 ≤ 2147483647) (f1 : (-2147483648) ≤ n0) (f2 : n1 ≤ 2147483647) (f3 : (-2147483648) ≤ n1) (f4 : n2 = 285) (f5 : hWt T0 H0 ∧ preb_262 n2 n1 n0 H0) (f6 : n3 = 0) (f7 : n4 = 7) (f8 : n5 ≤ 1) (f9 : 0 ≤ n5) (f10 : (hLe T0 H0 H1 ∧ hFr s_251.2.2.2.2 H0 H1 ∧ ((0 : Int) = 0 → H1.length = H0.length) ∧ hWt T0 H1) ∧ postb_251 n5 n1 n3 n4 H0 H1) (f11 : n5 ≠ 0) (f12 : n6 = 0) (f13 : n7 = 60) (f14 : n8 ≤ 1) (f15 : 0 ≤ n8) (f16 : (hLe T0 H1 H2 ∧ hFr s_251.2.2.2.2 H1 H2 ∧ ((0 : Int) = 0 → H2.length = H1.length) ∧ hWt T0 H2) ∧ postb_251 n8 n0 n6 n7 H1 H2) (f17 : n8 ≠ 0) (f18 : n9 = 340) (f19 : hK H2 (n2).toNat = 12) (f20 : n9 = hV H2 (n2).toNat 78) (f21 : hK H2 (n9).toNat = 548) (f22 : hUpd H3 H2 n9 n1 n0) (f23 : n10 ≤ 2147483647) (f24 : 0 ≤ n10) (f25 : hK H3 (n2).toNat = 12) (f26 : n10 = hV H3 (n2).toNat 65) (f27 : n11 = 1) (f28 : n12 = w32 (n10 + n11)) (f29 : hK H3 (n2).toNat = 12) (f30 : n13 = 65) (f31 : hUpd H4 H3 n2 n13 n12) (f32 : n14 = 341) (f33 : hK H4 (n2).toNat = 12) (f34 : n14 = hV H4 (n2).toNat 79) (f35 : n15 ≤ 2147483647) (f36 : 0 ≤ n15) (f37 : hK H4 (n2).toNat = 12) (f38 : n15 = hV H4 (n2).toNat 65) (f39 : hK H4 (n14).toNat = 556) (f40 : hUpd H5 H4 n14 n1 n15) (f41 : n16 = 1) : nb_262 n16 n2 n1 n0 H0 H5 := by
  unfold nb_262
  have rc := f41
  have i10 := f10.2
  unfold postb_251 at i10
  have i16 := f16.2
  unfold postb_251 at i16
  have k4 := f4
  have k6 := f6
  have k7 := f7
  have k12 := f12
  have k13 := f13
  have k18 := f18
  have k27 := f27
  have k30 := f30
  have k32 := f32
  have k41 := f41
  have e : hV H5 340 = uF (hV H0 340) n1 n0 := (uRowNe f40 340 (by rw [f32]; decide)).trans ((uRowNe f31 340 (by rw [f4]; decide)).trans ((uRowQ f22 340 f18).trans (congrArg (fun g => uF g n1 n0) ((fRow f16.1.2.1 340 (by decide +kernel)).trans ((fRow f10.1.2.1 340 (by decide +kernel)).trans rfl)))))
  exact ⟨fun w => ⟨rc, e⟩, fun w => by exfalso; omega⟩
def g_262w_s_1 : vG := ([(0, [16], [], 1), (80, [14, 1, 15], [5, 4], 0), (23, [14], [4], 556), (20, [15, 0], [4], 65), (23, [0], [4], 12), (90, [15], [], 0), (91, [15], [], 2147483647), (20, [14, 0], [4], 79), (23, [0], [4], 12), (0, [14], [], 341), (80, [0, 13, 12], [4, 3], 0), (0, [13], [], 65), (23, [0], [3], 12), (1, [12, 10, 11], [], 0), (0, [11], [], 1), (20, [10, 0], [3], 65), (23, [0], [3], 12), (90, [10], [], 0), (91, [10], [], 2147483647), (80, [9, 1, 2], [3, 2], 0), (23, [9], [2], 548), (20, [9, 0], [2], 78), (23, [0], [2], 12), (0, [9], [], 340), (31, [8], [], 0), (1251, [8, 2, 6, 7], [1, 2], 0), (90, [8], [], 0), (91, [8], [], 1), (0, [7], [], 60), (0, [6], [], 0), (31, [5], [], 0), (1251, [5, 1, 3, 4], [0, 1], 0), (90, [5], [], 0), (91, [5], [], 1), (0, [4], [], 7), (0, [3], [], 0), (6000, [0, 1, 2], [0], 0), (0, [0], [], 285), (90, [1], [], -2147483648), (91, [1], [], 2147483647), (90, [2], [], -2147483648), (91, [2], [], 2147483647)], (3000, [16], [5], 50))
theorem c_262w_s_1 : vOkm T0 (eN e_262 L_262w A_262 mu_262 n_262 B_262 none) 3 g_262w_s_1 := vOk_inI fun ρ η f0 f1 f2 f3 f4 f5 f6 f7 f8 f9 f10 f11 f12 f13 f14 f15 f16 f17 f18 f19 f20 f21 f22 f23 f24 f25 f26 f27 f28 f29 f30 f31 f32 f33 f34 f35 f36 f37 f38 f39 f40 f41 => q_262w_1 (n0 := ρ 2) (n1 := ρ 1) (n2 := ρ 0) (n3 := ρ 3) (n4 := ρ 4) (n5 := ρ 5) (n6 := ρ 6) (n7 := ρ 7) (n8 := ρ 8) (n9 := ρ 9) (n10 := ρ 10) (n11 := ρ 11) (n12 := ρ 12) (n13 := ρ 13) (n14 := ρ 14) (n15 := ρ 15) (n16 := ρ 16) (H0 := η 0) (H1 := η 1) (H2 := η 2) (H3 := η 3) (H4 := η 4) (H5 := η 5) f41 f40 f39 f38 f37 f36 f35 f34 f33 f32 f31 f30 f29 f28 f27 f26 f25 f24 f23 f22 f21 f20 f19 f18 f17 f16 f15 f14 f13 f12 f11 f10 f9 f8 f7 f6 f5 f4 f3 f2 f1 f0
theorem q_262w_2 {n0 n1 n2 n3 n4 n5 n6 n7 n8 n9 : Int} {H0 H1 H2 : gH} (f0 : n0 ≤ 2147483647) (f1 : (-2147483648) ≤ n0) (f2 : n1 ≤ 2147483647) (f3 : (-2147483648) ≤ n1) (f4 : n2 = 285) (f5 : hWt T0 H0 ∧ preb_262 n2 n1 n0 H0) (f6 : n3 = 0) (f7 : n4 = 7) (f8 : n5 ≤ 1) (f9 : 0 ≤ n5) (f10 : (hLe T0 H0 H1 ∧ hFr s_251.2.2.2.2 H0 H1 ∧ ((0 : Int) = 0 → H1.length = H0.length) ∧ hWt T0 H1) ∧ postb_251 n5 n1 n3 n4 H0 H1) (f11 : n5 ≠ 0) (f12 : n6 = 0) (f13 : n7 = 60) (f14 : n8 ≤ 1) (f15 : 0 ≤ n8) (f16 : (hLe T0 H1 H2 ∧ hFr s_251.2.2.2.2 H1 H2 ∧ ((0 : Int) = 0 → H2.length = H1.length) ∧ hWt T0 H2) ∧ postb_251 n8 n0 n6 n7 H1 H2) (f17 : n8 = 0) (f18 : n9 = 0) : nb_262 n9 n2 n1 n0 H0 H2 := by
  unfold nb_262
  have rc := f18
  have i10 := f10.2
  unfold postb_251 at i10
  have i16 := f16.2
  unfold postb_251 at i16
  have k4 := f4
  have k6 := f6
  have k7 := f7
  have k12 := f12
  have k13 := f13
  have k18 := f18
  have e : hV H2 340 = hV H0 340 := (fRow f16.1.2.1 340 (by decide +kernel)).trans ((fRow f10.1.2.1 340 (by decide +kernel)).trans rfl)
  exact ⟨fun w => by exfalso; omega, fun w => ⟨rc, e⟩⟩
def g_262w_s_2 : vG := ([(0, [9], [], 0), (30, [8], [], 0), (1251, [8, 2, 6, 7], [1, 2], 0), (90, [8], [], 0), (91, [8], [], 1), (0, [7], [], 60), (0, [6], [], 0), (31, [5], [], 0), (1251, [5, 1, 3, 4], [0, 1], 0), (90, [5], [], 0), (91, [5], [], 1), (0, [4], [], 7), (0, [3], [], 0), (6000, [0, 1, 2], [0], 0), (0, [0], [], 285), (90, [1], [], -2147483648), (91, [1], [], 2147483647), (90, [2], [], -2147483648), (91, [2], [], 2147483647)], (3000, [9], [2], 21))
theorem c_262w_s_2 : vOkm T0 (eN e_262 L_262w A_262 mu_262 n_262 B_262 none) 3 g_262w_s_2 := vOk_inI fun ρ η f0 f1 f2 f3 f4 f5 f6 f7 f8 f9 f10 f11 f12 f13 f14 f15 f16 f17 f18 => q_262w_2 (n0 := ρ 2) (n1 := ρ 1) (n2 := ρ 0) (n3 := ρ 3) (n4 := ρ 4) (n5 := ρ 5) (n6 := ρ 6) (n7 := ρ 7) (n8 := ρ 8) (n9 := ρ 9) (H0 := η 0) (H1 := η 1) (H2 := η 2) f18 f17 f16 f15 f14 f13 f12 f11 f10 f9 f8 f7 f6 f5 f4 f3 f2 f1 f0
def p_262w_s : List vG := [g_262w_s_0,
  g_262w_s_1,
  g_262w_s_2]
theorem r_262w_s : vCovBO (eR0 e_262 L_262 cs_262 2000) p_262w_s = true := by decide +kernel
theorem m_262w (d : Nat) : eC e_262w (d + 2) := eC_ref (e := e_262) (L := L_262) (L' := L_262w) (cs := cs_262) (n := 2000) (d := d + 1) (A := A_262) (μ := mu_262) (tp := false) (p0 := p_262_s) (p1 := p_262w_s) (N := n_262) (B := B_262) rfl ⟨m_251 d, trivial⟩ rfl (.inl rfl) (by decide +kernel) (fun z => nomatch z) r_262_s (allC c_262_s_0 (allC c_262_s_1 (allC c_262_s_2 (allC c_262_s_3 (allC c_262_s_4 (allC c_262_s_5 (allC c_262_s_6 (allC c_262_s_7 (allC c_262_s_8 allN))))))))) allN (sub0 trivial) r_262w_s (allC c_262w_s_0 (allC c_262w_s_1 (allC c_262w_s_2 allN))) allN
