/-! CONTRACTS of methods told more fully. -/
/- Reader.readCondition ()V, more fully -/
def nb_88 (a0 : Int) (h0 h : gH) : Prop := hV h 46 = hV h0 46
def n_88 : List Int → gH → gH → Prop := fun xs h0 h => match xs with
  | [a0] => nb_88 a0 h0 h
  | _ => True
noncomputable def e_88vw : vE := eV e_88v n_88
noncomputable def L_88vw : List vE := [e_66v, e_89v, e_90v, e_91, e_92vw, e_98]
def Bb_88_9 (a0 x0 x1 x2 x3 x4 : Int) (h0 h : gH) : Prop := hV h 46 = hV h0 46
def Bb_88_122 (a0 x0 x1 x2 x3 x4 x5 x6 : Int) (h0 h : gH) : Prop := hV h 46 = hV h0 46
def B_88 : Int → List Int → gH → gH → Prop := fun c xs h0 h => match c.toNat with
  | 9 => (match xs with
    | [a0, x0, x1, x2, x3, x4] => Bb_88_9 a0 x0 x1 x2 x3 x4 h0 h
    | _ => False)
  | 122 => (match xs with
    | [a0, x0, x1, x2, x3, x4, x5, x6] => Bb_88_122 a0 x0 x1 x2 x3 x4 x5 x6 h0 h
    | _ => False)
  | _ => True
theorem q_88vw_0 {n0 n1 n2 n3 n4 : Int} {H0 : gH}  : Bb_88_9 n0 n0 n1 n2 n3 n4 H0 H0 := by
  unfold Bb_88_9
  exact rfl
def g_88vw_s_0 : vG := ([], (4000, [0, 1, 2, 3, 4], [0], 9))
theorem c_88vw_s_0 : vOkm T0 (eN e_88v L_88vw A_88v mu_88v n_88 B_88 none) 1 g_88vw_s_0 := vOk_inI fun ρ η => q_88vw_0 (n0 := ρ 0) (n1 := ρ 1) (n2 := ρ 2) (n3 := ρ 3) (n4 := ρ 4) (H0 := η 0) 
def p_88vw_s : List vG := [g_88vw_s_0]
theorem r_88vw_s : vCovBO (eR0 e_88v L_88v cs_88v 2000) p_88vw_s = true := by decide +kernel
theorem q_88vw_1 {q0 : Nat} {n0 n1 n2 n3 n4 n5 : Int} {H0 H1 : gH} (f0 : (hLe T0 H0 H1 ∧ hFr s_88v.2.2.2.2 H0 H1 ∧ hWt T0 H1) ∧ ((Ab_88v_9 n5 n4 n3 n2 n1 n0 H0 H1 ∧ Bb_88_9 n5 n4 n3 n2 n1 n0 H0 H1) ∧ preb_88v n5 H0) ∧ some q0 = some (mub_88v_9 n5 n4 n3 n2 n1 n0 H0 H1)) : nb_88 n5 H0 H1 := by
  unfold nb_88
  exact show hV H1 46 = hV H0 46 from f0.2.1.1.2
def g_88vw_9_0 : vG := ([(5000, [0, 1, 2, 3, 4, 5], [0, 1], 9)], (3000, [], [1], 164))
theorem c_88vw_9_0 {q0 : Nat} : vOkm T0 (eN e_88v L_88vw A_88v mu_88v n_88 B_88 (some q0)) 1 g_88vw_9_0 := vOk_inI fun ρ η f0 => q_88vw_1 (q0 := q0) (n0 := ρ 5) (n1 := ρ 4) (n2 := ρ 3) (n3 := ρ 2) (n4 := ρ 1) (n5 := ρ 0) (H0 := η 0) (H1 := η 1) f0
theorem q_88vw_2 {q0 : Nat} {n0 n1 n2 n3 n4 n5 : Int} {H0 H1 : gH} (f0 : (hLe T0 H0 H1 ∧ hFr s_88v.2.2.2.2 H0 H1 ∧ hWt T0 H1) ∧ ((Ab_88v_9 n5 n4 n3 n2 n1 n0 H0 H1 ∧ Bb_88_9 n5 n4 n3 n2 n1 n0 H0 H1) ∧ preb_88v n5 H0) ∧ some q0 = some (mub_88v_9 n5 n4 n3 n2 n1 n0 H0 H1)) : nb_88 n5 H0 H1 := by
  unfold nb_88
  exact show hV H1 46 = hV H0 46 from f0.2.1.1.2
def g_88vw_9_1 : vG := ([(5000, [0, 1, 2, 3, 4, 5], [0, 1], 9)], (3000, [], [1], 164))
theorem c_88vw_9_1 {q0 : Nat} : vOkm T0 (eN e_88v L_88vw A_88v mu_88v n_88 B_88 (some q0)) 1 g_88vw_9_1 := vOk_inI fun ρ η f0 => q_88vw_2 (q0 := q0) (n0 := ρ 5) (n1 := ρ 4) (n2 := ρ 3) (n3 := ρ 2) (n4 := ρ 1) (n5 := ρ 0) (H0 := η 0) (H1 := η 1) f0
theorem q_88vw_3 {q0 : Nat} {n0 n1 n2 n3 n4 n5 : Int} {H0 H1 : gH} (f0 : (hLe T0 H0 H1 ∧ hFr s_88v.2.2.2.2 H0 H1 ∧ hWt T0 H1) ∧ ((Ab_88v_9 n5 n4 n3 n2 n1 n0 H0 H1 ∧ Bb_88_9 n5 n4 n3 n2 n1 n0 H0 H1) ∧ preb_88v n5 H0) ∧ some q0 = some (mub_88v_9 n5 n4 n3 n2 n1 n0 H0 H1)) : nb_88 n5 H0 H1 := by
  unfold nb_88
  exact show hV H1 46 = hV H0 46 from f0.2.1.1.2
def g_88vw_9_2 : vG := ([(5000, [0, 1, 2, 3, 4, 5], [0, 1], 9)], (3000, [], [1], 164))
theorem c_88vw_9_2 {q0 : Nat} : vOkm T0 (eN e_88v L_88vw A_88v mu_88v n_88 B_88 (some q0)) 1 g_88vw_9_2 := vOk_inI fun ρ η f0 => q_88vw_3 (q0 := q0) (n0 := ρ 5) (n1 := ρ 4) (n2 := ρ 3) (n3 := ρ 2) (n4 := ρ 1) (n5 := ρ 0) (H0 := η 0) (H1 := η 1) f0
theorem q_88vw_4 {q0 : Nat} {n0 n1 n2 n3 n4 n5 n8 n9 n12 n16 : Int} {H0 H1 H2 H3 H4 H5 H6 : gH} (f0 : (hLe T0 H0 H1 ∧ hFr s_88v.2.2.2.2 H0 H1 ∧ hWt T0 H1) ∧ ((Ab_88v_9 n5 n4 n3 n2 n1 n0 H0 H1 ∧ Bb_88_9 n5 n4 n3 n2 n1 n0 H0 H1) ∧ preb_88v n5 H0) ∧ some q0 = some (mub_88v_9 n5 n4 n3 n2 n1 n0 H0 H1)) (f1 : (hLe T0 H1 H2 ∧ hFr s_89v.2.2.2.2 H1 H2 ∧ ((0 : Int) = 0 → H2.length = H1.length) ∧ hWt T0 H2) ∧ postb_89v n8 n4 H1 H2) (f2 : (hLe T0 H2 H3 ∧ hFr s_92v.2.2.2.2 H2 H3 ∧ ((0 : Int) = 0 → H3.length = H2.length) ∧ hWt T0 H3) ∧ (postb_92v n4 H2 H3 ∧ nb_92 n4 H2 H3)) (f3 : (hLe T0 H3 H4 ∧ hFr s_90v.2.2.2.2 H3 H4 ∧ ((0 : Int) = 0 → H4.length = H3.length) ∧ hWt T0 H4) ∧ postb_90v n9 n4 H3 H4) (f4 : (hLe T0 H4 H5 ∧ hFr s_92v.2.2.2.2 H4 H5 ∧ ((0 : Int) = 0 → H5.length = H4.length) ∧ hWt T0 H5) ∧ (postb_92v n4 H4 H5 ∧ nb_92 n4 H4 H5)) (f5 : (hLe T0 H5 H6 ∧ hFr s_91.2.2.2.2 H5 H6 ∧ ((0 : Int) = 0 → H6.length = H5.length) ∧ hWt T0 H6) ∧ True) : Bb_88_122 n5 n4 n16 n12 n1 n0 n8 n9 H0 H6 := by
  unfold Bb_88_122
  exact (fRow f5.1.2.1 46 (by decide +kernel)).trans ((show hV H5 46 = hV H4 46 from f4.2.2).trans ((fRow f3.1.2.1 46 (by decide +kernel)).trans ((show hV H3 46 = hV H2 46 from f2.2.2).trans ((fRow f1.1.2.1 46 (by decide +kernel)).trans (show hV H1 46 = hV H0 46 from f0.2.1.1.2)))))
def g_88vw_9_3 : vG := ([(1091, [1, 9, 8], [5, 6], 0), (1092, [1], [4, 5], 0), (1090, [9, 1], [3, 4], 0), (1092, [1], [2, 3], 0), (1089, [8, 1], [1, 2], 0), (5000, [0, 1, 2, 3, 4, 5], [0, 1], 9)], (4000, [1, 16, 12, 4, 5, 8, 9], [6], 122))
theorem c_88vw_9_3 {q0 : Nat} : vOkm T0 (eN e_88v L_88vw A_88v mu_88v n_88 B_88 (some q0)) 1 g_88vw_9_3 := vOk_inI fun ρ η f0 f1 f2 f3 f4 f5 => q_88vw_4 (q0 := q0) (n0 := ρ 5) (n1 := ρ 4) (n2 := ρ 3) (n3 := ρ 2) (n4 := ρ 1) (n5 := ρ 0) (n8 := ρ 8) (n9 := ρ 9) (n12 := ρ 12) (n16 := ρ 16) (H0 := η 0) (H1 := η 1) (H2 := η 2) (H3 := η 3) (H4 := η 4) (H5 := η 5) (H6 := η 6) f5 f4 f3 f2 f1 f0
theorem q_88vw_5 {q0 : Nat} {n0 n1 n2 n3 n4 n5 n8 n9 n12 n16 : Int} {H0 H1 H2 H3 H4 H5 H6 : gH} (f0 : (hLe T0 H0 H1 ∧ hFr s_88v.2.2.2.2 H0 H1 ∧ hWt T0 H1) ∧ ((Ab_88v_9 n5 n4 n3 n2 n1 n0 H0 H1 ∧ Bb_88_9 n5 n4 n3 n2 n1 n0 H0 H1) ∧ preb_88v n5 H0) ∧ some q0 = some (mub_88v_9 n5 n4 n3 n2 n1 n0 H0 H1)) (f1 : (hLe T0 H1 H2 ∧ hFr s_89v.2.2.2.2 H1 H2 ∧ ((0 : Int) = 0 → H2.length = H1.length) ∧ hWt T0 H2) ∧ postb_89v n8 n4 H1 H2) (f2 : (hLe T0 H2 H3 ∧ hFr s_92v.2.2.2.2 H2 H3 ∧ ((0 : Int) = 0 → H3.length = H2.length) ∧ hWt T0 H3) ∧ (postb_92v n4 H2 H3 ∧ nb_92 n4 H2 H3)) (f3 : (hLe T0 H3 H4 ∧ hFr s_90v.2.2.2.2 H3 H4 ∧ ((0 : Int) = 0 → H4.length = H3.length) ∧ hWt T0 H4) ∧ postb_90v n9 n4 H3 H4) (f4 : (hLe T0 H4 H5 ∧ hFr s_92v.2.2.2.2 H4 H5 ∧ ((0 : Int) = 0 → H5.length = H4.length) ∧ hWt T0 H5) ∧ (postb_92v n4 H4 H5 ∧ nb_92 n4 H4 H5)) (f5 : (hLe T0 H5 H6 ∧ hFr s_91.2.2.2.2 H5 H6 ∧ ((0 : Int) = 0 → H6.length = H5.length) ∧ hWt T0 H6) ∧ True) : Bb_88_122 n5 n4 n16 n12 n1 n0 n8 n9 H0 H6 := by
  unfold Bb_88_122
  exact (fRow f5.1.2.1 46 (by decide +kernel)).trans ((show hV H5 46 = hV H4 46 from f4.2.2).trans ((fRow f3.1.2.1 46 (by decide +kernel)).trans ((show hV H3 46 = hV H2 46 from f2.2.2).trans ((fRow f1.1.2.1 46 (by decide +kernel)).trans (show hV H1 46 = hV H0 46 from f0.2.1.1.2)))))
def g_88vw_9_4 : vG := ([(1091, [1, 9, 8], [5, 6], 0), (1092, [1], [4, 5], 0), (1090, [9, 1], [3, 4], 0), (1092, [1], [2, 3], 0), (1089, [8, 1], [1, 2], 0), (5000, [0, 1, 2, 3, 4, 5], [0, 1], 9)], (4000, [1, 16, 12, 4, 5, 8, 9], [6], 122))
theorem c_88vw_9_4 {q0 : Nat} : vOkm T0 (eN e_88v L_88vw A_88v mu_88v n_88 B_88 (some q0)) 1 g_88vw_9_4 := vOk_inI fun ρ η f0 f1 f2 f3 f4 f5 => q_88vw_5 (q0 := q0) (n0 := ρ 5) (n1 := ρ 4) (n2 := ρ 3) (n3 := ρ 2) (n4 := ρ 1) (n5 := ρ 0) (n8 := ρ 8) (n9 := ρ 9) (n12 := ρ 12) (n16 := ρ 16) (H0 := η 0) (H1 := η 1) (H2 := η 2) (H3 := η 3) (H4 := η 4) (H5 := η 5) (H6 := η 6) f5 f4 f3 f2 f1 f0
theorem q_88vw_6 {q0 : Nat} {n0 n1 n2 n3 n4 n5 n8 n9 n12 n16 : Int} {H0 H1 H2 H3 H4 H5 H6 : gH} (f0 : (hLe T0 H0 H1 ∧ hFr s_88v.2.2.2.2 H0 H1 ∧ hWt T0 H1) ∧ ((Ab_88v_9 n5 n4 n3 n2 n1 n0 H0 H1 ∧ Bb_88_9 n5 n4 n3 n2 n1 n0 H0 H1) ∧ preb_88v n5 H0) ∧ some q0 = some (mub_88v_9 n5 n4 n3 n2 n1 n0 H0 H1)) (f1 : (hLe T0 H1 H2 ∧ hFr s_89v.2.2.2.2 H1 H2 ∧ ((0 : Int) = 0 → H2.length = H1.length) ∧ hWt T0 H2) ∧ postb_89v n8 n4 H1 H2) (f2 : (hLe T0 H2 H3 ∧ hFr s_92v.2.2.2.2 H2 H3 ∧ ((0 : Int) = 0 → H3.length = H2.length) ∧ hWt T0 H3) ∧ (postb_92v n4 H2 H3 ∧ nb_92 n4 H2 H3)) (f3 : (hLe T0 H3 H4 ∧ hFr s_90v.2.2.2.2 H3 H4 ∧ ((0 : Int) = 0 → H4.length = H3.length) ∧ hWt T0 H4) ∧ postb_90v n9 n4 H3 H4) (f4 : (hLe T0 H4 H5 ∧ hFr s_92v.2.2.2.2 H4 H5 ∧ ((0 : Int) = 0 → H5.length = H4.length) ∧ hWt T0 H5) ∧ (postb_92v n4 H4 H5 ∧ nb_92 n4 H4 H5)) (f5 : (hLe T0 H5 H6 ∧ hFr s_91.2.2.2.2 H5 H6 ∧ ((0 : Int) = 0 → H6.length = H5.length) ∧ hWt T0 H6) ∧ True) : Bb_88_122 n5 n4 n16 n12 n1 n0 n8 n9 H0 H6 := by
  unfold Bb_88_122
  exact (fRow f5.1.2.1 46 (by decide +kernel)).trans ((show hV H5 46 = hV H4 46 from f4.2.2).trans ((fRow f3.1.2.1 46 (by decide +kernel)).trans ((show hV H3 46 = hV H2 46 from f2.2.2).trans ((fRow f1.1.2.1 46 (by decide +kernel)).trans (show hV H1 46 = hV H0 46 from f0.2.1.1.2)))))
def g_88vw_9_5 : vG := ([(1091, [1, 9, 8], [5, 6], 0), (1092, [1], [4, 5], 0), (1090, [9, 1], [3, 4], 0), (1092, [1], [2, 3], 0), (1089, [8, 1], [1, 2], 0), (5000, [0, 1, 2, 3, 4, 5], [0, 1], 9)], (4000, [1, 16, 12, 4, 5, 8, 9], [6], 122))
theorem c_88vw_9_5 {q0 : Nat} : vOkm T0 (eN e_88v L_88vw A_88v mu_88v n_88 B_88 (some q0)) 1 g_88vw_9_5 := vOk_inI fun ρ η f0 f1 f2 f3 f4 f5 => q_88vw_6 (q0 := q0) (n0 := ρ 5) (n1 := ρ 4) (n2 := ρ 3) (n3 := ρ 2) (n4 := ρ 1) (n5 := ρ 0) (n8 := ρ 8) (n9 := ρ 9) (n12 := ρ 12) (n16 := ρ 16) (H0 := η 0) (H1 := η 1) (H2 := η 2) (H3 := η 3) (H4 := η 4) (H5 := η 5) (H6 := η 6) f5 f4 f3 f2 f1 f0
theorem q_88vw_7 {q0 : Nat} {n0 n1 n2 n3 n4 n5 n8 n9 n12 n16 : Int} {H0 H1 H2 H3 H4 H5 H6 : gH} (f0 : (hLe T0 H0 H1 ∧ hFr s_88v.2.2.2.2 H0 H1 ∧ hWt T0 H1) ∧ ((Ab_88v_9 n5 n4 n3 n2 n1 n0 H0 H1 ∧ Bb_88_9 n5 n4 n3 n2 n1 n0 H0 H1) ∧ preb_88v n5 H0) ∧ some q0 = some (mub_88v_9 n5 n4 n3 n2 n1 n0 H0 H1)) (f1 : (hLe T0 H1 H2 ∧ hFr s_89v.2.2.2.2 H1 H2 ∧ ((0 : Int) = 0 → H2.length = H1.length) ∧ hWt T0 H2) ∧ postb_89v n8 n4 H1 H2) (f2 : (hLe T0 H2 H3 ∧ hFr s_92v.2.2.2.2 H2 H3 ∧ ((0 : Int) = 0 → H3.length = H2.length) ∧ hWt T0 H3) ∧ (postb_92v n4 H2 H3 ∧ nb_92 n4 H2 H3)) (f3 : (hLe T0 H3 H4 ∧ hFr s_90v.2.2.2.2 H3 H4 ∧ ((0 : Int) = 0 → H4.length = H3.length) ∧ hWt T0 H4) ∧ postb_90v n9 n4 H3 H4) (f4 : (hLe T0 H4 H5 ∧ hFr s_92v.2.2.2.2 H4 H5 ∧ ((0 : Int) = 0 → H5.length = H4.length) ∧ hWt T0 H5) ∧ (postb_92v n4 H4 H5 ∧ nb_92 n4 H4 H5)) (f5 : (hLe T0 H5 H6 ∧ hFr s_91.2.2.2.2 H5 H6 ∧ ((0 : Int) = 0 → H6.length = H5.length) ∧ hWt T0 H6) ∧ True) : Bb_88_122 n5 n4 n16 n12 n1 n0 n8 n9 H0 H6 := by
  unfold Bb_88_122
  exact (fRow f5.1.2.1 46 (by decide +kernel)).trans ((show hV H5 46 = hV H4 46 from f4.2.2).trans ((fRow f3.1.2.1 46 (by decide +kernel)).trans ((show hV H3 46 = hV H2 46 from f2.2.2).trans ((fRow f1.1.2.1 46 (by decide +kernel)).trans (show hV H1 46 = hV H0 46 from f0.2.1.1.2)))))
def g_88vw_9_6 : vG := ([(1091, [1, 9, 8], [5, 6], 0), (1092, [1], [4, 5], 0), (1090, [9, 1], [3, 4], 0), (1092, [1], [2, 3], 0), (1089, [8, 1], [1, 2], 0), (5000, [0, 1, 2, 3, 4, 5], [0, 1], 9)], (4000, [1, 16, 12, 4, 5, 8, 9], [6], 122))
theorem c_88vw_9_6 {q0 : Nat} : vOkm T0 (eN e_88v L_88vw A_88v mu_88v n_88 B_88 (some q0)) 1 g_88vw_9_6 := vOk_inI fun ρ η f0 f1 f2 f3 f4 f5 => q_88vw_7 (q0 := q0) (n0 := ρ 5) (n1 := ρ 4) (n2 := ρ 3) (n3 := ρ 2) (n4 := ρ 1) (n5 := ρ 0) (n8 := ρ 8) (n9 := ρ 9) (n12 := ρ 12) (n16 := ρ 16) (H0 := η 0) (H1 := η 1) (H2 := η 2) (H3 := η 3) (H4 := η 4) (H5 := η 5) (H6 := η 6) f5 f4 f3 f2 f1 f0
theorem q_88vw_8 {q0 : Nat} {n0 n1 n2 n3 n4 n5 n8 n9 n12 n19 : Int} {H0 H1 H2 H3 H4 H5 H6 H7 : gH} (f0 : (hLe T0 H0 H1 ∧ hFr s_88v.2.2.2.2 H0 H1 ∧ hWt T0 H1) ∧ ((Ab_88v_9 n5 n4 n3 n2 n1 n0 H0 H1 ∧ Bb_88_9 n5 n4 n3 n2 n1 n0 H0 H1) ∧ preb_88v n5 H0) ∧ some q0 = some (mub_88v_9 n5 n4 n3 n2 n1 n0 H0 H1)) (f1 : (hLe T0 H1 H2 ∧ hFr s_89v.2.2.2.2 H1 H2 ∧ ((0 : Int) = 0 → H2.length = H1.length) ∧ hWt T0 H2) ∧ postb_89v n8 n4 H1 H2) (f2 : (hLe T0 H2 H3 ∧ hFr s_92v.2.2.2.2 H2 H3 ∧ ((0 : Int) = 0 → H3.length = H2.length) ∧ hWt T0 H3) ∧ (postb_92v n4 H2 H3 ∧ nb_92 n4 H2 H3)) (f3 : (hLe T0 H3 H4 ∧ hFr s_90v.2.2.2.2 H3 H4 ∧ ((0 : Int) = 0 → H4.length = H3.length) ∧ hWt T0 H4) ∧ postb_90v n9 n4 H3 H4) (f4 : (hLe T0 H4 H5 ∧ hFr s_92v.2.2.2.2 H4 H5 ∧ ((0 : Int) = 0 → H5.length = H4.length) ∧ hWt T0 H5) ∧ (postb_92v n4 H4 H5 ∧ nb_92 n4 H4 H5)) (f5 : (hLe T0 H5 H6 ∧ hFr s_91.2.2.2.2 H5 H6 ∧ ((0 : Int) = 0 → H6.length = H5.length) ∧ hWt T0 H6) ∧ True) (f6 : (hLe T0 H6 H7 ∧ hFr s_98.2.2.2.2 H6 H7 ∧ ((0 : Int) = 0 → H7.length = H6.length) ∧ hWt T0 H7) ∧ True) : Bb_88_122 n5 n4 n19 n12 n1 n0 n8 n9 H0 H7 := by
  unfold Bb_88_122
  exact (fRow f6.1.2.1 46 (by decide +kernel)).trans ((fRow f5.1.2.1 46 (by decide +kernel)).trans ((show hV H5 46 = hV H4 46 from f4.2.2).trans ((fRow f3.1.2.1 46 (by decide +kernel)).trans ((show hV H3 46 = hV H2 46 from f2.2.2).trans ((fRow f1.1.2.1 46 (by decide +kernel)).trans (show hV H1 46 = hV H0 46 from f0.2.1.1.2))))))
def g_88vw_9_7 : vG := ([(1098, [13, 14], [6, 7], 0), (1091, [1, 9, 8], [5, 6], 0), (1092, [1], [4, 5], 0), (1090, [9, 1], [3, 4], 0), (1092, [1], [2, 3], 0), (1089, [8, 1], [1, 2], 0), (5000, [0, 1, 2, 3, 4, 5], [0, 1], 9)], (4000, [1, 19, 12, 4, 5, 8, 9], [7], 122))
theorem c_88vw_9_7 {q0 : Nat} : vOkm T0 (eN e_88v L_88vw A_88v mu_88v n_88 B_88 (some q0)) 1 g_88vw_9_7 := vOk_inI fun ρ η f0 f1 f2 f3 f4 f5 f6 => q_88vw_8 (q0 := q0) (n0 := ρ 5) (n1 := ρ 4) (n2 := ρ 3) (n3 := ρ 2) (n4 := ρ 1) (n5 := ρ 0) (n8 := ρ 8) (n9 := ρ 9) (n12 := ρ 12) (n19 := ρ 19) (H0 := η 0) (H1 := η 1) (H2 := η 2) (H3 := η 3) (H4 := η 4) (H5 := η 5) (H6 := η 6) (H7 := η 7) f6 f5 f4 f3 f2 f1 f0
theorem q_88vw_9 {q0 : Nat} {n0 n1 n2 n3 n4 n5 n8 n9 n12 n19 : Int} {H0 H1 H2 H3 H4 H5 H6 H7 : gH} (f0 : (hLe T0 H0 H1 ∧ hFr s_88v.2.2.2.2 H0 H1 ∧ hWt T0 H1) ∧ ((Ab_88v_9 n5 n4 n3 n2 n1 n0 H0 H1 ∧ Bb_88_9 n5 n4 n3 n2 n1 n0 H0 H1) ∧ preb_88v n5 H0) ∧ some q0 = some (mub_88v_9 n5 n4 n3 n2 n1 n0 H0 H1)) (f1 : (hLe T0 H1 H2 ∧ hFr s_89v.2.2.2.2 H1 H2 ∧ ((0 : Int) = 0 → H2.length = H1.length) ∧ hWt T0 H2) ∧ postb_89v n8 n4 H1 H2) (f2 : (hLe T0 H2 H3 ∧ hFr s_92v.2.2.2.2 H2 H3 ∧ ((0 : Int) = 0 → H3.length = H2.length) ∧ hWt T0 H3) ∧ (postb_92v n4 H2 H3 ∧ nb_92 n4 H2 H3)) (f3 : (hLe T0 H3 H4 ∧ hFr s_90v.2.2.2.2 H3 H4 ∧ ((0 : Int) = 0 → H4.length = H3.length) ∧ hWt T0 H4) ∧ postb_90v n9 n4 H3 H4) (f4 : (hLe T0 H4 H5 ∧ hFr s_92v.2.2.2.2 H4 H5 ∧ ((0 : Int) = 0 → H5.length = H4.length) ∧ hWt T0 H5) ∧ (postb_92v n4 H4 H5 ∧ nb_92 n4 H4 H5)) (f5 : (hLe T0 H5 H6 ∧ hFr s_91.2.2.2.2 H5 H6 ∧ ((0 : Int) = 0 → H6.length = H5.length) ∧ hWt T0 H6) ∧ True) (f6 : (hLe T0 H6 H7 ∧ hFr s_98.2.2.2.2 H6 H7 ∧ ((0 : Int) = 0 → H7.length = H6.length) ∧ hWt T0 H7) ∧ True) : Bb_88_122 n5 n4 n19 n12 n1 n0 n8 n9 H0 H7 := by
  unfold Bb_88_122
  exact (fRow f6.1.2.1 46 (by decide +kernel)).trans ((fRow f5.1.2.1 46 (by decide +kernel)).trans ((show hV H5 46 = hV H4 46 from f4.2.2).trans ((fRow f3.1.2.1 46 (by decide +kernel)).trans ((show hV H3 46 = hV H2 46 from f2.2.2).trans ((fRow f1.1.2.1 46 (by decide +kernel)).trans (show hV H1 46 = hV H0 46 from f0.2.1.1.2))))))
def g_88vw_9_8 : vG := ([(1098, [13, 14], [6, 7], 0), (1091, [1, 9, 8], [5, 6], 0), (1092, [1], [4, 5], 0), (1090, [9, 1], [3, 4], 0), (1092, [1], [2, 3], 0), (1089, [8, 1], [1, 2], 0), (5000, [0, 1, 2, 3, 4, 5], [0, 1], 9)], (4000, [1, 19, 12, 4, 5, 8, 9], [7], 122))
theorem c_88vw_9_8 {q0 : Nat} : vOkm T0 (eN e_88v L_88vw A_88v mu_88v n_88 B_88 (some q0)) 1 g_88vw_9_8 := vOk_inI fun ρ η f0 f1 f2 f3 f4 f5 f6 => q_88vw_9 (q0 := q0) (n0 := ρ 5) (n1 := ρ 4) (n2 := ρ 3) (n3 := ρ 2) (n4 := ρ 1) (n5 := ρ 0) (n8 := ρ 8) (n9 := ρ 9) (n12 := ρ 12) (n19 := ρ 19) (H0 := η 0) (H1 := η 1) (H2 := η 2) (H3 := η 3) (H4 := η 4) (H5 := η 5) (H6 := η 6) (H7 := η 7) f6 f5 f4 f3 f2 f1 f0
theorem q_88vw_10 {q0 : Nat} {n0 n1 n2 n3 n4 n5 n8 n9 n12 n16 : Int} {H0 H1 H2 H3 H4 H5 H6 : gH} (f0 : (hLe T0 H0 H1 ∧ hFr s_88v.2.2.2.2 H0 H1 ∧ hWt T0 H1) ∧ ((Ab_88v_9 n5 n4 n3 n2 n1 n0 H0 H1 ∧ Bb_88_9 n5 n4 n3 n2 n1 n0 H0 H1) ∧ preb_88v n5 H0) ∧ some q0 = some (mub_88v_9 n5 n4 n3 n2 n1 n0 H0 H1)) (f1 : (hLe T0 H1 H2 ∧ hFr s_89v.2.2.2.2 H1 H2 ∧ ((0 : Int) = 0 → H2.length = H1.length) ∧ hWt T0 H2) ∧ postb_89v n8 n4 H1 H2) (f2 : (hLe T0 H2 H3 ∧ hFr s_92v.2.2.2.2 H2 H3 ∧ ((0 : Int) = 0 → H3.length = H2.length) ∧ hWt T0 H3) ∧ (postb_92v n4 H2 H3 ∧ nb_92 n4 H2 H3)) (f3 : (hLe T0 H3 H4 ∧ hFr s_90v.2.2.2.2 H3 H4 ∧ ((0 : Int) = 0 → H4.length = H3.length) ∧ hWt T0 H4) ∧ postb_90v n9 n4 H3 H4) (f4 : (hLe T0 H4 H5 ∧ hFr s_92v.2.2.2.2 H4 H5 ∧ ((0 : Int) = 0 → H5.length = H4.length) ∧ hWt T0 H5) ∧ (postb_92v n4 H4 H5 ∧ nb_92 n4 H4 H5)) (f5 : (hLe T0 H5 H6 ∧ hFr s_91.2.2.2.2 H5 H6 ∧ ((0 : Int) = 0 → H6.length = H5.length) ∧ hWt T0 H6) ∧ True) : Bb_88_122 n5 n4 n16 n12 n1 n0 n8 n9 H0 H6 := by
  unfold Bb_88_122
  exact (fRow f5.1.2.1 46 (by decide +kernel)).trans ((show hV H5 46 = hV H4 46 from f4.2.2).trans ((fRow f3.1.2.1 46 (by decide +kernel)).trans ((show hV H3 46 = hV H2 46 from f2.2.2).trans ((fRow f1.1.2.1 46 (by decide +kernel)).trans (show hV H1 46 = hV H0 46 from f0.2.1.1.2)))))
def g_88vw_9_9 : vG := ([(1091, [1, 9, 8], [5, 6], 0), (1092, [1], [4, 5], 0), (1090, [9, 1], [3, 4], 0), (1092, [1], [2, 3], 0), (1089, [8, 1], [1, 2], 0), (5000, [0, 1, 2, 3, 4, 5], [0, 1], 9)], (4000, [1, 16, 12, 4, 5, 8, 9], [6], 122))
theorem c_88vw_9_9 {q0 : Nat} : vOkm T0 (eN e_88v L_88vw A_88v mu_88v n_88 B_88 (some q0)) 1 g_88vw_9_9 := vOk_inI fun ρ η f0 f1 f2 f3 f4 f5 => q_88vw_10 (q0 := q0) (n0 := ρ 5) (n1 := ρ 4) (n2 := ρ 3) (n3 := ρ 2) (n4 := ρ 1) (n5 := ρ 0) (n8 := ρ 8) (n9 := ρ 9) (n12 := ρ 12) (n16 := ρ 16) (H0 := η 0) (H1 := η 1) (H2 := η 2) (H3 := η 3) (H4 := η 4) (H5 := η 5) (H6 := η 6) f5 f4 f3 f2 f1 f0
theorem q_88vw_11 {q0 : Nat} {n0 n1 n2 n3 n4 n5 n8 n9 n12 n16 : Int} {H0 H1 H2 H3 H4 H5 H6 : gH} (f0 : (hLe T0 H0 H1 ∧ hFr s_88v.2.2.2.2 H0 H1 ∧ hWt T0 H1) ∧ ((Ab_88v_9 n5 n4 n3 n2 n1 n0 H0 H1 ∧ Bb_88_9 n5 n4 n3 n2 n1 n0 H0 H1) ∧ preb_88v n5 H0) ∧ some q0 = some (mub_88v_9 n5 n4 n3 n2 n1 n0 H0 H1)) (f1 : (hLe T0 H1 H2 ∧ hFr s_89v.2.2.2.2 H1 H2 ∧ ((0 : Int) = 0 → H2.length = H1.length) ∧ hWt T0 H2) ∧ postb_89v n8 n4 H1 H2) (f2 : (hLe T0 H2 H3 ∧ hFr s_92v.2.2.2.2 H2 H3 ∧ ((0 : Int) = 0 → H3.length = H2.length) ∧ hWt T0 H3) ∧ (postb_92v n4 H2 H3 ∧ nb_92 n4 H2 H3)) (f3 : (hLe T0 H3 H4 ∧ hFr s_90v.2.2.2.2 H3 H4 ∧ ((0 : Int) = 0 → H4.length = H3.length) ∧ hWt T0 H4) ∧ postb_90v n9 n4 H3 H4) (f4 : (hLe T0 H4 H5 ∧ hFr s_92v.2.2.2.2 H4 H5 ∧ ((0 : Int) = 0 → H5.length = H4.length) ∧ hWt T0 H5) ∧ (postb_92v n4 H4 H5 ∧ nb_92 n4 H4 H5)) (f5 : (hLe T0 H5 H6 ∧ hFr s_91.2.2.2.2 H5 H6 ∧ ((0 : Int) = 0 → H6.length = H5.length) ∧ hWt T0 H6) ∧ True) : Bb_88_122 n5 n4 n16 n12 n1 n0 n8 n9 H0 H6 := by
  unfold Bb_88_122
  exact (fRow f5.1.2.1 46 (by decide +kernel)).trans ((show hV H5 46 = hV H4 46 from f4.2.2).trans ((fRow f3.1.2.1 46 (by decide +kernel)).trans ((show hV H3 46 = hV H2 46 from f2.2.2).trans ((fRow f1.1.2.1 46 (by decide +kernel)).trans (show hV H1 46 = hV H0 46 from f0.2.1.1.2)))))
def g_88vw_9_10 : vG := ([(1091, [1, 9, 8], [5, 6], 0), (1092, [1], [4, 5], 0), (1090, [9, 1], [3, 4], 0), (1092, [1], [2, 3], 0), (1089, [8, 1], [1, 2], 0), (5000, [0, 1, 2, 3, 4, 5], [0, 1], 9)], (4000, [1, 16, 12, 4, 5, 8, 9], [6], 122))
theorem c_88vw_9_10 {q0 : Nat} : vOkm T0 (eN e_88v L_88vw A_88v mu_88v n_88 B_88 (some q0)) 1 g_88vw_9_10 := vOk_inI fun ρ η f0 f1 f2 f3 f4 f5 => q_88vw_11 (q0 := q0) (n0 := ρ 5) (n1 := ρ 4) (n2 := ρ 3) (n3 := ρ 2) (n4 := ρ 1) (n5 := ρ 0) (n8 := ρ 8) (n9 := ρ 9) (n12 := ρ 12) (n16 := ρ 16) (H0 := η 0) (H1 := η 1) (H2 := η 2) (H3 := η 3) (H4 := η 4) (H5 := η 5) (H6 := η 6) f5 f4 f3 f2 f1 f0
theorem q_88vw_12 {q0 : Nat} {n0 n1 n2 n3 n4 n5 n8 n9 n12 n16 : Int} {H0 H1 H2 H3 H4 H5 H6 : gH} (f0 : (hLe T0 H0 H1 ∧ hFr s_88v.2.2.2.2 H0 H1 ∧ hWt T0 H1) ∧ ((Ab_88v_9 n5 n4 n3 n2 n1 n0 H0 H1 ∧ Bb_88_9 n5 n4 n3 n2 n1 n0 H0 H1) ∧ preb_88v n5 H0) ∧ some q0 = some (mub_88v_9 n5 n4 n3 n2 n1 n0 H0 H1)) (f1 : (hLe T0 H1 H2 ∧ hFr s_89v.2.2.2.2 H1 H2 ∧ ((0 : Int) = 0 → H2.length = H1.length) ∧ hWt T0 H2) ∧ postb_89v n8 n4 H1 H2) (f2 : (hLe T0 H2 H3 ∧ hFr s_92v.2.2.2.2 H2 H3 ∧ ((0 : Int) = 0 → H3.length = H2.length) ∧ hWt T0 H3) ∧ (postb_92v n4 H2 H3 ∧ nb_92 n4 H2 H3)) (f3 : (hLe T0 H3 H4 ∧ hFr s_90v.2.2.2.2 H3 H4 ∧ ((0 : Int) = 0 → H4.length = H3.length) ∧ hWt T0 H4) ∧ postb_90v n9 n4 H3 H4) (f4 : (hLe T0 H4 H5 ∧ hFr s_92v.2.2.2.2 H4 H5 ∧ ((0 : Int) = 0 → H5.length = H4.length) ∧ hWt T0 H5) ∧ (postb_92v n4 H4 H5 ∧ nb_92 n4 H4 H5)) (f5 : (hLe T0 H5 H6 ∧ hFr s_91.2.2.2.2 H5 H6 ∧ ((0 : Int) = 0 → H6.length = H5.length) ∧ hWt T0 H6) ∧ True) : Bb_88_122 n5 n4 n16 n12 n1 n0 n8 n9 H0 H6 := by
  unfold Bb_88_122
  exact (fRow f5.1.2.1 46 (by decide +kernel)).trans ((show hV H5 46 = hV H4 46 from f4.2.2).trans ((fRow f3.1.2.1 46 (by decide +kernel)).trans ((show hV H3 46 = hV H2 46 from f2.2.2).trans ((fRow f1.1.2.1 46 (by decide +kernel)).trans (show hV H1 46 = hV H0 46 from f0.2.1.1.2)))))
def g_88vw_9_11 : vG := ([(1091, [1, 9, 8], [5, 6], 0), (1092, [1], [4, 5], 0), (1090, [9, 1], [3, 4], 0), (1092, [1], [2, 3], 0), (1089, [8, 1], [1, 2], 0), (5000, [0, 1, 2, 3, 4, 5], [0, 1], 9)], (4000, [1, 16, 12, 4, 5, 8, 9], [6], 122))
theorem c_88vw_9_11 {q0 : Nat} : vOkm T0 (eN e_88v L_88vw A_88v mu_88v n_88 B_88 (some q0)) 1 g_88vw_9_11 := vOk_inI fun ρ η f0 f1 f2 f3 f4 f5 => q_88vw_12 (q0 := q0) (n0 := ρ 5) (n1 := ρ 4) (n2 := ρ 3) (n3 := ρ 2) (n4 := ρ 1) (n5 := ρ 0) (n8 := ρ 8) (n9 := ρ 9) (n12 := ρ 12) (n16 := ρ 16) (H0 := η 0) (H1 := η 1) (H2 := η 2) (H3 := η 3) (H4 := η 4) (H5 := η 5) (H6 := η 6) f5 f4 f3 f2 f1 f0
theorem q_88vw_13 {q0 : Nat} {n0 n1 n2 n3 n4 n5 n8 n9 n12 n16 : Int} {H0 H1 H2 H3 H4 H5 H6 : gH} (f0 : (hLe T0 H0 H1 ∧ hFr s_88v.2.2.2.2 H0 H1 ∧ hWt T0 H1) ∧ ((Ab_88v_9 n5 n4 n3 n2 n1 n0 H0 H1 ∧ Bb_88_9 n5 n4 n3 n2 n1 n0 H0 H1) ∧ preb_88v n5 H0) ∧ some q0 = some (mub_88v_9 n5 n4 n3 n2 n1 n0 H0 H1)) (f1 : (hLe T0 H1 H2 ∧ hFr s_89v.2.2.2.2 H1 H2 ∧ ((0 : Int) = 0 → H2.length = H1.length) ∧ hWt T0 H2) ∧ postb_89v n8 n4 H1 H2) (f2 : (hLe T0 H2 H3 ∧ hFr s_92v.2.2.2.2 H2 H3 ∧ ((0 : Int) = 0 → H3.length = H2.length) ∧ hWt T0 H3) ∧ (postb_92v n4 H2 H3 ∧ nb_92 n4 H2 H3)) (f3 : (hLe T0 H3 H4 ∧ hFr s_90v.2.2.2.2 H3 H4 ∧ ((0 : Int) = 0 → H4.length = H3.length) ∧ hWt T0 H4) ∧ postb_90v n9 n4 H3 H4) (f4 : (hLe T0 H4 H5 ∧ hFr s_92v.2.2.2.2 H4 H5 ∧ ((0 : Int) = 0 → H5.length = H4.length) ∧ hWt T0 H5) ∧ (postb_92v n4 H4 H5 ∧ nb_92 n4 H4 H5)) (f5 : (hLe T0 H5 H6 ∧ hFr s_91.2.2.2.2 H5 H6 ∧ ((0 : Int) = 0 → H6.length = H5.length) ∧ hWt T0 H6) ∧ True) : Bb_88_122 n5 n4 n16 n12 n1 n0 n8 n9 H0 H6 := by
  unfold Bb_88_122
  exact (fRow f5.1.2.1 46 (by decide +kernel)).trans ((show hV H5 46 = hV H4 46 from f4.2.2).trans ((fRow f3.1.2.1 46 (by decide +kernel)).trans ((show hV H3 46 = hV H2 46 from f2.2.2).trans ((fRow f1.1.2.1 46 (by decide +kernel)).trans (show hV H1 46 = hV H0 46 from f0.2.1.1.2)))))
def g_88vw_9_12 : vG := ([(1091, [1, 9, 8], [5, 6], 0), (1092, [1], [4, 5], 0), (1090, [9, 1], [3, 4], 0), (1092, [1], [2, 3], 0), (1089, [8, 1], [1, 2], 0), (5000, [0, 1, 2, 3, 4, 5], [0, 1], 9)], (4000, [1, 16, 12, 4, 5, 8, 9], [6], 122))
theorem c_88vw_9_12 {q0 : Nat} : vOkm T0 (eN e_88v L_88vw A_88v mu_88v n_88 B_88 (some q0)) 1 g_88vw_9_12 := vOk_inI fun ρ η f0 f1 f2 f3 f4 f5 => q_88vw_13 (q0 := q0) (n0 := ρ 5) (n1 := ρ 4) (n2 := ρ 3) (n3 := ρ 2) (n4 := ρ 1) (n5 := ρ 0) (n8 := ρ 8) (n9 := ρ 9) (n12 := ρ 12) (n16 := ρ 16) (H0 := η 0) (H1 := η 1) (H2 := η 2) (H3 := η 3) (H4 := η 4) (H5 := η 5) (H6 := η 6) f5 f4 f3 f2 f1 f0
theorem q_88vw_14 {q0 : Nat} {n0 n1 n2 n3 n4 n5 n8 n9 n12 n19 : Int} {H0 H1 H2 H3 H4 H5 H6 H7 : gH} (f0 : (hLe T0 H0 H1 ∧ hFr s_88v.2.2.2.2 H0 H1 ∧ hWt T0 H1) ∧ ((Ab_88v_9 n5 n4 n3 n2 n1 n0 H0 H1 ∧ Bb_88_9 n5 n4 n3 n2 n1 n0 H0 H1) ∧ preb_88v n5 H0) ∧ some q0 = some (mub_88v_9 n5 n4 n3 n2 n1 n0 H0 H1)) (f1 : (hLe T0 H1 H2 ∧ hFr s_89v.2.2.2.2 H1 H2 ∧ ((0 : Int) = 0 → H2.length = H1.length) ∧ hWt T0 H2) ∧ postb_89v n8 n4 H1 H2) (f2 : (hLe T0 H2 H3 ∧ hFr s_92v.2.2.2.2 H2 H3 ∧ ((0 : Int) = 0 → H3.length = H2.length) ∧ hWt T0 H3) ∧ (postb_92v n4 H2 H3 ∧ nb_92 n4 H2 H3)) (f3 : (hLe T0 H3 H4 ∧ hFr s_90v.2.2.2.2 H3 H4 ∧ ((0 : Int) = 0 → H4.length = H3.length) ∧ hWt T0 H4) ∧ postb_90v n9 n4 H3 H4) (f4 : (hLe T0 H4 H5 ∧ hFr s_92v.2.2.2.2 H4 H5 ∧ ((0 : Int) = 0 → H5.length = H4.length) ∧ hWt T0 H5) ∧ (postb_92v n4 H4 H5 ∧ nb_92 n4 H4 H5)) (f5 : (hLe T0 H5 H6 ∧ hFr s_91.2.2.2.2 H5 H6 ∧ ((0 : Int) = 0 → H6.length = H5.length) ∧ hWt T0 H6) ∧ True) (f6 : (hLe T0 H6 H7 ∧ hFr s_98.2.2.2.2 H6 H7 ∧ ((0 : Int) = 0 → H7.length = H6.length) ∧ hWt T0 H7) ∧ True) : Bb_88_122 n5 n4 n19 n12 n1 n0 n8 n9 H0 H7 := by
  unfold Bb_88_122
  exact (fRow f6.1.2.1 46 (by decide +kernel)).trans ((fRow f5.1.2.1 46 (by decide +kernel)).trans ((show hV H5 46 = hV H4 46 from f4.2.2).trans ((fRow f3.1.2.1 46 (by decide +kernel)).trans ((show hV H3 46 = hV H2 46 from f2.2.2).trans ((fRow f1.1.2.1 46 (by decide +kernel)).trans (show hV H1 46 = hV H0 46 from f0.2.1.1.2))))))
def g_88vw_9_13 : vG := ([(1098, [13, 14], [6, 7], 0), (1091, [1, 9, 8], [5, 6], 0), (1092, [1], [4, 5], 0), (1090, [9, 1], [3, 4], 0), (1092, [1], [2, 3], 0), (1089, [8, 1], [1, 2], 0), (5000, [0, 1, 2, 3, 4, 5], [0, 1], 9)], (4000, [1, 19, 12, 4, 5, 8, 9], [7], 122))
theorem c_88vw_9_13 {q0 : Nat} : vOkm T0 (eN e_88v L_88vw A_88v mu_88v n_88 B_88 (some q0)) 1 g_88vw_9_13 := vOk_inI fun ρ η f0 f1 f2 f3 f4 f5 f6 => q_88vw_14 (q0 := q0) (n0 := ρ 5) (n1 := ρ 4) (n2 := ρ 3) (n3 := ρ 2) (n4 := ρ 1) (n5 := ρ 0) (n8 := ρ 8) (n9 := ρ 9) (n12 := ρ 12) (n19 := ρ 19) (H0 := η 0) (H1 := η 1) (H2 := η 2) (H3 := η 3) (H4 := η 4) (H5 := η 5) (H6 := η 6) (H7 := η 7) f6 f5 f4 f3 f2 f1 f0
theorem q_88vw_15 {q0 : Nat} {n0 n1 n2 n3 n4 n5 n8 n9 n12 n19 : Int} {H0 H1 H2 H3 H4 H5 H6 H7 : gH} (f0 : (hLe T0 H0 H1 ∧ hFr s_88v.2.2.2.2 H0 H1 ∧ hWt T0 H1) ∧ ((Ab_88v_9 n5 n4 n3 n2 n1 n0 H0 H1 ∧ Bb_88_9 n5 n4 n3 n2 n1 n0 H0 H1) ∧ preb_88v n5 H0) ∧ some q0 = some (mub_88v_9 n5 n4 n3 n2 n1 n0 H0 H1)) (f1 : (hLe T0 H1 H2 ∧ hFr s_89v.2.2.2.2 H1 H2 ∧ ((0 : Int) = 0 → H2.length = H1.length) ∧ hWt T0 H2) ∧ postb_89v n8 n4 H1 H2) (f2 : (hLe T0 H2 H3 ∧ hFr s_92v.2.2.2.2 H2 H3 ∧ ((0 : Int) = 0 → H3.length = H2.length) ∧ hWt T0 H3) ∧ (postb_92v n4 H2 H3 ∧ nb_92 n4 H2 H3)) (f3 : (hLe T0 H3 H4 ∧ hFr s_90v.2.2.2.2 H3 H4 ∧ ((0 : Int) = 0 → H4.length = H3.length) ∧ hWt T0 H4) ∧ postb_90v n9 n4 H3 H4) (f4 : (hLe T0 H4 H5 ∧ hFr s_92v.2.2.2.2 H4 H5 ∧ ((0 : Int) = 0 → H5.length = H4.length) ∧ hWt T0 H5) ∧ (postb_92v n4 H4 H5 ∧ nb_92 n4 H4 H5)) (f5 : (hLe T0 H5 H6 ∧ hFr s_91.2.2.2.2 H5 H6 ∧ ((0 : Int) = 0 → H6.length = H5.length) ∧ hWt T0 H6) ∧ True) (f6 : (hLe T0 H6 H7 ∧ hFr s_98.2.2.2.2 H6 H7 ∧ ((0 : Int) = 0 → H7.length = H6.length) ∧ hWt T0 H7) ∧ True) : Bb_88_122 n5 n4 n19 n12 n1 n0 n8 n9 H0 H7 := by
  unfold Bb_88_122
  exact (fRow f6.1.2.1 46 (by decide +kernel)).trans ((fRow f5.1.2.1 46 (by decide +kernel)).trans ((show hV H5 46 = hV H4 46 from f4.2.2).trans ((fRow f3.1.2.1 46 (by decide +kernel)).trans ((show hV H3 46 = hV H2 46 from f2.2.2).trans ((fRow f1.1.2.1 46 (by decide +kernel)).trans (show hV H1 46 = hV H0 46 from f0.2.1.1.2))))))
def g_88vw_9_14 : vG := ([(1098, [13, 14], [6, 7], 0), (1091, [1, 9, 8], [5, 6], 0), (1092, [1], [4, 5], 0), (1090, [9, 1], [3, 4], 0), (1092, [1], [2, 3], 0), (1089, [8, 1], [1, 2], 0), (5000, [0, 1, 2, 3, 4, 5], [0, 1], 9)], (4000, [1, 19, 12, 4, 5, 8, 9], [7], 122))
theorem c_88vw_9_14 {q0 : Nat} : vOkm T0 (eN e_88v L_88vw A_88v mu_88v n_88 B_88 (some q0)) 1 g_88vw_9_14 := vOk_inI fun ρ η f0 f1 f2 f3 f4 f5 f6 => q_88vw_15 (q0 := q0) (n0 := ρ 5) (n1 := ρ 4) (n2 := ρ 3) (n3 := ρ 2) (n4 := ρ 1) (n5 := ρ 0) (n8 := ρ 8) (n9 := ρ 9) (n12 := ρ 12) (n19 := ρ 19) (H0 := η 0) (H1 := η 1) (H2 := η 2) (H3 := η 3) (H4 := η 4) (H5 := η 5) (H6 := η 6) (H7 := η 7) f6 f5 f4 f3 f2 f1 f0
theorem q_88vw_16 {q0 : Nat} {n0 n1 n2 n3 n4 n5 n8 n9 n14 n18 : Int} {H0 H1 H2 H3 H4 H5 H6 H7 : gH} (f0 : (hLe T0 H0 H1 ∧ hFr s_88v.2.2.2.2 H0 H1 ∧ hWt T0 H1) ∧ ((Ab_88v_9 n5 n4 n3 n2 n1 n0 H0 H1 ∧ Bb_88_9 n5 n4 n3 n2 n1 n0 H0 H1) ∧ preb_88v n5 H0) ∧ some q0 = some (mub_88v_9 n5 n4 n3 n2 n1 n0 H0 H1)) (f1 : (hLe T0 H1 H2 ∧ hFr s_89v.2.2.2.2 H1 H2 ∧ ((0 : Int) = 0 → H2.length = H1.length) ∧ hWt T0 H2) ∧ postb_89v n8 n4 H1 H2) (f2 : (hLe T0 H2 H3 ∧ hFr s_92v.2.2.2.2 H2 H3 ∧ ((0 : Int) = 0 → H3.length = H2.length) ∧ hWt T0 H3) ∧ (postb_92v n4 H2 H3 ∧ nb_92 n4 H2 H3)) (f3 : (hLe T0 H3 H4 ∧ hFr s_90v.2.2.2.2 H3 H4 ∧ ((0 : Int) = 0 → H4.length = H3.length) ∧ hWt T0 H4) ∧ postb_90v n9 n4 H3 H4) (f4 : (hLe T0 H4 H5 ∧ hFr s_92v.2.2.2.2 H4 H5 ∧ ((0 : Int) = 0 → H5.length = H4.length) ∧ hWt T0 H5) ∧ (postb_92v n4 H4 H5 ∧ nb_92 n4 H4 H5)) (f5 : (hLe T0 H5 H6 ∧ hFr s_91.2.2.2.2 H5 H6 ∧ ((0 : Int) = 0 → H6.length = H5.length) ∧ hWt T0 H6) ∧ True) (f6 : (hLe T0 H6 H7 ∧ hFr s_98.2.2.2.2 H6 H7 ∧ ((0 : Int) = 0 → H7.length = H6.length) ∧ hWt T0 H7) ∧ True) : Bb_88_122 n5 n4 n18 n14 n1 n0 n8 n9 H0 H7 := by
  unfold Bb_88_122
  exact (fRow f6.1.2.1 46 (by decide +kernel)).trans ((fRow f5.1.2.1 46 (by decide +kernel)).trans ((show hV H5 46 = hV H4 46 from f4.2.2).trans ((fRow f3.1.2.1 46 (by decide +kernel)).trans ((show hV H3 46 = hV H2 46 from f2.2.2).trans ((fRow f1.1.2.1 46 (by decide +kernel)).trans (show hV H1 46 = hV H0 46 from f0.2.1.1.2))))))
def g_88vw_9_15 : vG := ([(1098, [10, 11], [6, 7], 0), (1091, [1, 9, 8], [5, 6], 0), (1092, [1], [4, 5], 0), (1090, [9, 1], [3, 4], 0), (1092, [1], [2, 3], 0), (1089, [8, 1], [1, 2], 0), (5000, [0, 1, 2, 3, 4, 5], [0, 1], 9)], (4000, [1, 18, 14, 4, 5, 8, 9], [7], 122))
theorem c_88vw_9_15 {q0 : Nat} : vOkm T0 (eN e_88v L_88vw A_88v mu_88v n_88 B_88 (some q0)) 1 g_88vw_9_15 := vOk_inI fun ρ η f0 f1 f2 f3 f4 f5 f6 => q_88vw_16 (q0 := q0) (n0 := ρ 5) (n1 := ρ 4) (n2 := ρ 3) (n3 := ρ 2) (n4 := ρ 1) (n5 := ρ 0) (n8 := ρ 8) (n9 := ρ 9) (n14 := ρ 14) (n18 := ρ 18) (H0 := η 0) (H1 := η 1) (H2 := η 2) (H3 := η 3) (H4 := η 4) (H5 := η 5) (H6 := η 6) (H7 := η 7) f6 f5 f4 f3 f2 f1 f0
theorem q_88vw_17 {q0 : Nat} {n0 n1 n2 n3 n4 n5 n8 n9 n14 n18 : Int} {H0 H1 H2 H3 H4 H5 H6 H7 : gH} (f0 : (hLe T0 H0 H1 ∧ hFr s_88v.2.2.2.2 H0 H1 ∧ hWt T0 H1) ∧ ((Ab_88v_9 n5 n4 n3 n2 n1 n0 H0 H1 ∧ Bb_88_9 n5 n4 n3 n2 n1 n0 H0 H1) ∧ preb_88v n5 H0) ∧ some q0 = some (mub_88v_9 n5 n4 n3 n2 n1 n0 H0 H1)) (f1 : (hLe T0 H1 H2 ∧ hFr s_89v.2.2.2.2 H1 H2 ∧ ((0 : Int) = 0 → H2.length = H1.length) ∧ hWt T0 H2) ∧ postb_89v n8 n4 H1 H2) (f2 : (hLe T0 H2 H3 ∧ hFr s_92v.2.2.2.2 H2 H3 ∧ ((0 : Int) = 0 → H3.length = H2.length) ∧ hWt T0 H3) ∧ (postb_92v n4 H2 H3 ∧ nb_92 n4 H2 H3)) (f3 : (hLe T0 H3 H4 ∧ hFr s_90v.2.2.2.2 H3 H4 ∧ ((0 : Int) = 0 → H4.length = H3.length) ∧ hWt T0 H4) ∧ postb_90v n9 n4 H3 H4) (f4 : (hLe T0 H4 H5 ∧ hFr s_92v.2.2.2.2 H4 H5 ∧ ((0 : Int) = 0 → H5.length = H4.length) ∧ hWt T0 H5) ∧ (postb_92v n4 H4 H5 ∧ nb_92 n4 H4 H5)) (f5 : (hLe T0 H5 H6 ∧ hFr s_91.2.2.2.2 H5 H6 ∧ ((0 : Int) = 0 → H6.length = H5.length) ∧ hWt T0 H6) ∧ True) (f6 : (hLe T0 H6 H7 ∧ hFr s_98.2.2.2.2 H6 H7 ∧ ((0 : Int) = 0 → H7.length = H6.length) ∧ hWt T0 H7) ∧ True) : Bb_88_122 n5 n4 n18 n14 n1 n0 n8 n9 H0 H7 := by
  unfold Bb_88_122
  exact (fRow f6.1.2.1 46 (by decide +kernel)).trans ((fRow f5.1.2.1 46 (by decide +kernel)).trans ((show hV H5 46 = hV H4 46 from f4.2.2).trans ((fRow f3.1.2.1 46 (by decide +kernel)).trans ((show hV H3 46 = hV H2 46 from f2.2.2).trans ((fRow f1.1.2.1 46 (by decide +kernel)).trans (show hV H1 46 = hV H0 46 from f0.2.1.1.2))))))
def g_88vw_9_16 : vG := ([(1098, [10, 11], [6, 7], 0), (1091, [1, 9, 8], [5, 6], 0), (1092, [1], [4, 5], 0), (1090, [9, 1], [3, 4], 0), (1092, [1], [2, 3], 0), (1089, [8, 1], [1, 2], 0), (5000, [0, 1, 2, 3, 4, 5], [0, 1], 9)], (4000, [1, 18, 14, 4, 5, 8, 9], [7], 122))
theorem c_88vw_9_16 {q0 : Nat} : vOkm T0 (eN e_88v L_88vw A_88v mu_88v n_88 B_88 (some q0)) 1 g_88vw_9_16 := vOk_inI fun ρ η f0 f1 f2 f3 f4 f5 f6 => q_88vw_17 (q0 := q0) (n0 := ρ 5) (n1 := ρ 4) (n2 := ρ 3) (n3 := ρ 2) (n4 := ρ 1) (n5 := ρ 0) (n8 := ρ 8) (n9 := ρ 9) (n14 := ρ 14) (n18 := ρ 18) (H0 := η 0) (H1 := η 1) (H2 := η 2) (H3 := η 3) (H4 := η 4) (H5 := η 5) (H6 := η 6) (H7 := η 7) f6 f5 f4 f3 f2 f1 f0
theorem q_88vw_18 {q0 : Nat} {n0 n1 n2 n3 n4 n5 n8 n9 n14 n18 : Int} {H0 H1 H2 H3 H4 H5 H6 H7 : gH} (f0 : (hLe T0 H0 H1 ∧ hFr s_88v.2.2.2.2 H0 H1 ∧ hWt T0 H1) ∧ ((Ab_88v_9 n5 n4 n3 n2 n1 n0 H0 H1 ∧ Bb_88_9 n5 n4 n3 n2 n1 n0 H0 H1) ∧ preb_88v n5 H0) ∧ some q0 = some (mub_88v_9 n5 n4 n3 n2 n1 n0 H0 H1)) (f1 : (hLe T0 H1 H2 ∧ hFr s_89v.2.2.2.2 H1 H2 ∧ ((0 : Int) = 0 → H2.length = H1.length) ∧ hWt T0 H2) ∧ postb_89v n8 n4 H1 H2) (f2 : (hLe T0 H2 H3 ∧ hFr s_92v.2.2.2.2 H2 H3 ∧ ((0 : Int) = 0 → H3.length = H2.length) ∧ hWt T0 H3) ∧ (postb_92v n4 H2 H3 ∧ nb_92 n4 H2 H3)) (f3 : (hLe T0 H3 H4 ∧ hFr s_90v.2.2.2.2 H3 H4 ∧ ((0 : Int) = 0 → H4.length = H3.length) ∧ hWt T0 H4) ∧ postb_90v n9 n4 H3 H4) (f4 : (hLe T0 H4 H5 ∧ hFr s_92v.2.2.2.2 H4 H5 ∧ ((0 : Int) = 0 → H5.length = H4.length) ∧ hWt T0 H5) ∧ (postb_92v n4 H4 H5 ∧ nb_92 n4 H4 H5)) (f5 : (hLe T0 H5 H6 ∧ hFr s_91.2.2.2.2 H5 H6 ∧ ((0 : Int) = 0 → H6.length = H5.length) ∧ hWt T0 H6) ∧ True) (f6 : (hLe T0 H6 H7 ∧ hFr s_98.2.2.2.2 H6 H7 ∧ ((0 : Int) = 0 → H7.length = H6.length) ∧ hWt T0 H7) ∧ True) : Bb_88_122 n5 n4 n18 n14 n1 n0 n8 n9 H0 H7 := by
  unfold Bb_88_122
  exact (fRow f6.1.2.1 46 (by decide +kernel)).trans ((fRow f5.1.2.1 46 (by decide +kernel)).trans ((show hV H5 46 = hV H4 46 from f4.2.2).trans ((fRow f3.1.2.1 46 (by decide +kernel)).trans ((show hV H3 46 = hV H2 46 from f2.2.2).trans ((fRow f1.1.2.1 46 (by decide +kernel)).trans (show hV H1 46 = hV H0 46 from f0.2.1.1.2))))))
def g_88vw_9_17 : vG := ([(1098, [10, 11], [6, 7], 0), (1091, [1, 9, 8], [5, 6], 0), (1092, [1], [4, 5], 0), (1090, [9, 1], [3, 4], 0), (1092, [1], [2, 3], 0), (1089, [8, 1], [1, 2], 0), (5000, [0, 1, 2, 3, 4, 5], [0, 1], 9)], (4000, [1, 18, 14, 4, 5, 8, 9], [7], 122))
theorem c_88vw_9_17 {q0 : Nat} : vOkm T0 (eN e_88v L_88vw A_88v mu_88v n_88 B_88 (some q0)) 1 g_88vw_9_17 := vOk_inI fun ρ η f0 f1 f2 f3 f4 f5 f6 => q_88vw_18 (q0 := q0) (n0 := ρ 5) (n1 := ρ 4) (n2 := ρ 3) (n3 := ρ 2) (n4 := ρ 1) (n5 := ρ 0) (n8 := ρ 8) (n9 := ρ 9) (n14 := ρ 14) (n18 := ρ 18) (H0 := η 0) (H1 := η 1) (H2 := η 2) (H3 := η 3) (H4 := η 4) (H5 := η 5) (H6 := η 6) (H7 := η 7) f6 f5 f4 f3 f2 f1 f0
theorem q_88vw_19 {q0 : Nat} {n0 n1 n2 n3 n4 n5 n8 n9 n14 n18 : Int} {H0 H1 H2 H3 H4 H5 H6 H7 : gH} (f0 : (hLe T0 H0 H1 ∧ hFr s_88v.2.2.2.2 H0 H1 ∧ hWt T0 H1) ∧ ((Ab_88v_9 n5 n4 n3 n2 n1 n0 H0 H1 ∧ Bb_88_9 n5 n4 n3 n2 n1 n0 H0 H1) ∧ preb_88v n5 H0) ∧ some q0 = some (mub_88v_9 n5 n4 n3 n2 n1 n0 H0 H1)) (f1 : (hLe T0 H1 H2 ∧ hFr s_89v.2.2.2.2 H1 H2 ∧ ((0 : Int) = 0 → H2.length = H1.length) ∧ hWt T0 H2) ∧ postb_89v n8 n4 H1 H2) (f2 : (hLe T0 H2 H3 ∧ hFr s_92v.2.2.2.2 H2 H3 ∧ ((0 : Int) = 0 → H3.length = H2.length) ∧ hWt T0 H3) ∧ (postb_92v n4 H2 H3 ∧ nb_92 n4 H2 H3)) (f3 : (hLe T0 H3 H4 ∧ hFr s_90v.2.2.2.2 H3 H4 ∧ ((0 : Int) = 0 → H4.length = H3.length) ∧ hWt T0 H4) ∧ postb_90v n9 n4 H3 H4) (f4 : (hLe T0 H4 H5 ∧ hFr s_92v.2.2.2.2 H4 H5 ∧ ((0 : Int) = 0 → H5.length = H4.length) ∧ hWt T0 H5) ∧ (postb_92v n4 H4 H5 ∧ nb_92 n4 H4 H5)) (f5 : (hLe T0 H5 H6 ∧ hFr s_91.2.2.2.2 H5 H6 ∧ ((0 : Int) = 0 → H6.length = H5.length) ∧ hWt T0 H6) ∧ True) (f6 : (hLe T0 H6 H7 ∧ hFr s_98.2.2.2.2 H6 H7 ∧ ((0 : Int) = 0 → H7.length = H6.length) ∧ hWt T0 H7) ∧ True) : Bb_88_122 n5 n4 n18 n14 n1 n0 n8 n9 H0 H7 := by
  unfold Bb_88_122
  exact (fRow f6.1.2.1 46 (by decide +kernel)).trans ((fRow f5.1.2.1 46 (by decide +kernel)).trans ((show hV H5 46 = hV H4 46 from f4.2.2).trans ((fRow f3.1.2.1 46 (by decide +kernel)).trans ((show hV H3 46 = hV H2 46 from f2.2.2).trans ((fRow f1.1.2.1 46 (by decide +kernel)).trans (show hV H1 46 = hV H0 46 from f0.2.1.1.2))))))
def g_88vw_9_18 : vG := ([(1098, [10, 11], [6, 7], 0), (1091, [1, 9, 8], [5, 6], 0), (1092, [1], [4, 5], 0), (1090, [9, 1], [3, 4], 0), (1092, [1], [2, 3], 0), (1089, [8, 1], [1, 2], 0), (5000, [0, 1, 2, 3, 4, 5], [0, 1], 9)], (4000, [1, 18, 14, 4, 5, 8, 9], [7], 122))
theorem c_88vw_9_18 {q0 : Nat} : vOkm T0 (eN e_88v L_88vw A_88v mu_88v n_88 B_88 (some q0)) 1 g_88vw_9_18 := vOk_inI fun ρ η f0 f1 f2 f3 f4 f5 f6 => q_88vw_19 (q0 := q0) (n0 := ρ 5) (n1 := ρ 4) (n2 := ρ 3) (n3 := ρ 2) (n4 := ρ 1) (n5 := ρ 0) (n8 := ρ 8) (n9 := ρ 9) (n14 := ρ 14) (n18 := ρ 18) (H0 := η 0) (H1 := η 1) (H2 := η 2) (H3 := η 3) (H4 := η 4) (H5 := η 5) (H6 := η 6) (H7 := η 7) f6 f5 f4 f3 f2 f1 f0
theorem q_88vw_20 {q0 : Nat} {n0 n1 n2 n3 n4 n5 n8 n9 n14 n21 : Int} {H0 H1 H2 H3 H4 H5 H6 H7 H8 : gH} (f0 : (hLe T0 H0 H1 ∧ hFr s_88v.2.2.2.2 H0 H1 ∧ hWt T0 H1) ∧ ((Ab_88v_9 n5 n4 n3 n2 n1 n0 H0 H1 ∧ Bb_88_9 n5 n4 n3 n2 n1 n0 H0 H1) ∧ preb_88v n5 H0) ∧ some q0 = some (mub_88v_9 n5 n4 n3 n2 n1 n0 H0 H1)) (f1 : (hLe T0 H1 H2 ∧ hFr s_89v.2.2.2.2 H1 H2 ∧ ((0 : Int) = 0 → H2.length = H1.length) ∧ hWt T0 H2) ∧ postb_89v n8 n4 H1 H2) (f2 : (hLe T0 H2 H3 ∧ hFr s_92v.2.2.2.2 H2 H3 ∧ ((0 : Int) = 0 → H3.length = H2.length) ∧ hWt T0 H3) ∧ (postb_92v n4 H2 H3 ∧ nb_92 n4 H2 H3)) (f3 : (hLe T0 H3 H4 ∧ hFr s_90v.2.2.2.2 H3 H4 ∧ ((0 : Int) = 0 → H4.length = H3.length) ∧ hWt T0 H4) ∧ postb_90v n9 n4 H3 H4) (f4 : (hLe T0 H4 H5 ∧ hFr s_92v.2.2.2.2 H4 H5 ∧ ((0 : Int) = 0 → H5.length = H4.length) ∧ hWt T0 H5) ∧ (postb_92v n4 H4 H5 ∧ nb_92 n4 H4 H5)) (f5 : (hLe T0 H5 H6 ∧ hFr s_91.2.2.2.2 H5 H6 ∧ ((0 : Int) = 0 → H6.length = H5.length) ∧ hWt T0 H6) ∧ True) (f6 : (hLe T0 H6 H7 ∧ hFr s_98.2.2.2.2 H6 H7 ∧ ((0 : Int) = 0 → H7.length = H6.length) ∧ hWt T0 H7) ∧ True) (f7 : (hLe T0 H7 H8 ∧ hFr s_98.2.2.2.2 H7 H8 ∧ ((0 : Int) = 0 → H8.length = H7.length) ∧ hWt T0 H8) ∧ True) : Bb_88_122 n5 n4 n21 n14 n1 n0 n8 n9 H0 H8 := by
  unfold Bb_88_122
  exact (fRow f7.1.2.1 46 (by decide +kernel)).trans ((fRow f6.1.2.1 46 (by decide +kernel)).trans ((fRow f5.1.2.1 46 (by decide +kernel)).trans ((show hV H5 46 = hV H4 46 from f4.2.2).trans ((fRow f3.1.2.1 46 (by decide +kernel)).trans ((show hV H3 46 = hV H2 46 from f2.2.2).trans ((fRow f1.1.2.1 46 (by decide +kernel)).trans (show hV H1 46 = hV H0 46 from f0.2.1.1.2)))))))
def g_88vw_9_19 : vG := ([(1098, [15, 16], [7, 8], 0), (1098, [10, 11], [6, 7], 0), (1091, [1, 9, 8], [5, 6], 0), (1092, [1], [4, 5], 0), (1090, [9, 1], [3, 4], 0), (1092, [1], [2, 3], 0), (1089, [8, 1], [1, 2], 0), (5000, [0, 1, 2, 3, 4, 5], [0, 1], 9)], (4000, [1, 21, 14, 4, 5, 8, 9], [8], 122))
theorem c_88vw_9_19 {q0 : Nat} : vOkm T0 (eN e_88v L_88vw A_88v mu_88v n_88 B_88 (some q0)) 1 g_88vw_9_19 := vOk_inI fun ρ η f0 f1 f2 f3 f4 f5 f6 f7 => q_88vw_20 (q0 := q0) (n0 := ρ 5) (n1 := ρ 4) (n2 := ρ 3) (n3 := ρ 2) (n4 := ρ 1) (n5 := ρ 0) (n8 := ρ 8) (n9 := ρ 9) (n14 := ρ 14) (n21 := ρ 21) (H0 := η 0) (H1 := η 1) (H2 := η 2) (H3 := η 3) (H4 := η 4) (H5 := η 5) (H6 := η 6) (H7 := η 7) (H8 := η 8) f7 f6 f5 f4 f3 f2 f1 f0
theorem q_88vw_21 {q0 : Nat} {n0 n1 n2 n3 n4 n5 n8 n9 n14 n21 : Int} {H0 H1 H2 H3 H4 H5 H6 H7 H8 : gH} (f0 : (hLe T0 H0 H1 ∧ hFr s_88v.2.2.2.2 H0 H1 ∧ hWt T0 H1) ∧ ((Ab_88v_9 n5 n4 n3 n2 n1 n0 H0 H1 ∧ Bb_88_9 n5 n4 n3 n2 n1 n0 H0 H1) ∧ preb_88v n5 H0) ∧ some q0 = some (mub_88v_9 n5 n4 n3 n2 n1 n0 H0 H1)) (f1 : (hLe T0 H1 H2 ∧ hFr s_89v.2.2.2.2 H1 H2 ∧ ((0 : Int) = 0 → H2.length = H1.length) ∧ hWt T0 H2) ∧ postb_89v n8 n4 H1 H2) (f2 : (hLe T0 H2 H3 ∧ hFr s_92v.2.2.2.2 H2 H3 ∧ ((0 : Int) = 0 → H3.length = H2.length) ∧ hWt T0 H3) ∧ (postb_92v n4 H2 H3 ∧ nb_92 n4 H2 H3)) (f3 : (hLe T0 H3 H4 ∧ hFr s_90v.2.2.2.2 H3 H4 ∧ ((0 : Int) = 0 → H4.length = H3.length) ∧ hWt T0 H4) ∧ postb_90v n9 n4 H3 H4) (f4 : (hLe T0 H4 H5 ∧ hFr s_92v.2.2.2.2 H4 H5 ∧ ((0 : Int) = 0 → H5.length = H4.length) ∧ hWt T0 H5) ∧ (postb_92v n4 H4 H5 ∧ nb_92 n4 H4 H5)) (f5 : (hLe T0 H5 H6 ∧ hFr s_91.2.2.2.2 H5 H6 ∧ ((0 : Int) = 0 → H6.length = H5.length) ∧ hWt T0 H6) ∧ True) (f6 : (hLe T0 H6 H7 ∧ hFr s_98.2.2.2.2 H6 H7 ∧ ((0 : Int) = 0 → H7.length = H6.length) ∧ hWt T0 H7) ∧ True) (f7 : (hLe T0 H7 H8 ∧ hFr s_98.2.2.2.2 H7 H8 ∧ ((0 : Int) = 0 → H8.length = H7.length) ∧ hWt T0 H8) ∧ True) : Bb_88_122 n5 n4 n21 n14 n1 n0 n8 n9 H0 H8 := by
  unfold Bb_88_122
  exact (fRow f7.1.2.1 46 (by decide +kernel)).trans ((fRow f6.1.2.1 46 (by decide +kernel)).trans ((fRow f5.1.2.1 46 (by decide +kernel)).trans ((show hV H5 46 = hV H4 46 from f4.2.2).trans ((fRow f3.1.2.1 46 (by decide +kernel)).trans ((show hV H3 46 = hV H2 46 from f2.2.2).trans ((fRow f1.1.2.1 46 (by decide +kernel)).trans (show hV H1 46 = hV H0 46 from f0.2.1.1.2)))))))
def g_88vw_9_20 : vG := ([(1098, [15, 16], [7, 8], 0), (1098, [10, 11], [6, 7], 0), (1091, [1, 9, 8], [5, 6], 0), (1092, [1], [4, 5], 0), (1090, [9, 1], [3, 4], 0), (1092, [1], [2, 3], 0), (1089, [8, 1], [1, 2], 0), (5000, [0, 1, 2, 3, 4, 5], [0, 1], 9)], (4000, [1, 21, 14, 4, 5, 8, 9], [8], 122))
theorem c_88vw_9_20 {q0 : Nat} : vOkm T0 (eN e_88v L_88vw A_88v mu_88v n_88 B_88 (some q0)) 1 g_88vw_9_20 := vOk_inI fun ρ η f0 f1 f2 f3 f4 f5 f6 f7 => q_88vw_21 (q0 := q0) (n0 := ρ 5) (n1 := ρ 4) (n2 := ρ 3) (n3 := ρ 2) (n4 := ρ 1) (n5 := ρ 0) (n8 := ρ 8) (n9 := ρ 9) (n14 := ρ 14) (n21 := ρ 21) (H0 := η 0) (H1 := η 1) (H2 := η 2) (H3 := η 3) (H4 := η 4) (H5 := η 5) (H6 := η 6) (H7 := η 7) (H8 := η 8) f7 f6 f5 f4 f3 f2 f1 f0
theorem q_88vw_22 {q0 : Nat} {n0 n1 n2 n3 n4 n5 n8 n9 n14 n18 : Int} {H0 H1 H2 H3 H4 H5 H6 H7 : gH} (f0 : (hLe T0 H0 H1 ∧ hFr s_88v.2.2.2.2 H0 H1 ∧ hWt T0 H1) ∧ ((Ab_88v_9 n5 n4 n3 n2 n1 n0 H0 H1 ∧ Bb_88_9 n5 n4 n3 n2 n1 n0 H0 H1) ∧ preb_88v n5 H0) ∧ some q0 = some (mub_88v_9 n5 n4 n3 n2 n1 n0 H0 H1)) (f1 : (hLe T0 H1 H2 ∧ hFr s_89v.2.2.2.2 H1 H2 ∧ ((0 : Int) = 0 → H2.length = H1.length) ∧ hWt T0 H2) ∧ postb_89v n8 n4 H1 H2) (f2 : (hLe T0 H2 H3 ∧ hFr s_92v.2.2.2.2 H2 H3 ∧ ((0 : Int) = 0 → H3.length = H2.length) ∧ hWt T0 H3) ∧ (postb_92v n4 H2 H3 ∧ nb_92 n4 H2 H3)) (f3 : (hLe T0 H3 H4 ∧ hFr s_90v.2.2.2.2 H3 H4 ∧ ((0 : Int) = 0 → H4.length = H3.length) ∧ hWt T0 H4) ∧ postb_90v n9 n4 H3 H4) (f4 : (hLe T0 H4 H5 ∧ hFr s_92v.2.2.2.2 H4 H5 ∧ ((0 : Int) = 0 → H5.length = H4.length) ∧ hWt T0 H5) ∧ (postb_92v n4 H4 H5 ∧ nb_92 n4 H4 H5)) (f5 : (hLe T0 H5 H6 ∧ hFr s_91.2.2.2.2 H5 H6 ∧ ((0 : Int) = 0 → H6.length = H5.length) ∧ hWt T0 H6) ∧ True) (f6 : (hLe T0 H6 H7 ∧ hFr s_98.2.2.2.2 H6 H7 ∧ ((0 : Int) = 0 → H7.length = H6.length) ∧ hWt T0 H7) ∧ True) : Bb_88_122 n5 n4 n18 n14 n1 n0 n8 n9 H0 H7 := by
  unfold Bb_88_122
  exact (fRow f6.1.2.1 46 (by decide +kernel)).trans ((fRow f5.1.2.1 46 (by decide +kernel)).trans ((show hV H5 46 = hV H4 46 from f4.2.2).trans ((fRow f3.1.2.1 46 (by decide +kernel)).trans ((show hV H3 46 = hV H2 46 from f2.2.2).trans ((fRow f1.1.2.1 46 (by decide +kernel)).trans (show hV H1 46 = hV H0 46 from f0.2.1.1.2))))))
def g_88vw_9_21 : vG := ([(1098, [10, 11], [6, 7], 0), (1091, [1, 9, 8], [5, 6], 0), (1092, [1], [4, 5], 0), (1090, [9, 1], [3, 4], 0), (1092, [1], [2, 3], 0), (1089, [8, 1], [1, 2], 0), (5000, [0, 1, 2, 3, 4, 5], [0, 1], 9)], (4000, [1, 18, 14, 4, 5, 8, 9], [7], 122))
theorem c_88vw_9_21 {q0 : Nat} : vOkm T0 (eN e_88v L_88vw A_88v mu_88v n_88 B_88 (some q0)) 1 g_88vw_9_21 := vOk_inI fun ρ η f0 f1 f2 f3 f4 f5 f6 => q_88vw_22 (q0 := q0) (n0 := ρ 5) (n1 := ρ 4) (n2 := ρ 3) (n3 := ρ 2) (n4 := ρ 1) (n5 := ρ 0) (n8 := ρ 8) (n9 := ρ 9) (n14 := ρ 14) (n18 := ρ 18) (H0 := η 0) (H1 := η 1) (H2 := η 2) (H3 := η 3) (H4 := η 4) (H5 := η 5) (H6 := η 6) (H7 := η 7) f6 f5 f4 f3 f2 f1 f0
theorem q_88vw_23 {q0 : Nat} {n0 n1 n2 n3 n4 n5 n8 n9 n14 n18 : Int} {H0 H1 H2 H3 H4 H5 H6 H7 : gH} (f0 : (hLe T0 H0 H1 ∧ hFr s_88v.2.2.2.2 H0 H1 ∧ hWt T0 H1) ∧ ((Ab_88v_9 n5 n4 n3 n2 n1 n0 H0 H1 ∧ Bb_88_9 n5 n4 n3 n2 n1 n0 H0 H1) ∧ preb_88v n5 H0) ∧ some q0 = some (mub_88v_9 n5 n4 n3 n2 n1 n0 H0 H1)) (f1 : (hLe T0 H1 H2 ∧ hFr s_89v.2.2.2.2 H1 H2 ∧ ((0 : Int) = 0 → H2.length = H1.length) ∧ hWt T0 H2) ∧ postb_89v n8 n4 H1 H2) (f2 : (hLe T0 H2 H3 ∧ hFr s_92v.2.2.2.2 H2 H3 ∧ ((0 : Int) = 0 → H3.length = H2.length) ∧ hWt T0 H3) ∧ (postb_92v n4 H2 H3 ∧ nb_92 n4 H2 H3)) (f3 : (hLe T0 H3 H4 ∧ hFr s_90v.2.2.2.2 H3 H4 ∧ ((0 : Int) = 0 → H4.length = H3.length) ∧ hWt T0 H4) ∧ postb_90v n9 n4 H3 H4) (f4 : (hLe T0 H4 H5 ∧ hFr s_92v.2.2.2.2 H4 H5 ∧ ((0 : Int) = 0 → H5.length = H4.length) ∧ hWt T0 H5) ∧ (postb_92v n4 H4 H5 ∧ nb_92 n4 H4 H5)) (f5 : (hLe T0 H5 H6 ∧ hFr s_91.2.2.2.2 H5 H6 ∧ ((0 : Int) = 0 → H6.length = H5.length) ∧ hWt T0 H6) ∧ True) (f6 : (hLe T0 H6 H7 ∧ hFr s_98.2.2.2.2 H6 H7 ∧ ((0 : Int) = 0 → H7.length = H6.length) ∧ hWt T0 H7) ∧ True) : Bb_88_122 n5 n4 n18 n14 n1 n0 n8 n9 H0 H7 := by
  unfold Bb_88_122
  exact (fRow f6.1.2.1 46 (by decide +kernel)).trans ((fRow f5.1.2.1 46 (by decide +kernel)).trans ((show hV H5 46 = hV H4 46 from f4.2.2).trans ((fRow f3.1.2.1 46 (by decide +kernel)).trans ((show hV H3 46 = hV H2 46 from f2.2.2).trans ((fRow f1.1.2.1 46 (by decide +kernel)).trans (show hV H1 46 = hV H0 46 from f0.2.1.1.2))))))
def g_88vw_9_22 : vG := ([(1098, [10, 11], [6, 7], 0), (1091, [1, 9, 8], [5, 6], 0), (1092, [1], [4, 5], 0), (1090, [9, 1], [3, 4], 0), (1092, [1], [2, 3], 0), (1089, [8, 1], [1, 2], 0), (5000, [0, 1, 2, 3, 4, 5], [0, 1], 9)], (4000, [1, 18, 14, 4, 5, 8, 9], [7], 122))
theorem c_88vw_9_22 {q0 : Nat} : vOkm T0 (eN e_88v L_88vw A_88v mu_88v n_88 B_88 (some q0)) 1 g_88vw_9_22 := vOk_inI fun ρ η f0 f1 f2 f3 f4 f5 f6 => q_88vw_23 (q0 := q0) (n0 := ρ 5) (n1 := ρ 4) (n2 := ρ 3) (n3 := ρ 2) (n4 := ρ 1) (n5 := ρ 0) (n8 := ρ 8) (n9 := ρ 9) (n14 := ρ 14) (n18 := ρ 18) (H0 := η 0) (H1 := η 1) (H2 := η 2) (H3 := η 3) (H4 := η 4) (H5 := η 5) (H6 := η 6) (H7 := η 7) f6 f5 f4 f3 f2 f1 f0
theorem q_88vw_24 {q0 : Nat} {n0 n1 n2 n3 n4 n5 n8 n9 n14 n18 : Int} {H0 H1 H2 H3 H4 H5 H6 H7 : gH} (f0 : (hLe T0 H0 H1 ∧ hFr s_88v.2.2.2.2 H0 H1 ∧ hWt T0 H1) ∧ ((Ab_88v_9 n5 n4 n3 n2 n1 n0 H0 H1 ∧ Bb_88_9 n5 n4 n3 n2 n1 n0 H0 H1) ∧ preb_88v n5 H0) ∧ some q0 = some (mub_88v_9 n5 n4 n3 n2 n1 n0 H0 H1)) (f1 : (hLe T0 H1 H2 ∧ hFr s_89v.2.2.2.2 H1 H2 ∧ ((0 : Int) = 0 → H2.length = H1.length) ∧ hWt T0 H2) ∧ postb_89v n8 n4 H1 H2) (f2 : (hLe T0 H2 H3 ∧ hFr s_92v.2.2.2.2 H2 H3 ∧ ((0 : Int) = 0 → H3.length = H2.length) ∧ hWt T0 H3) ∧ (postb_92v n4 H2 H3 ∧ nb_92 n4 H2 H3)) (f3 : (hLe T0 H3 H4 ∧ hFr s_90v.2.2.2.2 H3 H4 ∧ ((0 : Int) = 0 → H4.length = H3.length) ∧ hWt T0 H4) ∧ postb_90v n9 n4 H3 H4) (f4 : (hLe T0 H4 H5 ∧ hFr s_92v.2.2.2.2 H4 H5 ∧ ((0 : Int) = 0 → H5.length = H4.length) ∧ hWt T0 H5) ∧ (postb_92v n4 H4 H5 ∧ nb_92 n4 H4 H5)) (f5 : (hLe T0 H5 H6 ∧ hFr s_91.2.2.2.2 H5 H6 ∧ ((0 : Int) = 0 → H6.length = H5.length) ∧ hWt T0 H6) ∧ True) (f6 : (hLe T0 H6 H7 ∧ hFr s_98.2.2.2.2 H6 H7 ∧ ((0 : Int) = 0 → H7.length = H6.length) ∧ hWt T0 H7) ∧ True) : Bb_88_122 n5 n4 n18 n14 n1 n0 n8 n9 H0 H7 := by
  unfold Bb_88_122
  exact (fRow f6.1.2.1 46 (by decide +kernel)).trans ((fRow f5.1.2.1 46 (by decide +kernel)).trans ((show hV H5 46 = hV H4 46 from f4.2.2).trans ((fRow f3.1.2.1 46 (by decide +kernel)).trans ((show hV H3 46 = hV H2 46 from f2.2.2).trans ((fRow f1.1.2.1 46 (by decide +kernel)).trans (show hV H1 46 = hV H0 46 from f0.2.1.1.2))))))
def g_88vw_9_23 : vG := ([(1098, [10, 11], [6, 7], 0), (1091, [1, 9, 8], [5, 6], 0), (1092, [1], [4, 5], 0), (1090, [9, 1], [3, 4], 0), (1092, [1], [2, 3], 0), (1089, [8, 1], [1, 2], 0), (5000, [0, 1, 2, 3, 4, 5], [0, 1], 9)], (4000, [1, 18, 14, 4, 5, 8, 9], [7], 122))
theorem c_88vw_9_23 {q0 : Nat} : vOkm T0 (eN e_88v L_88vw A_88v mu_88v n_88 B_88 (some q0)) 1 g_88vw_9_23 := vOk_inI fun ρ η f0 f1 f2 f3 f4 f5 f6 => q_88vw_24 (q0 := q0) (n0 := ρ 5) (n1 := ρ 4) (n2 := ρ 3) (n3 := ρ 2) (n4 := ρ 1) (n5 := ρ 0) (n8 := ρ 8) (n9 := ρ 9) (n14 := ρ 14) (n18 := ρ 18) (H0 := η 0) (H1 := η 1) (H2 := η 2) (H3 := η 3) (H4 := η 4) (H5 := η 5) (H6 := η 6) (H7 := η 7) f6 f5 f4 f3 f2 f1 f0
theorem q_88vw_25 {q0 : Nat} {n0 n1 n2 n3 n4 n5 n8 n9 n14 n18 : Int} {H0 H1 H2 H3 H4 H5 H6 H7 : gH} (f0 : (hLe T0 H0 H1 ∧ hFr s_88v.2.2.2.2 H0 H1 ∧ hWt T0 H1) ∧ ((Ab_88v_9 n5 n4 n3 n2 n1 n0 H0 H1 ∧ Bb_88_9 n5 n4 n3 n2 n1 n0 H0 H1) ∧ preb_88v n5 H0) ∧ some q0 = some (mub_88v_9 n5 n4 n3 n2 n1 n0 H0 H1)) (f1 : (hLe T0 H1 H2 ∧ hFr s_89v.2.2.2.2 H1 H2 ∧ ((0 : Int) = 0 → H2.length = H1.length) ∧ hWt T0 H2) ∧ postb_89v n8 n4 H1 H2) (f2 : (hLe T0 H2 H3 ∧ hFr s_92v.2.2.2.2 H2 H3 ∧ ((0 : Int) = 0 → H3.length = H2.length) ∧ hWt T0 H3) ∧ (postb_92v n4 H2 H3 ∧ nb_92 n4 H2 H3)) (f3 : (hLe T0 H3 H4 ∧ hFr s_90v.2.2.2.2 H3 H4 ∧ ((0 : Int) = 0 → H4.length = H3.length) ∧ hWt T0 H4) ∧ postb_90v n9 n4 H3 H4) (f4 : (hLe T0 H4 H5 ∧ hFr s_92v.2.2.2.2 H4 H5 ∧ ((0 : Int) = 0 → H5.length = H4.length) ∧ hWt T0 H5) ∧ (postb_92v n4 H4 H5 ∧ nb_92 n4 H4 H5)) (f5 : (hLe T0 H5 H6 ∧ hFr s_91.2.2.2.2 H5 H6 ∧ ((0 : Int) = 0 → H6.length = H5.length) ∧ hWt T0 H6) ∧ True) (f6 : (hLe T0 H6 H7 ∧ hFr s_98.2.2.2.2 H6 H7 ∧ ((0 : Int) = 0 → H7.length = H6.length) ∧ hWt T0 H7) ∧ True) : Bb_88_122 n5 n4 n18 n14 n1 n0 n8 n9 H0 H7 := by
  unfold Bb_88_122
  exact (fRow f6.1.2.1 46 (by decide +kernel)).trans ((fRow f5.1.2.1 46 (by decide +kernel)).trans ((show hV H5 46 = hV H4 46 from f4.2.2).trans ((fRow f3.1.2.1 46 (by decide +kernel)).trans ((show hV H3 46 = hV H2 46 from f2.2.2).trans ((fRow f1.1.2.1 46 (by decide +kernel)).trans (show hV H1 46 = hV H0 46 from f0.2.1.1.2))))))
def g_88vw_9_24 : vG := ([(1098, [10, 11], [6, 7], 0), (1091, [1, 9, 8], [5, 6], 0), (1092, [1], [4, 5], 0), (1090, [9, 1], [3, 4], 0), (1092, [1], [2, 3], 0), (1089, [8, 1], [1, 2], 0), (5000, [0, 1, 2, 3, 4, 5], [0, 1], 9)], (4000, [1, 18, 14, 4, 5, 8, 9], [7], 122))
theorem c_88vw_9_24 {q0 : Nat} : vOkm T0 (eN e_88v L_88vw A_88v mu_88v n_88 B_88 (some q0)) 1 g_88vw_9_24 := vOk_inI fun ρ η f0 f1 f2 f3 f4 f5 f6 => q_88vw_25 (q0 := q0) (n0 := ρ 5) (n1 := ρ 4) (n2 := ρ 3) (n3 := ρ 2) (n4 := ρ 1) (n5 := ρ 0) (n8 := ρ 8) (n9 := ρ 9) (n14 := ρ 14) (n18 := ρ 18) (H0 := η 0) (H1 := η 1) (H2 := η 2) (H3 := η 3) (H4 := η 4) (H5 := η 5) (H6 := η 6) (H7 := η 7) f6 f5 f4 f3 f2 f1 f0
theorem q_88vw_26 {q0 : Nat} {n0 n1 n2 n3 n4 n5 n8 n9 n14 n21 : Int} {H0 H1 H2 H3 H4 H5 H6 H7 H8 : gH} (f0 : (hLe T0 H0 H1 ∧ hFr s_88v.2.2.2.2 H0 H1 ∧ hWt T0 H1) ∧ ((Ab_88v_9 n5 n4 n3 n2 n1 n0 H0 H1 ∧ Bb_88_9 n5 n4 n3 n2 n1 n0 H0 H1) ∧ preb_88v n5 H0) ∧ some q0 = some (mub_88v_9 n5 n4 n3 n2 n1 n0 H0 H1)) (f1 : (hLe T0 H1 H2 ∧ hFr s_89v.2.2.2.2 H1 H2 ∧ ((0 : Int) = 0 → H2.length = H1.length) ∧ hWt T0 H2) ∧ postb_89v n8 n4 H1 H2) (f2 : (hLe T0 H2 H3 ∧ hFr s_92v.2.2.2.2 H2 H3 ∧ ((0 : Int) = 0 → H3.length = H2.length) ∧ hWt T0 H3) ∧ (postb_92v n4 H2 H3 ∧ nb_92 n4 H2 H3)) (f3 : (hLe T0 H3 H4 ∧ hFr s_90v.2.2.2.2 H3 H4 ∧ ((0 : Int) = 0 → H4.length = H3.length) ∧ hWt T0 H4) ∧ postb_90v n9 n4 H3 H4) (f4 : (hLe T0 H4 H5 ∧ hFr s_92v.2.2.2.2 H4 H5 ∧ ((0 : Int) = 0 → H5.length = H4.length) ∧ hWt T0 H5) ∧ (postb_92v n4 H4 H5 ∧ nb_92 n4 H4 H5)) (f5 : (hLe T0 H5 H6 ∧ hFr s_91.2.2.2.2 H5 H6 ∧ ((0 : Int) = 0 → H6.length = H5.length) ∧ hWt T0 H6) ∧ True) (f6 : (hLe T0 H6 H7 ∧ hFr s_98.2.2.2.2 H6 H7 ∧ ((0 : Int) = 0 → H7.length = H6.length) ∧ hWt T0 H7) ∧ True) (f7 : (hLe T0 H7 H8 ∧ hFr s_98.2.2.2.2 H7 H8 ∧ ((0 : Int) = 0 → H8.length = H7.length) ∧ hWt T0 H8) ∧ True) : Bb_88_122 n5 n4 n21 n14 n1 n0 n8 n9 H0 H8 := by
  unfold Bb_88_122
  exact (fRow f7.1.2.1 46 (by decide +kernel)).trans ((fRow f6.1.2.1 46 (by decide +kernel)).trans ((fRow f5.1.2.1 46 (by decide +kernel)).trans ((show hV H5 46 = hV H4 46 from f4.2.2).trans ((fRow f3.1.2.1 46 (by decide +kernel)).trans ((show hV H3 46 = hV H2 46 from f2.2.2).trans ((fRow f1.1.2.1 46 (by decide +kernel)).trans (show hV H1 46 = hV H0 46 from f0.2.1.1.2)))))))
def g_88vw_9_25 : vG := ([(1098, [15, 16], [7, 8], 0), (1098, [10, 11], [6, 7], 0), (1091, [1, 9, 8], [5, 6], 0), (1092, [1], [4, 5], 0), (1090, [9, 1], [3, 4], 0), (1092, [1], [2, 3], 0), (1089, [8, 1], [1, 2], 0), (5000, [0, 1, 2, 3, 4, 5], [0, 1], 9)], (4000, [1, 21, 14, 4, 5, 8, 9], [8], 122))
theorem c_88vw_9_25 {q0 : Nat} : vOkm T0 (eN e_88v L_88vw A_88v mu_88v n_88 B_88 (some q0)) 1 g_88vw_9_25 := vOk_inI fun ρ η f0 f1 f2 f3 f4 f5 f6 f7 => q_88vw_26 (q0 := q0) (n0 := ρ 5) (n1 := ρ 4) (n2 := ρ 3) (n3 := ρ 2) (n4 := ρ 1) (n5 := ρ 0) (n8 := ρ 8) (n9 := ρ 9) (n14 := ρ 14) (n21 := ρ 21) (H0 := η 0) (H1 := η 1) (H2 := η 2) (H3 := η 3) (H4 := η 4) (H5 := η 5) (H6 := η 6) (H7 := η 7) (H8 := η 8) f7 f6 f5 f4 f3 f2 f1 f0
theorem q_88vw_27 {q0 : Nat} {n0 n1 n2 n3 n4 n5 n8 n9 n14 n21 : Int} {H0 H1 H2 H3 H4 H5 H6 H7 H8 : gH} (f0 : (hLe T0 H0 H1 ∧ hFr s_88v.2.2.2.2 H0 H1 ∧ hWt T0 H1) ∧ ((Ab_88v_9 n5 n4 n3 n2 n1 n0 H0 H1 ∧ Bb_88_9 n5 n4 n3 n2 n1 n0 H0 H1) ∧ preb_88v n5 H0) ∧ some q0 = some (mub_88v_9 n5 n4 n3 n2 n1 n0 H0 H1)) (f1 : (hLe T0 H1 H2 ∧ hFr s_89v.2.2.2.2 H1 H2 ∧ ((0 : Int) = 0 → H2.length = H1.length) ∧ hWt T0 H2) ∧ postb_89v n8 n4 H1 H2) (f2 : (hLe T0 H2 H3 ∧ hFr s_92v.2.2.2.2 H2 H3 ∧ ((0 : Int) = 0 → H3.length = H2.length) ∧ hWt T0 H3) ∧ (postb_92v n4 H2 H3 ∧ nb_92 n4 H2 H3)) (f3 : (hLe T0 H3 H4 ∧ hFr s_90v.2.2.2.2 H3 H4 ∧ ((0 : Int) = 0 → H4.length = H3.length) ∧ hWt T0 H4) ∧ postb_90v n9 n4 H3 H4) (f4 : (hLe T0 H4 H5 ∧ hFr s_92v.2.2.2.2 H4 H5 ∧ ((0 : Int) = 0 → H5.length = H4.length) ∧ hWt T0 H5) ∧ (postb_92v n4 H4 H5 ∧ nb_92 n4 H4 H5)) (f5 : (hLe T0 H5 H6 ∧ hFr s_91.2.2.2.2 H5 H6 ∧ ((0 : Int) = 0 → H6.length = H5.length) ∧ hWt T0 H6) ∧ True) (f6 : (hLe T0 H6 H7 ∧ hFr s_98.2.2.2.2 H6 H7 ∧ ((0 : Int) = 0 → H7.length = H6.length) ∧ hWt T0 H7) ∧ True) (f7 : (hLe T0 H7 H8 ∧ hFr s_98.2.2.2.2 H7 H8 ∧ ((0 : Int) = 0 → H8.length = H7.length) ∧ hWt T0 H8) ∧ True) : Bb_88_122 n5 n4 n21 n14 n1 n0 n8 n9 H0 H8 := by
  unfold Bb_88_122
  exact (fRow f7.1.2.1 46 (by decide +kernel)).trans ((fRow f6.1.2.1 46 (by decide +kernel)).trans ((fRow f5.1.2.1 46 (by decide +kernel)).trans ((show hV H5 46 = hV H4 46 from f4.2.2).trans ((fRow f3.1.2.1 46 (by decide +kernel)).trans ((show hV H3 46 = hV H2 46 from f2.2.2).trans ((fRow f1.1.2.1 46 (by decide +kernel)).trans (show hV H1 46 = hV H0 46 from f0.2.1.1.2)))))))
def g_88vw_9_26 : vG := ([(1098, [15, 16], [7, 8], 0), (1098, [10, 11], [6, 7], 0), (1091, [1, 9, 8], [5, 6], 0), (1092, [1], [4, 5], 0), (1090, [9, 1], [3, 4], 0), (1092, [1], [2, 3], 0), (1089, [8, 1], [1, 2], 0), (5000, [0, 1, 2, 3, 4, 5], [0, 1], 9)], (4000, [1, 21, 14, 4, 5, 8, 9], [8], 122))
theorem c_88vw_9_26 {q0 : Nat} : vOkm T0 (eN e_88v L_88vw A_88v mu_88v n_88 B_88 (some q0)) 1 g_88vw_9_26 := vOk_inI fun ρ η f0 f1 f2 f3 f4 f5 f6 f7 => q_88vw_27 (q0 := q0) (n0 := ρ 5) (n1 := ρ 4) (n2 := ρ 3) (n3 := ρ 2) (n4 := ρ 1) (n5 := ρ 0) (n8 := ρ 8) (n9 := ρ 9) (n14 := ρ 14) (n21 := ρ 21) (H0 := η 0) (H1 := η 1) (H2 := η 2) (H3 := η 3) (H4 := η 4) (H5 := η 5) (H6 := η 6) (H7 := η 7) (H8 := η 8) f7 f6 f5 f4 f3 f2 f1 f0
def p_88vw_9 : List vG := [g_88vw_9_0,
  g_88vw_9_1,
  g_88vw_9_2,
  g_88vw_9_3,
  g_88vw_9_4,
  g_88vw_9_5,
  g_88vw_9_6,
  g_88vw_9_7,
  g_88vw_9_8,
  g_88vw_9_9,
  g_88vw_9_10,
  g_88vw_9_11,
  g_88vw_9_12,
  g_88vw_9_13,
  g_88vw_9_14,
  g_88vw_9_15,
  g_88vw_9_16,
  g_88vw_9_17,
  g_88vw_9_18,
  g_88vw_9_19,
  g_88vw_9_20,
  g_88vw_9_21,
  g_88vw_9_22,
  g_88vw_9_23,
  g_88vw_9_24,
  g_88vw_9_25,
  g_88vw_9_26]
theorem r_88vw_9 : vCovBO (eRc e_88v L_88v cs_88v 2000 (9, [(0, (3, 4, 30, 0)), (1, (0, -2147483648, 2147483647, 0)), (2, (0, -2147483648, 2147483647, 0)), (3, (0, -2147483648, 2147483647, 0)), (4, (0, -2147483648, 2147483647, 0))])) p_88vw_9 = true := by decide +kernel
theorem q_88vw_28 {q0 : Nat} {n0 n1 n2 n3 n4 n5 n6 n7 n10 n11 : Int} {H0 H1 : gH} (f0 : (hLe T0 H0 H1 ∧ hFr s_88v.2.2.2.2 H0 H1 ∧ hWt T0 H1) ∧ ((Ab_88v_122 n7 n6 n5 n4 n3 n2 n1 n0 H0 H1 ∧ Bb_88_122 n7 n6 n5 n4 n3 n2 n1 n0 H0 H1) ∧ preb_88v n7 H0) ∧ some q0 = some (mub_88v_122 n7 n6 n5 n4 n3 n2 n1 n0 H0 H1)) : Bb_88_9 n7 n6 n5 n4 n10 n11 H0 H1 := by
  unfold Bb_88_9
  exact show hV H1 46 = hV H0 46 from f0.2.1.1.2
def g_88vw_122_0 : vG := ([(5000, [0, 1, 2, 3, 4, 5, 6, 7], [0, 1], 122)], (4000, [1, 2, 3, 10, 11], [1], 9))
theorem c_88vw_122_0 {q0 : Nat} : vOkm T0 (eN e_88v L_88vw A_88v mu_88v n_88 B_88 (some q0)) 1 g_88vw_122_0 := vOk_inI fun ρ η f0 => q_88vw_28 (q0 := q0) (n0 := ρ 7) (n1 := ρ 6) (n2 := ρ 5) (n3 := ρ 4) (n4 := ρ 3) (n5 := ρ 2) (n6 := ρ 1) (n7 := ρ 0) (n10 := ρ 10) (n11 := ρ 11) (H0 := η 0) (H1 := η 1) f0
theorem q_88vw_29 {q0 : Nat} {n0 n1 n2 n3 n4 n5 n6 n7 n10 n11 n12 : Int} {H0 H1 H2 : gH} (f0 : (hLe T0 H0 H1 ∧ hFr s_88v.2.2.2.2 H0 H1 ∧ hWt T0 H1) ∧ ((Ab_88v_122 n7 n6 n5 n4 n3 n2 n1 n0 H0 H1 ∧ Bb_88_122 n7 n6 n5 n4 n3 n2 n1 n0 H0 H1) ∧ preb_88v n7 H0) ∧ some q0 = some (mub_88v_122 n7 n6 n5 n4 n3 n2 n1 n0 H0 H1)) (f1 : (hLe T0 H1 H2 ∧ hFr s_66v.2.2.2.2 H1 H2 ∧ ((0 : Int) = 0 → H2.length = H1.length) ∧ hWt T0 H2) ∧ postb_66v n6 n11 H1 H2) : Bb_88_9 n7 n6 n5 n4 n10 n12 H0 H2 := by
  unfold Bb_88_9
  exact (fRow f1.1.2.1 46 (by decide +kernel)).trans (show hV H1 46 = hV H0 46 from f0.2.1.1.2)
def g_88vw_122_1 : vG := ([(1066, [1, 11], [1, 2], 0), (5000, [0, 1, 2, 3, 4, 5, 6, 7], [0, 1], 122)], (4000, [1, 2, 3, 10, 12], [2], 9))
theorem c_88vw_122_1 {q0 : Nat} : vOkm T0 (eN e_88v L_88vw A_88v mu_88v n_88 B_88 (some q0)) 1 g_88vw_122_1 := vOk_inI fun ρ η f0 f1 => q_88vw_29 (q0 := q0) (n0 := ρ 7) (n1 := ρ 6) (n2 := ρ 5) (n3 := ρ 4) (n4 := ρ 3) (n5 := ρ 2) (n6 := ρ 1) (n7 := ρ 0) (n10 := ρ 10) (n11 := ρ 11) (n12 := ρ 12) (H0 := η 0) (H1 := η 1) (H2 := η 2) f1 f0
theorem q_88vw_30 {q0 : Nat} {n0 n1 n2 n3 n4 n5 n6 n7 n12 n13 : Int} {H0 H1 : gH} (f0 : (hLe T0 H0 H1 ∧ hFr s_88v.2.2.2.2 H0 H1 ∧ hWt T0 H1) ∧ ((Ab_88v_122 n7 n6 n5 n4 n3 n2 n1 n0 H0 H1 ∧ Bb_88_122 n7 n6 n5 n4 n3 n2 n1 n0 H0 H1) ∧ preb_88v n7 H0) ∧ some q0 = some (mub_88v_122 n7 n6 n5 n4 n3 n2 n1 n0 H0 H1)) : Bb_88_9 n7 n6 n5 n4 n12 n13 H0 H1 := by
  unfold Bb_88_9
  exact show hV H1 46 = hV H0 46 from f0.2.1.1.2
def g_88vw_122_2 : vG := ([(5000, [0, 1, 2, 3, 4, 5, 6, 7], [0, 1], 122)], (4000, [1, 2, 3, 12, 13], [1], 9))
theorem c_88vw_122_2 {q0 : Nat} : vOkm T0 (eN e_88v L_88vw A_88v mu_88v n_88 B_88 (some q0)) 1 g_88vw_122_2 := vOk_inI fun ρ η f0 => q_88vw_30 (q0 := q0) (n0 := ρ 7) (n1 := ρ 6) (n2 := ρ 5) (n3 := ρ 4) (n4 := ρ 3) (n5 := ρ 2) (n6 := ρ 1) (n7 := ρ 0) (n12 := ρ 12) (n13 := ρ 13) (H0 := η 0) (H1 := η 1) f0
theorem q_88vw_31 {q0 : Nat} {n0 n1 n2 n3 n4 n5 n6 n7 n12 n13 n14 : Int} {H0 H1 H2 : gH} (f0 : (hLe T0 H0 H1 ∧ hFr s_88v.2.2.2.2 H0 H1 ∧ hWt T0 H1) ∧ ((Ab_88v_122 n7 n6 n5 n4 n3 n2 n1 n0 H0 H1 ∧ Bb_88_122 n7 n6 n5 n4 n3 n2 n1 n0 H0 H1) ∧ preb_88v n7 H0) ∧ some q0 = some (mub_88v_122 n7 n6 n5 n4 n3 n2 n1 n0 H0 H1)) (f1 : (hLe T0 H1 H2 ∧ hFr s_66v.2.2.2.2 H1 H2 ∧ ((0 : Int) = 0 → H2.length = H1.length) ∧ hWt T0 H2) ∧ postb_66v n6 n13 H1 H2) : Bb_88_9 n7 n6 n5 n4 n12 n14 H0 H2 := by
  unfold Bb_88_9
  exact (fRow f1.1.2.1 46 (by decide +kernel)).trans (show hV H1 46 = hV H0 46 from f0.2.1.1.2)
def g_88vw_122_3 : vG := ([(1066, [1, 13], [1, 2], 0), (5000, [0, 1, 2, 3, 4, 5, 6, 7], [0, 1], 122)], (4000, [1, 2, 3, 12, 14], [2], 9))
theorem c_88vw_122_3 {q0 : Nat} : vOkm T0 (eN e_88v L_88vw A_88v mu_88v n_88 B_88 (some q0)) 1 g_88vw_122_3 := vOk_inI fun ρ η f0 f1 => q_88vw_31 (q0 := q0) (n0 := ρ 7) (n1 := ρ 6) (n2 := ρ 5) (n3 := ρ 4) (n4 := ρ 3) (n5 := ρ 2) (n6 := ρ 1) (n7 := ρ 0) (n12 := ρ 12) (n13 := ρ 13) (n14 := ρ 14) (H0 := η 0) (H1 := η 1) (H2 := η 2) f1 f0
theorem q_88vw_32 {q0 : Nat} {n0 n1 n2 n3 n4 n5 n6 n7 n12 n13 : Int} {H0 H1 : gH} (f0 : (hLe T0 H0 H1 ∧ hFr s_88v.2.2.2.2 H0 H1 ∧ hWt T0 H1) ∧ ((Ab_88v_122 n7 n6 n5 n4 n3 n2 n1 n0 H0 H1 ∧ Bb_88_122 n7 n6 n5 n4 n3 n2 n1 n0 H0 H1) ∧ preb_88v n7 H0) ∧ some q0 = some (mub_88v_122 n7 n6 n5 n4 n3 n2 n1 n0 H0 H1)) : Bb_88_9 n7 n6 n5 n4 n12 n13 H0 H1 := by
  unfold Bb_88_9
  exact show hV H1 46 = hV H0 46 from f0.2.1.1.2
def g_88vw_122_4 : vG := ([(5000, [0, 1, 2, 3, 4, 5, 6, 7], [0, 1], 122)], (4000, [1, 2, 3, 12, 13], [1], 9))
theorem c_88vw_122_4 {q0 : Nat} : vOkm T0 (eN e_88v L_88vw A_88v mu_88v n_88 B_88 (some q0)) 1 g_88vw_122_4 := vOk_inI fun ρ η f0 => q_88vw_32 (q0 := q0) (n0 := ρ 7) (n1 := ρ 6) (n2 := ρ 5) (n3 := ρ 4) (n4 := ρ 3) (n5 := ρ 2) (n6 := ρ 1) (n7 := ρ 0) (n12 := ρ 12) (n13 := ρ 13) (H0 := η 0) (H1 := η 1) f0
theorem q_88vw_33 {q0 : Nat} {n0 n1 n2 n3 n4 n5 n6 n7 n12 n13 n14 : Int} {H0 H1 H2 : gH} (f0 : (hLe T0 H0 H1 ∧ hFr s_88v.2.2.2.2 H0 H1 ∧ hWt T0 H1) ∧ ((Ab_88v_122 n7 n6 n5 n4 n3 n2 n1 n0 H0 H1 ∧ Bb_88_122 n7 n6 n5 n4 n3 n2 n1 n0 H0 H1) ∧ preb_88v n7 H0) ∧ some q0 = some (mub_88v_122 n7 n6 n5 n4 n3 n2 n1 n0 H0 H1)) (f1 : (hLe T0 H1 H2 ∧ hFr s_66v.2.2.2.2 H1 H2 ∧ ((0 : Int) = 0 → H2.length = H1.length) ∧ hWt T0 H2) ∧ postb_66v n6 n13 H1 H2) : Bb_88_9 n7 n6 n5 n4 n12 n14 H0 H2 := by
  unfold Bb_88_9
  exact (fRow f1.1.2.1 46 (by decide +kernel)).trans (show hV H1 46 = hV H0 46 from f0.2.1.1.2)
def g_88vw_122_5 : vG := ([(1066, [1, 13], [1, 2], 0), (5000, [0, 1, 2, 3, 4, 5, 6, 7], [0, 1], 122)], (4000, [1, 2, 3, 12, 14], [2], 9))
theorem c_88vw_122_5 {q0 : Nat} : vOkm T0 (eN e_88v L_88vw A_88v mu_88v n_88 B_88 (some q0)) 1 g_88vw_122_5 := vOk_inI fun ρ η f0 f1 => q_88vw_33 (q0 := q0) (n0 := ρ 7) (n1 := ρ 6) (n2 := ρ 5) (n3 := ρ 4) (n4 := ρ 3) (n5 := ρ 2) (n6 := ρ 1) (n7 := ρ 0) (n12 := ρ 12) (n13 := ρ 13) (n14 := ρ 14) (H0 := η 0) (H1 := η 1) (H2 := η 2) f1 f0
def p_88vw_122 : List vG := [g_88vw_122_0,
  g_88vw_122_1,
  g_88vw_122_2,
  g_88vw_122_3,
  g_88vw_122_4,
  g_88vw_122_5]
theorem r_88vw_122 : vCovBO (eRc e_88v L_88v cs_88v 2000 (122, [(0, (3, 4, 30, 0)), (1, (0, -2147483648, 2147483647, 0)), (2, (0, -2147483648, 2147483647, 0)), (3, (0, -2147483648, 2147483647, 0)), (4, (0, -2147483648, 2147483647, 0)), (5, (0, -2147483648, 2147483647, 0)), (6, (0, -2147483648, 2147483647, 0))])) p_88vw_122 = true := by decide +kernel
theorem m_88vw (d : Nat) : eC e_88vw (d + 4) := eC_ref (e := e_88v) (L := L_88v) (L' := L_88vw) (cs := cs_88v) (n := 2000) (d := d + 3) (A := A_88v) (μ := mu_88v) (tp := false) (p0 := p_88v_s) (p1 := p_88vw_s) (N := n_88) (B := B_88) rfl ⟨m_66v (d + 1), ⟨m_89v d, ⟨m_90v d, ⟨m_91 (d + 1), ⟨m_92vw d, ⟨m_98 (d + 2), trivial⟩⟩⟩⟩⟩⟩ rfl (.inl rfl) (by decide +kernel) (fun z => nomatch z) r_88v_s (allC c_88v_s_0 allN) (allC (.inl ⟨p_88v_9, r_88v_9, fun q0 => (allC c_88v_9_0 (allC c_88v_9_1 (allC c_88v_9_2 (allC c_88v_9_3 (allC c_88v_9_4 (allC c_88v_9_5 (allC c_88v_9_6 (allC c_88v_9_7 (allC c_88v_9_8 (allC c_88v_9_9 (allC c_88v_9_10 (allC c_88v_9_11 (allC c_88v_9_12 (allC c_88v_9_13 (allC c_88v_9_14 (allC c_88v_9_15 (allC c_88v_9_16 (allC c_88v_9_17 (allC c_88v_9_18 (allC c_88v_9_19 (allC c_88v_9_20 (allC c_88v_9_21 (allC c_88v_9_22 (allC c_88v_9_23 (allC c_88v_9_24 (allC c_88v_9_25 (allC c_88v_9_26 (allC c_88v_9_27 (allC c_88v_9_28 (allC c_88v_9_29 (allC c_88v_9_30 allN)))))))))))))))))))))))))))))))⟩) (allC (.inl ⟨p_88v_122, r_88v_122, fun q0 => (allC c_88v_122_0 (allC c_88v_122_1 (allC c_88v_122_2 (allC c_88v_122_3 (allC c_88v_122_4 (allC c_88v_122_5 (allC c_88v_122_6 (allC c_88v_122_7 (allC c_88v_122_8 allN)))))))))⟩) allN)) (sub0 (sub0 (sub0 (sub0 (sub1 (sub0 trivial)))))) r_88vw_s (allC c_88vw_s_0 allN) (allC ⟨p_88vw_9, r_88vw_9, fun q0 => (allC c_88vw_9_0 (allC c_88vw_9_1 (allC c_88vw_9_2 (allC c_88vw_9_3 (allC c_88vw_9_4 (allC c_88vw_9_5 (allC c_88vw_9_6 (allC c_88vw_9_7 (allC c_88vw_9_8 (allC c_88vw_9_9 (allC c_88vw_9_10 (allC c_88vw_9_11 (allC c_88vw_9_12 (allC c_88vw_9_13 (allC c_88vw_9_14 (allC c_88vw_9_15 (allC c_88vw_9_16 (allC c_88vw_9_17 (allC c_88vw_9_18 (allC c_88vw_9_19 (allC c_88vw_9_20 (allC c_88vw_9_21 (allC c_88vw_9_22 (allC c_88vw_9_23 (allC c_88vw_9_24 (allC c_88vw_9_25 (allC c_88vw_9_26 allN)))))))))))))))))))))))))))⟩ (allC ⟨p_88vw_122, r_88vw_122, fun q0 => (allC c_88vw_122_0 (allC c_88vw_122_1 (allC c_88vw_122_2 (allC c_88vw_122_3 (allC c_88vw_122_4 (allC c_88vw_122_5 allN))))))⟩ allN))
/- Reader.readRight ()V, more fully -/
def nb_87 (a0 : Int) (h0 h : gH) : Prop := hV h 46 = hV h0 46
def n_87 : List Int → gH → gH → Prop := fun xs h0 h => match xs with
  | [a0] => nb_87 a0 h0 h
  | _ => True
noncomputable def e_87vw : vE := eV e_87v n_87
noncomputable def L_87vw : List vE := [e_66v, e_88vw, e_92vw, e_99, e_100, e_101v]
def B_87 : Int → List Int → gH → gH → Prop := fun c xs h0 h => True
theorem q_87vw_0 {n0 n1 n6 : Int} {H0 H1 H2 H3 H4 H5 : gH} (f0 : (hLe T0 H0 H1 ∧ hFr s_66v.2.2.2.2 H0 H1 ∧ ((0 : Int) = 0 → H1.length = H0.length) ∧ hWt T0 H1) ∧ postb_66v n0 n1 H0 H1) (f1 : (hLe T0 H1 H2 ∧ hFr s_99.2.2.2.2 H1 H2 ∧ ((0 : Int) = 0 → H2.length = H1.length) ∧ hWt T0 H2) ∧ True) (f2 : (hLe T0 H2 H3 ∧ hFr s_92v.2.2.2.2 H2 H3 ∧ ((0 : Int) = 0 → H3.length = H2.length) ∧ hWt T0 H3) ∧ (postb_92v n0 H2 H3 ∧ nb_92 n0 H2 H3)) (f3 : (hLe T0 H3 H4 ∧ hFr s_100.2.2.2.2 H3 H4 ∧ ((0 : Int) = 0 → H4.length = H3.length) ∧ hWt T0 H4) ∧ True) (f4 : (hLe T0 H4 H5 ∧ hFr s_101v.2.2.2.2 H4 H5 ∧ ((0 : Int) = 0 → H5.length = H4.length) ∧ hWt T0 H5) ∧ postb_101v n6 H4 H5) : nb_87 n0 H0 H5 := by
  unfold nb_87
  exact (fRow f4.1.2.1 46 (by decide +kernel)).trans ((fRow f3.1.2.1 46 (by decide +kernel)).trans ((show hV H3 46 = hV H2 46 from f2.2.2).trans ((fRow f1.1.2.1 46 (by decide +kernel)).trans (fRow f0.1.2.1 46 (by decide +kernel)))))
def g_87vw_s_0 : vG := ([(1101, [6], [4, 5], 0), (1100, [3], [3, 4], 0), (1092, [0], [2, 3], 0), (1099, [2], [1, 2], 0), (1066, [0, 1], [0, 1], 0)], (3000, [], [5], 50))
theorem c_87vw_s_0 : vOkm T0 (eN e_87v L_87vw A_87v mu_87v n_87 B_87 none) 1 g_87vw_s_0 := vOk_inI fun ρ η f0 f1 f2 f3 f4 => q_87vw_0 (n0 := ρ 0) (n1 := ρ 1) (n6 := ρ 6) (H0 := η 0) (H1 := η 1) (H2 := η 2) (H3 := η 3) (H4 := η 4) (H5 := η 5) f4 f3 f2 f1 f0
theorem q_87vw_1 {n0 n1 n6 n7 : Int} {H0 H1 H2 H3 H4 H5 H6 H7 : gH} (f0 : (hLe T0 H0 H1 ∧ hFr s_66v.2.2.2.2 H0 H1 ∧ ((0 : Int) = 0 → H1.length = H0.length) ∧ hWt T0 H1) ∧ postb_66v n0 n1 H0 H1) (f1 : (hLe T0 H1 H2 ∧ hFr s_99.2.2.2.2 H1 H2 ∧ ((0 : Int) = 0 → H2.length = H1.length) ∧ hWt T0 H2) ∧ True) (f2 : (hLe T0 H2 H3 ∧ hFr s_92v.2.2.2.2 H2 H3 ∧ ((0 : Int) = 0 → H3.length = H2.length) ∧ hWt T0 H3) ∧ (postb_92v n0 H2 H3 ∧ nb_92 n0 H2 H3)) (f3 : (hLe T0 H3 H4 ∧ hFr s_100.2.2.2.2 H3 H4 ∧ ((0 : Int) = 0 → H4.length = H3.length) ∧ hWt T0 H4) ∧ True) (f4 : (hLe T0 H4 H5 ∧ hFr s_66v.2.2.2.2 H4 H5 ∧ ((0 : Int) = 0 → H5.length = H4.length) ∧ hWt T0 H5) ∧ postb_66v n0 n6 H4 H5) (f5 : (hLe T0 H5 H6 ∧ hFr s_88v.2.2.2.2 H5 H6 ∧ ((0 : Int) = 0 → H6.length = H5.length) ∧ hWt T0 H6) ∧ (postb_88v n0 H5 H6 ∧ nb_88 n0 H5 H6)) (f6 : (hLe T0 H6 H7 ∧ hFr s_101v.2.2.2.2 H6 H7 ∧ ((0 : Int) = 0 → H7.length = H6.length) ∧ hWt T0 H7) ∧ postb_101v n7 H6 H7) : nb_87 n0 H0 H7 := by
  unfold nb_87
  exact (fRow f6.1.2.1 46 (by decide +kernel)).trans ((show hV H6 46 = hV H5 46 from f5.2.2).trans ((fRow f4.1.2.1 46 (by decide +kernel)).trans ((fRow f3.1.2.1 46 (by decide +kernel)).trans ((show hV H3 46 = hV H2 46 from f2.2.2).trans ((fRow f1.1.2.1 46 (by decide +kernel)).trans (fRow f0.1.2.1 46 (by decide +kernel)))))))
def g_87vw_s_1 : vG := ([(1101, [7], [6, 7], 0), (1088, [0], [5, 6], 0), (1066, [0, 6], [4, 5], 0), (1100, [3], [3, 4], 0), (1092, [0], [2, 3], 0), (1099, [2], [1, 2], 0), (1066, [0, 1], [0, 1], 0)], (3000, [], [7], 50))
theorem c_87vw_s_1 : vOkm T0 (eN e_87v L_87vw A_87v mu_87v n_87 B_87 none) 1 g_87vw_s_1 := vOk_inI fun ρ η f0 f1 f2 f3 f4 f5 f6 => q_87vw_1 (n0 := ρ 0) (n1 := ρ 1) (n6 := ρ 6) (n7 := ρ 7) (H0 := η 0) (H1 := η 1) (H2 := η 2) (H3 := η 3) (H4 := η 4) (H5 := η 5) (H6 := η 6) (H7 := η 7) f6 f5 f4 f3 f2 f1 f0
def p_87vw_s : List vG := [g_87vw_s_0,
  g_87vw_s_1]
theorem r_87vw_s : vCovBO (eR0 e_87v L_87v cs_87v 2000) p_87vw_s = true := by decide +kernel
theorem m_87vw (d : Nat) : eC e_87vw (d + 5) := eC_ref (e := e_87v) (L := L_87v) (L' := L_87vw) (cs := cs_87v) (n := 2000) (d := d + 4) (A := A_87v) (μ := mu_87v) (tp := false) (p0 := p_87v_s) (p1 := p_87vw_s) (N := n_87) (B := B_87) rfl ⟨m_66v (d + 2), ⟨m_88vw d, ⟨m_92vw (d + 1), ⟨m_99 (d + 2), ⟨m_100 (d + 2), ⟨m_101v (d + 2), trivial⟩⟩⟩⟩⟩⟩ rfl (.inl rfl) (by decide +kernel) (fun z => nomatch z) r_87v_s (allC c_87v_s_0 (allC c_87v_s_1 (allC c_87v_s_2 (allC c_87v_s_3 (allC c_87v_s_4 (allC c_87v_s_5 (allC c_87v_s_6 (allC c_87v_s_7 allN)))))))) allN (sub0 (sub1 (sub1 (sub0 (sub0 (sub0 trivial)))))) r_87vw_s (allC c_87vw_s_0 (allC c_87vw_s_1 allN)) allN
/- Reader.readRules ()V, more fully -/
def nb_84 (a0 : Int) (h0 h : gH) : Prop := hV h 46 = hV h0 46
def n_84 : List Int → gH → gH → Prop := fun xs h0 h => match xs with
  | [a0] => nb_84 a0 h0 h
  | _ => True
noncomputable def e_84vw : vE := eV e_84v n_84
noncomputable def L_84vw : List vE := [e_64v, e_66v, e_85v, e_86v, e_87vw, e_97v]
def Bb_84_15 (a0 x0 x1 : Int) (h0 h : gH) : Prop := hV h 46 = hV h0 46
def B_84 : Int → List Int → gH → gH → Prop := fun c xs h0 h => match c.toNat with
  | 15 => (match xs with
    | [a0, x0, x1] => Bb_84_15 a0 x0 x1 h0 h
    | _ => False)
  | _ => True
theorem q_84vw_0 {n0 n1 n2 n3 : Int} {H0 H1 H2 : gH} (f0 : (hLe T0 H0 H1 ∧ hFr s_97v.2.2.2.2 H0 H1 ∧ ((0 : Int) = 0 → H1.length = H0.length) ∧ hWt T0 H1) ∧ postb_97v n1 H0 H1) (f1 : (hLe T0 H1 H2 ∧ hFr s_66v.2.2.2.2 H1 H2 ∧ ((0 : Int) = 0 → H2.length = H1.length) ∧ hWt T0 H2) ∧ postb_66v n0 n2 H1 H2) : Bb_84_15 n0 n0 n3 H0 H2 := by
  unfold Bb_84_15
  exact (fRow f1.1.2.1 46 (by decide +kernel)).trans (fRow f0.1.2.1 46 (by decide +kernel))
def g_84vw_s_0 : vG := ([(1066, [0, 2], [1, 2], 0), (1097, [1], [0, 1], 0)], (4000, [0, 3], [2], 15))
theorem c_84vw_s_0 : vOkm T0 (eN e_84v L_84vw A_84v mu_84v n_84 B_84 none) 1 g_84vw_s_0 := vOk_inI fun ρ η f0 f1 => q_84vw_0 (n0 := ρ 0) (n1 := ρ 1) (n2 := ρ 2) (n3 := ρ 3) (H0 := η 0) (H1 := η 1) (H2 := η 2) f1 f0
def p_84vw_s : List vG := [g_84vw_s_0]
theorem r_84vw_s : vCovBO (eR0 e_84v L_84v cs_84v 2000) p_84vw_s = true := by decide +kernel
theorem q_84vw_1 {q0 : Nat} {n0 n1 n2 n4 : Int} {H0 H1 H2 : gH} (f0 : (hLe T0 H0 H1 ∧ hFr s_84v.2.2.2.2 H0 H1 ∧ hWt T0 H1) ∧ ((Ab_84v_15 n2 n1 n0 H0 H1 ∧ Bb_84_15 n2 n1 n0 H0 H1) ∧ preb_84v n2 H0) ∧ some q0 = some (mub_84v_15 n2 n1 n0 H0 H1)) (f1 : (hLe T0 H1 H2 ∧ hFr s_66v.2.2.2.2 H1 H2 ∧ ((0 : Int) = 0 → H2.length = H1.length) ∧ hWt T0 H2) ∧ postb_66v n1 n4 H1 H2) : nb_84 n2 H0 H2 := by
  unfold nb_84
  exact (fRow f1.1.2.1 46 (by decide +kernel)).trans (show hV H1 46 = hV H0 46 from f0.2.1.1.2)
def g_84vw_15_0 : vG := ([(1066, [1, 4], [1, 2], 0), (5000, [0, 1, 2], [0, 1], 15)], (3000, [], [2], 95))
theorem c_84vw_15_0 {q0 : Nat} : vOkm T0 (eN e_84v L_84vw A_84v mu_84v n_84 B_84 (some q0)) 1 g_84vw_15_0 := vOk_inI fun ρ η f0 f1 => q_84vw_1 (q0 := q0) (n0 := ρ 2) (n1 := ρ 1) (n2 := ρ 0) (n4 := ρ 4) (H0 := η 0) (H1 := η 1) (H2 := η 2) f1 f0
theorem q_84vw_2 {q0 : Nat} {n0 n1 n2 n5 : Int} {H0 H1 H2 : gH} (f0 : (hLe T0 H0 H1 ∧ hFr s_84v.2.2.2.2 H0 H1 ∧ hWt T0 H1) ∧ ((Ab_84v_15 n2 n1 n0 H0 H1 ∧ Bb_84_15 n2 n1 n0 H0 H1) ∧ preb_84v n2 H0) ∧ some q0 = some (mub_84v_15 n2 n1 n0 H0 H1)) (f1 : (hLe T0 H1 H2 ∧ hFr s_66v.2.2.2.2 H1 H2 ∧ ((0 : Int) = 0 → H2.length = H1.length) ∧ hWt T0 H2) ∧ postb_66v n1 n5 H1 H2) : nb_84 n2 H0 H2 := by
  unfold nb_84
  exact (fRow f1.1.2.1 46 (by decide +kernel)).trans (show hV H1 46 = hV H0 46 from f0.2.1.1.2)
def g_84vw_15_1 : vG := ([(1066, [1, 5], [1, 2], 0), (5000, [0, 1, 2], [0, 1], 15)], (3000, [], [2], 95))
theorem c_84vw_15_1 {q0 : Nat} : vOkm T0 (eN e_84v L_84vw A_84v mu_84v n_84 B_84 (some q0)) 1 g_84vw_15_1 := vOk_inI fun ρ η f0 f1 => q_84vw_2 (q0 := q0) (n0 := ρ 2) (n1 := ρ 1) (n2 := ρ 0) (n5 := ρ 5) (H0 := η 0) (H1 := η 1) (H2 := η 2) f1 f0
theorem q_84vw_3 {q0 : Nat} {n0 n1 n2 n5 n6 n7 : Int} {H0 H1 H2 H3 : gH} (f0 : (hLe T0 H0 H1 ∧ hFr s_84v.2.2.2.2 H0 H1 ∧ hWt T0 H1) ∧ ((Ab_84v_15 n2 n1 n0 H0 H1 ∧ Bb_84_15 n2 n1 n0 H0 H1) ∧ preb_84v n2 H0) ∧ some q0 = some (mub_84v_15 n2 n1 n0 H0 H1)) (f1 : (hLe T0 H1 H2 ∧ hFr s_85v.2.2.2.2 H1 H2 ∧ ((0 : Int) = 0 → H2.length = H1.length) ∧ hWt T0 H2) ∧ postb_85v n6 n5 H1 H2) (f2 : (hLe T0 H2 H3 ∧ hFr s_66v.2.2.2.2 H2 H3 ∧ ((0 : Int) = 0 → H3.length = H2.length) ∧ hWt T0 H3) ∧ postb_66v n1 n7 H2 H3) : nb_84 n2 H0 H3 := by
  unfold nb_84
  exact (fRow f2.1.2.1 46 (by decide +kernel)).trans ((fRow f1.1.2.1 46 (by decide +kernel)).trans (show hV H1 46 = hV H0 46 from f0.2.1.1.2))
def g_84vw_15_2 : vG := ([(1066, [1, 7], [2, 3], 0), (1085, [6, 5], [1, 2], 0), (5000, [0, 1, 2], [0, 1], 15)], (3000, [], [3], 95))
theorem c_84vw_15_2 {q0 : Nat} : vOkm T0 (eN e_84v L_84vw A_84v mu_84v n_84 B_84 (some q0)) 1 g_84vw_15_2 := vOk_inI fun ρ η f0 f1 f2 => q_84vw_3 (q0 := q0) (n0 := ρ 2) (n1 := ρ 1) (n2 := ρ 0) (n5 := ρ 5) (n6 := ρ 6) (n7 := ρ 7) (H0 := η 0) (H1 := η 1) (H2 := η 2) (H3 := η 3) f2 f1 f0
theorem q_84vw_4 {q0 : Nat} {n0 n1 n2 n5 n6 n12 n13 : Int} {H0 H1 H2 H3 H4 : gH} (f0 : (hLe T0 H0 H1 ∧ hFr s_84v.2.2.2.2 H0 H1 ∧ hWt T0 H1) ∧ ((Ab_84v_15 n2 n1 n0 H0 H1 ∧ Bb_84_15 n2 n1 n0 H0 H1) ∧ preb_84v n2 H0) ∧ some q0 = some (mub_84v_15 n2 n1 n0 H0 H1)) (f1 : (hLe T0 H1 H2 ∧ hFr s_85v.2.2.2.2 H1 H2 ∧ ((0 : Int) = 0 → H2.length = H1.length) ∧ hWt T0 H2) ∧ postb_85v n6 n5 H1 H2) (f2 : (hLe T0 H2 H3 ∧ hFr s_86v.2.2.2.2 H2 H3 ∧ ((0 : Int) = 0 → H3.length = H2.length) ∧ hWt T0 H3) ∧ postb_86v n1 H2 H3) (f3 : (hLe T0 H3 H4 ∧ hFr s_66v.2.2.2.2 H3 H4 ∧ ((0 : Int) = 0 → H4.length = H3.length) ∧ hWt T0 H4) ∧ postb_66v n1 n12 H3 H4) : Bb_84_15 n2 n1 n13 H0 H4 := by
  unfold Bb_84_15
  exact (fRow f3.1.2.1 46 (by decide +kernel)).trans ((fRow f2.1.2.1 46 (by decide +kernel)).trans ((fRow f1.1.2.1 46 (by decide +kernel)).trans (show hV H1 46 = hV H0 46 from f0.2.1.1.2)))
def g_84vw_15_3 : vG := ([(1066, [1, 12], [3, 4], 0), (1086, [1], [2, 3], 0), (1085, [6, 5], [1, 2], 0), (5000, [0, 1, 2], [0, 1], 15)], (4000, [1, 13], [4], 15))
theorem c_84vw_15_3 {q0 : Nat} : vOkm T0 (eN e_84v L_84vw A_84v mu_84v n_84 B_84 (some q0)) 1 g_84vw_15_3 := vOk_inI fun ρ η f0 f1 f2 f3 => q_84vw_4 (q0 := q0) (n0 := ρ 2) (n1 := ρ 1) (n2 := ρ 0) (n5 := ρ 5) (n6 := ρ 6) (n12 := ρ 12) (n13 := ρ 13) (H0 := η 0) (H1 := η 1) (H2 := η 2) (H3 := η 3) (H4 := η 4) f3 f2 f1 f0
theorem q_84vw_5 {q0 : Nat} {n0 n1 n2 n5 n6 n12 n13 : Int} {H0 H1 H2 H3 H4 : gH} (f0 : (hLe T0 H0 H1 ∧ hFr s_84v.2.2.2.2 H0 H1 ∧ hWt T0 H1) ∧ ((Ab_84v_15 n2 n1 n0 H0 H1 ∧ Bb_84_15 n2 n1 n0 H0 H1) ∧ preb_84v n2 H0) ∧ some q0 = some (mub_84v_15 n2 n1 n0 H0 H1)) (f1 : (hLe T0 H1 H2 ∧ hFr s_85v.2.2.2.2 H1 H2 ∧ ((0 : Int) = 0 → H2.length = H1.length) ∧ hWt T0 H2) ∧ postb_85v n6 n5 H1 H2) (f2 : (hLe T0 H2 H3 ∧ hFr s_87v.2.2.2.2 H2 H3 ∧ ((0 : Int) = 0 → H3.length = H2.length) ∧ hWt T0 H3) ∧ (postb_87v n1 H2 H3 ∧ nb_87 n1 H2 H3)) (f3 : (hLe T0 H3 H4 ∧ hFr s_66v.2.2.2.2 H3 H4 ∧ ((0 : Int) = 0 → H4.length = H3.length) ∧ hWt T0 H4) ∧ postb_66v n1 n12 H3 H4) : Bb_84_15 n2 n1 n13 H0 H4 := by
  unfold Bb_84_15
  exact (fRow f3.1.2.1 46 (by decide +kernel)).trans ((show hV H3 46 = hV H2 46 from f2.2.2).trans ((fRow f1.1.2.1 46 (by decide +kernel)).trans (show hV H1 46 = hV H0 46 from f0.2.1.1.2)))
def g_84vw_15_4 : vG := ([(1066, [1, 12], [3, 4], 0), (1087, [1], [2, 3], 0), (1085, [6, 5], [1, 2], 0), (5000, [0, 1, 2], [0, 1], 15)], (4000, [1, 13], [4], 15))
theorem c_84vw_15_4 {q0 : Nat} : vOkm T0 (eN e_84v L_84vw A_84v mu_84v n_84 B_84 (some q0)) 1 g_84vw_15_4 := vOk_inI fun ρ η f0 f1 f2 f3 => q_84vw_5 (q0 := q0) (n0 := ρ 2) (n1 := ρ 1) (n2 := ρ 0) (n5 := ρ 5) (n6 := ρ 6) (n12 := ρ 12) (n13 := ρ 13) (H0 := η 0) (H1 := η 1) (H2 := η 2) (H3 := η 3) (H4 := η 4) f3 f2 f1 f0
theorem q_84vw_6 {q0 : Nat} {n0 n1 n2 n5 n6 n10 n11 n12 : Int} {H0 H1 H2 H3 H4 : gH} (f0 : (hLe T0 H0 H1 ∧ hFr s_84v.2.2.2.2 H0 H1 ∧ hWt T0 H1) ∧ ((Ab_84v_15 n2 n1 n0 H0 H1 ∧ Bb_84_15 n2 n1 n0 H0 H1) ∧ preb_84v n2 H0) ∧ some q0 = some (mub_84v_15 n2 n1 n0 H0 H1)) (f1 : (hLe T0 H1 H2 ∧ hFr s_85v.2.2.2.2 H1 H2 ∧ ((0 : Int) = 0 → H2.length = H1.length) ∧ hWt T0 H2) ∧ postb_85v n6 n5 H1 H2) (f2 : (hLe T0 H2 H3 ∧ hFr s_64v.2.2.2.2 H2 H3 ∧ ((0 : Int) = 0 → H3.length = H2.length) ∧ hWt T0 H3) ∧ postb_64v n1 n10 H2 H3) (f3 : (hLe T0 H3 H4 ∧ hFr s_66v.2.2.2.2 H3 H4 ∧ ((0 : Int) = 0 → H4.length = H3.length) ∧ hWt T0 H4) ∧ postb_66v n1 n11 H3 H4) : Bb_84_15 n2 n1 n12 H0 H4 := by
  unfold Bb_84_15
  exact (fRow f3.1.2.1 46 (by decide +kernel)).trans ((fRow f2.1.2.1 46 (by decide +kernel)).trans ((fRow f1.1.2.1 46 (by decide +kernel)).trans (show hV H1 46 = hV H0 46 from f0.2.1.1.2)))
def g_84vw_15_5 : vG := ([(1066, [1, 11], [3, 4], 0), (1064, [1, 10], [2, 3], 0), (1085, [6, 5], [1, 2], 0), (5000, [0, 1, 2], [0, 1], 15)], (4000, [1, 12], [4], 15))
theorem c_84vw_15_5 {q0 : Nat} : vOkm T0 (eN e_84v L_84vw A_84v mu_84v n_84 B_84 (some q0)) 1 g_84vw_15_5 := vOk_inI fun ρ η f0 f1 f2 f3 => q_84vw_6 (q0 := q0) (n0 := ρ 2) (n1 := ρ 1) (n2 := ρ 0) (n5 := ρ 5) (n6 := ρ 6) (n10 := ρ 10) (n11 := ρ 11) (n12 := ρ 12) (H0 := η 0) (H1 := η 1) (H2 := η 2) (H3 := η 3) (H4 := η 4) f3 f2 f1 f0
def p_84vw_15 : List vG := [g_84vw_15_0,
  g_84vw_15_1,
  g_84vw_15_2,
  g_84vw_15_3,
  g_84vw_15_4,
  g_84vw_15_5]
theorem r_84vw_15 : vCovBO (eRc e_84v L_84v cs_84v 2000 (15, [(0, (3, 4, 30, 0)), (1, (0, -2147483648, 2147483647, 0))])) p_84vw_15 = true := by decide +kernel
theorem m_84vw (d : Nat) : eC e_84vw (d + 6) := eC_ref (e := e_84v) (L := L_84v) (L' := L_84vw) (cs := cs_84v) (n := 2000) (d := d + 5) (A := A_84v) (μ := mu_84v) (tp := false) (p0 := p_84v_s) (p1 := p_84vw_s) (N := n_84) (B := B_84) rfl ⟨m_64v (d + 4), ⟨m_66v (d + 3), ⟨m_85v (d + 4), ⟨m_86v (d + 1), ⟨m_87vw d, ⟨m_97v (d + 4), trivial⟩⟩⟩⟩⟩⟩ rfl (.inl rfl) (by decide +kernel) (fun z => nomatch z) r_84v_s (allC c_84v_s_0 (allC c_84v_s_1 (allC c_84v_s_2 allN))) (allC (.inl ⟨p_84v_15, r_84v_15, fun q0 => (allC c_84v_15_0 (allC c_84v_15_1 (allC c_84v_15_2 (allC c_84v_15_3 (allC c_84v_15_4 (allC c_84v_15_5 (allC c_84v_15_6 (allC c_84v_15_7 (allC c_84v_15_8 (allC c_84v_15_9 (allC c_84v_15_10 (allC c_84v_15_11 (allC c_84v_15_12 (allC c_84v_15_13 (allC c_84v_15_14 allN)))))))))))))))⟩) allN) (sub0 (sub0 (sub0 (sub0 (sub1 (sub0 trivial)))))) r_84vw_s (allC c_84vw_s_0 allN) (allC ⟨p_84vw_15, r_84vw_15, fun q0 => (allC c_84vw_15_0 (allC c_84vw_15_1 (allC c_84vw_15_2 (allC c_84vw_15_3 (allC c_84vw_15_4 (allC c_84vw_15_5 allN))))))⟩ allN)
/- Reader.check ([II)I, more fully -/
def nb_60 (r a0 a1 a2 : Int) (h0 h : gH) : Prop := CK h0 → CUz h0 h ∧ (B16 h0 7 → B16 h 7) ∧ (r = 0 → hV h 30 7 = 0 → FIN (pTx (hV h0 8) a2) h)
def n_60 : List Int → gH → gH → Prop := fun xs h0 h => match xs with
  | [r, a0, a1, a2] => nb_60 r a0 a1 a2 h0 h
  | _ => True
noncomputable def e_60vw : vE := eV e_60v n_60
noncomputable def L_60vw : List vE := [e_61v, e_64v, e_66v, e_68v, e_69v, e_70v, e_72vw, e_84vw, e_125v]
def Bb_60_15 (a0 a1 a2 x0 x1 x2 x3 : Int) (h0 h : gH) : Prop := CK h0 → CUz h0 h ∧ (B16 h0 7 → B16 h 7) ∧ (hV h 30 3 = 0 → lsB h (x3).toNat ++ pDb (pTx (hV h0 8) a2) (6 - (x3).toNat) (absC h) (BLc h) = pDb (pTx (hV h0 8) a2) 6 (0, 0) [] ∧ B16 h (x3).toNat)
def Bb_60_55 (a0 a1 a2 x0 x1 x2 x3 : Int) (h0 h : gH) : Prop := CK h0 → CUz h0 h ∧ (B16 h0 7 → B16 h 7) ∧ (hV h 30 3 = 0 → lsB h (hV h 30 13).toNat = pDb (pTx (hV h0 8) a2) 6 (0, 0) [] ∧ B16 h (hV h 30 13).toNat)
def Bb_60_89 (a0 a1 a2 x0 x1 x2 x3 : Int) (h0 h : gH) : Prop := CK h0 → CUz h0 h ∧ (B16 h0 7 → B16 h 7) ∧ (hV h 30 3 = 0 → ¬ (pTx (hV h0 8) a2).1 0 = 19 → FIN (pTx (hV h0 8) a2) h)
def B_60 : Int → List Int → gH → gH → Prop := fun c xs h0 h => match c.toNat with
  | 15 => (match xs with
    | [a0, a1, a2, x0, x1, x2, x3] => Bb_60_15 a0 a1 a2 x0 x1 x2 x3 h0 h
    | _ => False)
  | 55 => (match xs with
    | [a0, a1, a2, x0, x1, x2, x3] => Bb_60_55 a0 a1 a2 x0 x1 x2 x3 h0 h
    | _ => False)
  | 89 => (match xs with
    | [a0, a1, a2, x0, x1, x2, x3] => Bb_60_89 a0 a1 a2 x0 x1 x2 x3 h0 h
    | _ => False)
  | _ => True
theorem q_60vw_0 {n0 n1 n2 n3 n4 : Int} {H0 H1 H2 : gH} (f0 : n0 ≤ 2147483647) (f1 : (-2147483648) ≤ n0) (f2 : n1 = 30) (f3 : hWt T0 H0 ∧ preb_60v n1 n2 n0 H0) (f4 : n3 = 31) (f5 : hK H0 (n1).toNat = 4) (f6 : n3 = hV H0 (n1).toNat 0) (f7 : (hLe T0 H0 H1 ∧ hFr s_125v.2.2.2.2 H0 H1 ∧ ((0 : Int) = 0 → H1.length = H0.length) ∧ hWt T0 H1) ∧ postb_125v n3 n2 n0 H0 H1) (f8 : (hLe T0 H1 H2 ∧ hFr s_61v.2.2.2.2 H1 H2 ∧ ((0 : Int) = 0 → H2.length = H1.length) ∧ hWt T0 H2) ∧ postb_61v n1 H1 H2) (f9 : n4 = 0) : Bb_60_15 n1 n2 n0 n1 n2 n0 n4 H0 H2 := by
  unfold Bb_60_15
  intro ck
  have st := f8.2
  unfold postb_61v at st
  obtain ⟨t1, t2, t3, t4, t5, t6, t7⟩ := st
  have co : CUo H0 H2 (-1) := (CUo_tr (CUo_fr f7.1.1 f7.1.2.1 (by decide +kernel)) (CUo_fr f8.1.1 f8.1.2.1 (by decide +kernel)))
  refine ⟨CUz_of co, B16_eq ((fRow f8.1.2.1 46 (by decide +kernel)).trans (fRow f7.1.2.1 46 (by decide +kernel))), fun _ => ⟨?_, fun b hb => by omega⟩⟩
  rw [t2, t4, show (n4).toNat = 0 by omega]
  rfl
def g_60vw_s_0 : vG := ([(0, [4], [], 0), (1061, [0], [1, 2], 0), (1125, [3, 1, 2], [0, 1], 0), (20, [3, 0], [0], 0), (23, [0], [0], 4), (0, [3], [], 31), (6000, [0, 1, 2], [0], 0), (0, [0], [], 30), (90, [2], [], -2147483648), (91, [2], [], 2147483647)], (4000, [0, 1, 2, 4], [2], 15))
theorem c_60vw_s_0 : vOkm T0 (eN e_60v L_60vw A_60v mu_60v n_60 B_60 none) 3 g_60vw_s_0 := vOk_inI fun ρ η f0 f1 f2 f3 f4 f5 f6 f7 f8 f9 => q_60vw_0 (n0 := ρ 2) (n1 := ρ 0) (n2 := ρ 1) (n3 := ρ 3) (n4 := ρ 4) (H0 := η 0) (H1 := η 1) (H2 := η 2) f9 f8 f7 f6 f5 f4 f3 f2 f1 f0
def p_60vw_s : List vG := [g_60vw_s_0]
theorem r_60vw_s : vCovBO (eR0 e_60v L_60v cs_60v 2000) p_60vw_s = true := by decide +kernel
theorem q_60vw_1 {q0 : Nat} {n0 n1 n2 n3 n4 n5 n6 n7 : Int} {H0 H1 : gH} (f0 : n0 ≤ 2147483647) (f1 : (-2147483648) ≤ n0) (f2 : n1 ≤ 2147483647) (f3 : (-2147483648) ≤ n1) (f4 : n2 = 30) (f5 : n3 ≤ 2147483647) (f6 : (-2147483648) ≤ n3) (f7 : n4 = 30) (f8 : (hLe T0 H0 H1 ∧ hFr s_60v.2.2.2.2 H0 H1 ∧ hWt T0 H1) ∧ ((Ab_60v_15 n4 n5 n3 n2 n6 n1 n0 H0 H1 ∧ Bb_60_15 n4 n5 n3 n2 n6 n1 n0 H0 H1) ∧ preb_60v n4 n5 n3 H0) ∧ some q0 = some (mub_60v_15 n4 n5 n3 n2 n6 n1 n0 H0 H1)) (f9 : n7 = 6) (f10 : n7 < n0) : Bb_60_55 n4 n5 n3 n2 n6 n1 n0 H0 H1 := by
  unfold Bb_60_55
  intro ck
  have pz := f8.2.1.2
  unfold preb_60v at pz
  have ga := f8.2.1.1.1
  unfold Ab_60v_15 at ga
  have gb := f8.2.1.1.2
  unfold Bb_60_15 at gb
  obtain ⟨gu, g7, gf⟩ := gb ck
  have ck1 := CK_fr f8.1.1 f8.1.2.1 (by decide +kernel) ck
  obtain ⟨kz, bz, cz, dz, vz, wz, x30, x37, x13, ir, yb, yt⟩ := ga
  have wk : wOK (pTx (hV H0 8) n3) := by
    rw [← vz]
    exact vwC_ok H1
  have ns : ¬ (pTx (hV H0 8) n3).1 (absC H1).1 = 16 := by
    exact vneg wk (absC_neg kz (fun w => by have := x13 w; have := bz.2.2.1; omega)) (by decide)
  refine ⟨gu, g7, fun hf => ?_⟩
  obtain ⟨g1, g2⟩ := gf hf
  rw [pDb_stop ns, List.append_nil] at g1
  rw [x13 hf]
  exact ⟨g1, g2⟩
def g_60vw_15_0 : vG := ([(44, [6, 7], [], 0), (0, [7], [], 6), (5000, [0, 1, 2, 3, 4, 5, 6], [0, 1], 15), (0, [0], [], 30), (90, [2], [], -2147483648), (91, [2], [], 2147483647), (0, [3], [], 30), (90, [5], [], -2147483648), (91, [5], [], 2147483647), (90, [6], [], -2147483648), (91, [6], [], 2147483647)], (4000, [3, 4, 5, 6], [1], 55))
theorem c_60vw_15_0 {q0 : Nat} : vOkm T0 (eN e_60v L_60vw A_60v mu_60v n_60 B_60 (some q0)) 3 g_60vw_15_0 := vOk_inI fun ρ η f0 f1 f2 f3 f4 f5 f6 f7 f8 f9 f10 => q_60vw_1 (q0 := q0) (n0 := ρ 6) (n1 := ρ 5) (n2 := ρ 3) (n3 := ρ 2) (n4 := ρ 0) (n5 := ρ 1) (n6 := ρ 4) (n7 := ρ 7) (H0 := η 0) (H1 := η 1) f10 f9 f8 f7 f6 f5 f4 f3 f2 f1 f0
theorem q_60vw_2 {q0 : Nat} {n0 n1 n2 n3 n4 n5 n6 n7 n8 : Int} {H0 H1 : gH} (f0 : n0 ≤ 2147483647) (f1 : (-2147483648) ≤ n0) (f2 : n1 ≤ 2147483647) (f3 : (-2147483648) ≤ n1) (f4 : n2 = 30) (f5 : n3 ≤ 2147483647) (f6 : (-2147483648) ≤ n3) (f7 : n4 = 30) (f8 : (hLe T0 H0 H1 ∧ hFr s_60v.2.2.2.2 H0 H1 ∧ hWt T0 H1) ∧ ((Ab_60v_15 n4 n5 n3 n2 n6 n1 n0 H0 H1 ∧ Bb_60_15 n4 n5 n3 n2 n6 n1 n0 H0 H1) ∧ preb_60v n4 n5 n3 H0) ∧ some q0 = some (mub_60v_15 n4 n5 n3 n2 n6 n1 n0 H0 H1)) (f9 : n7 = 6) (f10 : n0 ≤ n7) (f11 : n8 ≤ 2147483647) (f12 : (-2147483648) ≤ n8) (f13 : hK H1 (n2).toNat = 4) (f14 : n8 = hV H1 (n2).toNat 3) (f15 : n8 ≠ 0) : Bb_60_55 n4 n5 n3 n2 n6 n1 n0 H0 H1 := by
  unfold Bb_60_55
  intro ck
  have pz := f8.2.1.2
  unfold preb_60v at pz
  have ga := f8.2.1.1.1
  unfold Ab_60v_15 at ga
  have gb := f8.2.1.1.2
  unfold Bb_60_15 at gb
  obtain ⟨gu, g7, gf⟩ := gb ck
  have ck1 := CK_fr f8.1.1 f8.1.2.1 (by decide +kernel) ck
  obtain ⟨kz, bz, cz, dz, vz, wz, x30, x37, x13, ir, yb, yt⟩ := ga
  have wk : wOK (pTx (hV H0 8) n3) := by
    rw [← vz]
    exact vwC_ok H1
  have r3 := f14
  rw [f4] at r3
  rw [show ((30 : Int)).toNat = 30 from rfl] at r3
  have ns : ¬ (pTx (hV H0 8) n3).1 (absC H1).1 = 16 := by
    exact vneg wk (absC_neg kz (by omega)) (by decide)
  refine ⟨gu, g7, fun hf => ?_⟩
  obtain ⟨g1, g2⟩ := gf hf
  rw [pDb_stop ns, List.append_nil] at g1
  rw [x13 hf]
  exact ⟨g1, g2⟩
def g_60vw_15_1 : vG := ([(31, [8], [], 0), (20, [8, 3], [1], 3), (23, [3], [1], 4), (90, [8], [], -2147483648), (91, [8], [], 2147483647), (45, [6, 7], [], 0), (0, [7], [], 6), (5000, [0, 1, 2, 3, 4, 5, 6], [0, 1], 15), (0, [0], [], 30), (90, [2], [], -2147483648), (91, [2], [], 2147483647), (0, [3], [], 30), (90, [5], [], -2147483648), (91, [5], [], 2147483647), (90, [6], [], -2147483648), (91, [6], [], 2147483647)], (4000, [3, 4, 5, 6], [1], 55))
theorem c_60vw_15_1 {q0 : Nat} : vOkm T0 (eN e_60v L_60vw A_60v mu_60v n_60 B_60 (some q0)) 3 g_60vw_15_1 := vOk_inI fun ρ η f0 f1 f2 f3 f4 f5 f6 f7 f8 f9 f10 f11 f12 f13 f14 f15 => q_60vw_2 (q0 := q0) (n0 := ρ 6) (n1 := ρ 5) (n2 := ρ 3) (n3 := ρ 2) (n4 := ρ 0) (n5 := ρ 1) (n6 := ρ 4) (n7 := ρ 7) (n8 := ρ 8) (H0 := η 0) (H1 := η 1) f15 f14 f13 f12 f11 f10 f9 f8 f7 f6 f5 f4 f3 f2 f1 f0
theorem q_60vw_3 {q0 : Nat} {n0 n1 n2 n3 n4 n5 n6 n7 n8 n9 n10 : Int} {H0 H1 : gH} (f0 : n0 ≤ 2147483647) (f1 : (-2147483648) ≤ n0) (f2 : n1 ≤ 2147483647) (f3 : (-2147483648) ≤ n1) (f4 : n2 = 30) (f5 : n3 ≤ 2147483647) (f6 : (-2147483648) ≤ n3) (f7 : n4 = 30) (f8 : (hLe T0 H0 H1 ∧ hFr s_60v.2.2.2.2 H0 H1 ∧ hWt T0 H1) ∧ ((Ab_60v_15 n4 n5 n3 n2 n6 n1 n0 H0 H1 ∧ Bb_60_15 n4 n5 n3 n2 n6 n1 n0 H0 H1) ∧ preb_60v n4 n5 n3 H0) ∧ some q0 = some (mub_60v_15 n4 n5 n3 n2 n6 n1 n0 H0 H1)) (f9 : n7 = 6) (f10 : n0 ≤ n7) (f11 : n8 ≤ 2147483647) (f12 : (-2147483648) ≤ n8) (f13 : hK H1 (n2).toNat = 4) (f14 : n8 = hV H1 (n2).toNat 3) (f15 : n8 = 0) (f16 : n9 ≤ 2147483647) (f17 : (-2147483648) ≤ n9) (f18 : hK H1 (n2).toNat = 4) (f19 : n9 = hV H1 (n2).toNat 2) (f20 : n10 = 16) (f21 : n9 ≠ n10) : Bb_60_55 n4 n5 n3 n2 n6 n1 n0 H0 H1 := by
  unfold Bb_60_55
  intro ck
  have pz := f8.2.1.2
  unfold preb_60v at pz
  have ga := f8.2.1.1.1
  unfold Ab_60v_15 at ga
  have gb := f8.2.1.1.2
  unfold Bb_60_15 at gb
  obtain ⟨gu, g7, gf⟩ := gb ck
  have ck1 := CK_fr f8.1.1 f8.1.2.1 (by decide +kernel) ck
  obtain ⟨kz, bz, cz, dz, vz, wz, x30, x37, x13, ir, yb, yt⟩ := ga
  have wk : wOK (pTx (hV H0 8) n3) := by
    rw [← vz]
    exact vwC_ok H1
  have r3 := f14
  rw [f4] at r3
  rw [show ((30 : Int)).toNat = 30 from rfl] at r3
  have r2 := f19
  rw [f4] at r2
  rw [show ((30 : Int)).toNat = 30 from rfl] at r2
  have ns : ¬ (pTx (hV H0 8) n3).1 (absC H1).1 = 16 := by
    have kd := kd_at kz
    rw [vz] at kd
    rcases kd with q | q
    · exact vneg wk q (by decide)
    · rw [q]
      omega
  refine ⟨gu, g7, fun hf => ?_⟩
  obtain ⟨g1, g2⟩ := gf hf
  rw [pDb_stop ns, List.append_nil] at g1
  rw [x13 hf]
  exact ⟨g1, g2⟩
def g_60vw_15_2 : vG := ([(41, [9, 10], [], 0), (0, [10], [], 16), (20, [9, 3], [1], 2), (23, [3], [1], 4), (90, [9], [], -2147483648), (91, [9], [], 2147483647), (30, [8], [], 0), (20, [8, 3], [1], 3), (23, [3], [1], 4), (90, [8], [], -2147483648), (91, [8], [], 2147483647), (45, [6, 7], [], 0), (0, [7], [], 6), (5000, [0, 1, 2, 3, 4, 5, 6], [0, 1], 15), (0, [0], [], 30), (90, [2], [], -2147483648), (91, [2], [], 2147483647), (0, [3], [], 30), (90, [5], [], -2147483648), (91, [5], [], 2147483647), (90, [6], [], -2147483648), (91, [6], [], 2147483647)], (4000, [3, 4, 5, 6], [1], 55))
theorem c_60vw_15_2 {q0 : Nat} : vOkm T0 (eN e_60v L_60vw A_60v mu_60v n_60 B_60 (some q0)) 3 g_60vw_15_2 := vOk_inI fun ρ η f0 f1 f2 f3 f4 f5 f6 f7 f8 f9 f10 f11 f12 f13 f14 f15 f16 f17 f18 f19 f20 f21 => q_60vw_3 (q0 := q0) (n0 := ρ 6) (n1 := ρ 5) (n2 := ρ 3) (n3 := ρ 2) (n4 := ρ 0) (n5 := ρ 1) (n6 := ρ 4) (n7 := ρ 7) (n8 := ρ 8) (n9 := ρ 9) (n10 := ρ 10) (H0 := η 0) (H1 := η 1) f21 f20 f19 f18 f17 f16 f15 f14 f13 f12 f11 f10 f9 f8 f7 f6 f5 f4 f3 f2 f1 f0
theorem q_60vw_4 {q0 : Nat} {n0 n1 n2 n3 n4 n5 n6 n7 n8 n9 n10 n11 : Int} {H0 H1 H2 H3 H4 : gH} (f0 : n0 ≤ 2147483647) (f1 : (-2147483648) ≤ n0) (f2 : n1 ≤ 2147483647) (f3 : (-2147483648) ≤ n1) (f4 : n2 = 30) (f5 : n3 ≤ 2147483647) (f6 : (-2147483648) ≤ n3) (f7 : n4 = 30) (f8 : (hLe T0 H0 H1 ∧ hFr s_60v.2.2.2.2 H0 H1 ∧ hWt T0 H1) ∧ ((Ab_60v_15 n4 n5 n3 n2 n6 n1 n0 H0 H1 ∧ Bb_60_15 n4 n5 n3 n2 n6 n1 n0 H0 H1) ∧ preb_60v n4 n5 n3 H0) ∧ some q0 = some (mub_60v_15 n4 n5 n3 n2 n6 n1 n0 H0 H1)) (f9 : n7 = 6) (f10 : n0 ≤ n7) (f11 : n8 ≤ 2147483647) (f12 : (-2147483648) ≤ n8) (f13 : hK H1 (n2).toNat = 4) (f14 : n8 = hV H1 (n2).toNat 3) (f15 : n8 = 0) (f16 : n9 ≤ 2147483647) (f17 : (-2147483648) ≤ n9) (f18 : hK H1 (n2).toNat = 4) (f19 : n9 = hV H1 (n2).toNat 2) (f20 : n10 = 16) (f21 : n9 = n10) (f22 : (hLe T0 H1 H2 ∧ hFr s_68v.2.2.2.2 H1 H2 ∧ ((0 : Int) = 0 → H2.length = H1.length) ∧ hWt T0 H2) ∧ postb_68v n2 H1 H2) (f23 : (hLe T0 H2 H3 ∧ hFr s_72v.2.2.2.2 H2 H3 ∧ ((0 : Int) = 0 → H3.length = H2.length) ∧ hWt T0 H3) ∧ (postb_72v n2 H2 H3 ∧ nb_72 n2 H2 H3)) (f24 : (hLe T0 H3 H4 ∧ hFr s_69v.2.2.2.2 H3 H4 ∧ ((0 : Int) = 0 → H4.length = H3.length) ∧ hWt T0 H4) ∧ postb_69v n2 H3 H4) (f25 : n11 = w32 (n0 + 1)) : Bb_60_15 n4 n5 n3 n2 n6 n1 n11 H0 H4 := by
  unfold Bb_60_15
  intro ck
  have pz := f8.2.1.2
  unfold preb_60v at pz
  have ga := f8.2.1.1.1
  unfold Ab_60v_15 at ga
  have gb := f8.2.1.1.2
  unfold Bb_60_15 at gb
  obtain ⟨gu, g7, gf⟩ := gb ck
  have ck1 := CK_fr f8.1.1 f8.1.2.1 (by decide +kernel) ck
  obtain ⟨kz, bz, cz, dz, vz, wz, x30, x37, x13, ir, yb, yt⟩ := ga
  have wk : wOK (pTx (hV H0 8) n3) := by
    rw [← vz]
    exact vwC_ok H1
  have r3 := f14
  rw [f4] at r3
  rw [show ((30 : Int)).toNat = 30 from rfl] at r3
  have r2 := f19
  rw [f4] at r2
  rw [show ((30 : Int)).toNat = 30 from rfl] at r2
  have pb := f22.2
  unfold postb_68v at pb
  obtain ⟨b1, b2, b3, b4, b5, b6, b7⟩ := pb
  rw [vz] at b6 b7
  have v2 : vwC H2 = (pTx (hV H0 8) n3) := (vwC_fr f22.1.2.1 (by decide +kernel)).trans vz
  have pc := f23.2.1
  unfold postb_72v at pc
  obtain ⟨c1, c2, c3, c4, c5, c6, c7, c8⟩ := pc
  have v3 : vwC H3 = (pTx (hV H0 8) n3) := (vwC_fr f23.1.2.1 (by decide +kernel)).trans v2
  have pe := f24.2
  unfold postb_69v at pe
  obtain ⟨e1, e2, e3, e4, e5, e6, e7⟩ := pe
  rw [v3] at e2
  have wq25 := f25
  unfold w32 at wq25
  have ck2 := CK_fr f22.1.1 f22.1.2.1 (by decide +kernel) ck1
  have nc := f23.2.2
  unfold nb_72 at nc
  obtain ⟨nq1, nq2, nq7, nq3⟩ := nc ck2
  rw [b4] at nq1 nq2 nq3
  have co1 : CUo H1 H2 (-1) := CUo_fr f22.1.1 f22.1.2.1 (by decide +kernel)
  have co3 : CUo H3 H4 (-1) := CUo_fr f24.1.1 f24.1.2.1 (by decide +kernel)
  have r12 : hV H2 46 = hV H1 46 := fRow f22.1.2.1 46 (by decide +kernel)
  have r34 : hV H4 46 = hV H3 46 := fRow f24.1.2.1 46 (by decide +kernel)
  refine ⟨CUz_tr gu (CUz_tr (CUz_of co1) (CUz_tr (CUz_q (by have := bz.2.2.1; omega) nq1) (CUz_of co3))), fun z => B16_eq r34 (nq7 (B16_eq r12 (g7 z))), fun hf => ?_⟩
  have f3 := (fzE c1 e1 rfl e2 (fun n k => ptk_neg n k) hf).1
  have q3 := (absC_pos c1 f3).2
  rw [c7] at q3
  have q2 : 0 ≤ (absC H2).1 := by
    rcases Int.lt_or_le (absC H2).1 0 with w | w
    · rw [pCues_neg (vwC_ok H2) w] at q3
      exact q3
    · exact w
  have f2 := fault_no b1 q2
  have w6 : hV H1 30 13 < 6 := by
    rcases Int.lt_or_le (hV H1 30 13) 6 with w | w
    · exact w
    · rw [b7 w] at q2
      have n := pfail_lt kz (f := 2) (by decide) (p := absC H1)
      rw [vz] at n
      omega
  have f1 : hV H1 30 3 = 0 := by omega
  have xx := x13 f1
  have y1 := bz.2.1
  have hk : (pTx (hV H0 8) n3).1 (absC H1).1 = 16 := by
    have u := (kd_at kz).resolve_left (by have := absC_pos kz f1; omega)
    rw [vz] at u
    rw [u]
    omega
  obtain ⟨g1, g2⟩ := gf f1
  obtain ⟨m1, m2, m3⟩ := nq3 f3
  rw [v2, b3, (b6 w6).1] at m3
  have ct := c8 f3
  have nm := ((b6 w6).2 f2).2
  rw [v2, b3, b4, (b6 w6).1] at ct
  have ta : BLc H4 = BLc H1 ++ [pBsz (pTx (hV H0 8) n3) (BLc H1) (absC H1)] := by
    rw [(e4 hf).2, c3, b3, c4, b4, c6, nm, ct.2.2]
    rfl
  have lo : absC H4 = pBlock (pTx (hV H0 8) n3) (BLc H1) (absC H1) := by
    rw [e2, c7, v2, b3, (b6 w6).1]
    rfl
  have ls : lsB H4 (n0).toNat = lsB H1 (n0).toNat := lsB_eq (fun b hb => ⟨by rw [r34, (nq2 b (by omega)).1, r12], fun k hk_ s => by
    have kq := C45_k ck1.1 cz (b := b) (k := k) (by omega) hk_
    have a1 := co1 _ kq
    have a2 := nq1 _ a1.1
    have a3 := co3 _ a2.1
    rw [a3.2 (by omega) s, a2.2 (fun k2 hk2 => by unfold cuP; omega) s, a1.2 (by omega) s]⟩) (fun b hb => by rw [r34, (nq2 b (by omega)).1, r12]; exact g2 b hb)
  have lc : lsC H4 (hV H1 30 13).toNat (hV H3 46 (hV H1 30 13).toNat).toNat = lsC H3 (hV H1 30 13).toNat (hV H3 46 (hV H1 30 13).toNat).toNat := lsC_eq (fun k hk_ s => (co3 _ (C45_k (CK_fr f23.1.1 f23.1.2.1 (by decide +kernel) ck2).1 c5 (by omega) (by omega))).2 (by omega) s)
  rw [pDb_step_at (n := (n0).toNat) hk (by omega), ← ta, ← lo, ← m3, ← lc] at g1
  refine ⟨?_, fun b hb => ?_⟩
  · rw [show (n11).toNat = (n0).toNat + 1 by omega, lsB_snoc, ls, r34, show (n0).toNat = (hV H1 30 13).toNat by omega]
    rw [show (n0).toNat = (hV H1 30 13).toNat by omega] at g1
    exact g1
  · rw [r34]
    by_cases hb2 : (b : Int) = hV H1 30 13
    · rw [show b = (hV H1 30 13).toNat by omega]
      exact ⟨m1, m2⟩
    · rw [(nq2 b hb2).1, r12]
      exact g2 b (by omega)
def g_60vw_15_3 : vG := ([(10, [11, 6], [], 1), (1069, [3], [3, 4], 0), (1072, [3], [2, 3], 0), (1068, [3], [1, 2], 0), (40, [9, 10], [], 0), (0, [10], [], 16), (20, [9, 3], [1], 2), (23, [3], [1], 4), (90, [9], [], -2147483648), (91, [9], [], 2147483647), (30, [8], [], 0), (20, [8, 3], [1], 3), (23, [3], [1], 4), (90, [8], [], -2147483648), (91, [8], [], 2147483647), (45, [6, 7], [], 0), (0, [7], [], 6), (5000, [0, 1, 2, 3, 4, 5, 6], [0, 1], 15), (0, [0], [], 30), (90, [2], [], -2147483648), (91, [2], [], 2147483647), (0, [3], [], 30), (90, [5], [], -2147483648), (91, [5], [], 2147483647), (90, [6], [], -2147483648), (91, [6], [], 2147483647)], (4000, [3, 4, 5, 11], [4], 15))
theorem c_60vw_15_3 {q0 : Nat} : vOkm T0 (eN e_60v L_60vw A_60v mu_60v n_60 B_60 (some q0)) 3 g_60vw_15_3 := vOk_inI fun ρ η f0 f1 f2 f3 f4 f5 f6 f7 f8 f9 f10 f11 f12 f13 f14 f15 f16 f17 f18 f19 f20 f21 f22 f23 f24 f25 => q_60vw_4 (q0 := q0) (n0 := ρ 6) (n1 := ρ 5) (n2 := ρ 3) (n3 := ρ 2) (n4 := ρ 0) (n5 := ρ 1) (n6 := ρ 4) (n7 := ρ 7) (n8 := ρ 8) (n9 := ρ 9) (n10 := ρ 10) (n11 := ρ 11) (H0 := η 0) (H1 := η 1) (H2 := η 2) (H3 := η 3) (H4 := η 4) f25 f24 f23 f22 f21 f20 f19 f18 f17 f16 f15 f14 f13 f12 f11 f10 f9 f8 f7 f6 f5 f4 f3 f2 f1 f0
def p_60vw_15 : List vG := [g_60vw_15_0,
  g_60vw_15_1,
  g_60vw_15_2,
  g_60vw_15_3]
theorem r_60vw_15 : vCovBO (eRc e_60v L_60v cs_60v 2000 (15, [(0, (3, 4, 30, 0)), (1, (2, 692, -1, 0)), (2, (0, -2147483648, 2147483647, 0)), (3, (0, -2147483648, 2147483647, 0))])) p_60vw_15 = true := by decide +kernel
theorem q_60vw_5 {q0 : Nat} {n0 n1 n2 n3 n4 n5 n6 n7 n8 n9 : Int} {H0 H1 H2 H3 H4 : gH} (f0 : n0 ≤ 2147483647) (f1 : (-2147483648) ≤ n0) (f2 : n1 ≤ 2147483647) (f3 : (-2147483648) ≤ n1) (f4 : n2 = 30) (f5 : n3 ≤ 2147483647) (f6 : (-2147483648) ≤ n3) (f7 : n4 = 30) (f8 : (hLe T0 H0 H1 ∧ hFr s_60v.2.2.2.2 H0 H1 ∧ hWt T0 H1) ∧ ((Ab_60v_55 n4 n5 n3 n2 n6 n1 n0 H0 H1 ∧ Bb_60_55 n4 n5 n3 n2 n6 n1 n0 H0 H1) ∧ preb_60v n4 n5 n3 H0) ∧ some q0 = some (mub_60v_55 n4 n5 n3 n2 n6 n1 n0 H0 H1)) (f9 : n7 ≤ 1) (f10 : 0 ≤ n7) (f11 : hK H1 (n2).toNat = 4) (f12 : n7 = hV H1 (n2).toNat 7) (f13 : n7 = 0) (f14 : n8 ≤ 2147483647) (f15 : (-2147483648) ≤ n8) (f16 : hK H1 (n2).toNat = 4) (f17 : n8 = hV H1 (n2).toNat 1) (f18 : n9 = 18) (f19 : (hLe T0 H1 H2 ∧ hFr s_66v.2.2.2.2 H1 H2 ∧ ((0 : Int) = 0 → H2.length = H1.length) ∧ hWt T0 H2) ∧ postb_66v n2 n9 H1 H2) (f20 : (hLe T0 H2 H3 ∧ hFr s_72v.2.2.2.2 H2 H3 ∧ ((0 : Int) = 0 → H3.length = H2.length) ∧ hWt T0 H3) ∧ (postb_72v n2 H2 H3 ∧ nb_72 n2 H2 H3)) (f21 : (hLe T0 H3 H4 ∧ hFr s_70v.2.2.2.2 H3 H4 ∧ ((0 : Int) = 0 → H4.length = H3.length) ∧ hWt T0 H4) ∧ postb_70v n2 n8 H3 H4) : Bb_60_89 n4 n5 n3 n2 n6 n1 n8 H0 H4 := by
  unfold Bb_60_89
  intro ck
  have pz := f8.2.1.2
  unfold preb_60v at pz
  have ga := f8.2.1.1.1
  unfold Ab_60v_55 at ga
  have gb := f8.2.1.1.2
  unfold Bb_60_55 at gb
  obtain ⟨gu, g7, gf⟩ := gb ck
  have ck1 := CK_fr f8.1.1 f8.1.2.1 (by decide +kernel) ck
  obtain ⟨kz, bz, cz, dz, vz, wz, ir, yb, yt⟩ := ga
  have wk : wOK (pTx (hV H0 8) n3) := by
    rw [← vz]
    exact vwC_ok H1
  have r7 := f12
  rw [f4] at r7
  rw [show ((30 : Int)).toNat = 30 from rfl] at r7
  have r1 := f17
  rw [f4] at r1
  rw [show ((30 : Int)).toNat = 30 from rfl] at r1
  have pt := f19.2
  unfold postb_66v at pt
  rw [f18, vz] at pt
  have bt := BI_fr f19.1.1 f19.1.2.1 (by decide +kernel) bz
  have v2 : vwC H2 = (pTx (hV H0 8) n3) := (vwC_fr f19.1.2.1 (by decide +kernel)).trans vz
  have pc := f20.2.1
  unfold postb_72v at pc
  obtain ⟨c1, c2, c3, c4, c5, c6, c7, c8⟩ := pc
  have pe := f21.2
  unfold postb_70v at pe
  have ck2 := CK_fr f19.1.1 f19.1.2.1 (by decide +kernel) ck1
  have b4 : hV H2 30 13 = hV H1 30 13 := f19.1.2.1.1 30 13 (by decide +kernel)
  have nc := f20.2.2
  unfold nb_72 at nc
  obtain ⟨nq1, nq2, nq7, nq3⟩ := nc ck2
  rw [b4] at nq1 nq2 nq3
  have co1 : CUo H1 H2 (-1) := CUo_fr f19.1.1 f19.1.2.1 (by decide +kernel)
  have co3 : CUo H3 H4 (-1) := CUo_fr f21.1.1 f21.1.2.1 (by decide +kernel)
  have r12 : hV H2 46 = hV H1 46 := fRow f19.1.2.1 46 (by decide +kernel)
  have r34 : hV H4 46 = hV H3 46 := fRow f21.1.2.1 46 (by decide +kernel)
  have y1 := bz.2.1
  have y6 := bz.2.2.1
  refine ⟨CUz_tr gu (CUz_tr (CUz_of co1) (CUz_tr (CUz_q (by omega) nq1) (CUz_of co3))), fun z => B16_eq r34 (nq7 (B16_eq r12 (g7 z))), fun hf n19 => ?_⟩
  have f3 : hV H3 30 3 = 0 := by
    have q := (absC_pos pe.1 hf).2
    refine fault_no c1 ?_
    rw [pe.2] at q
    rcases Int.lt_or_le (absC H3).1 0 with w | w
    · split at q
      · rw [ptk_neg w (absC_ok c1), pbl_neg w] at q
        exact q
      · rw [ptk_neg w (absC_ok c1)] at q
        exact q
    · exact w
  have q3 := (absC_pos c1 f3).2
  rw [c7] at q3
  have q2 : 0 ≤ (absC H2).1 := by
    rcases Int.lt_or_le (absC H2).1 0 with w | w
    · rw [pCues_neg (vwC_ok H2) w] at q3
      exact q3
    · exact w
  have f2 := fault_no pt.1 q2
  have f1 := (fzE kz pt.1 rfl pt.2 (fun n k => ptk_neg n k) f2).1
  obtain ⟨g1, g2⟩ := gf f1
  obtain ⟨m1, m2, m3⟩ := nq3 f3
  rw [v2, bt.2, pt.2, yb, yt f1] at m3
  have e13 : hV H4 30 13 = hV H1 30 13 := (f21.1.2.1.1 30 13 (by decide +kernel)).trans (c4.trans b4)
  have ls : lsB H4 (hV H1 30 13).toNat = lsB H1 (hV H1 30 13).toNat := lsB_eq (fun b hb => ⟨by rw [r34, (nq2 b (by omega)).1, r12], fun k hk_ s => by
    have kq := C45_k ck1.1 cz (b := b) (k := k) (by omega) hk_
    have a1 := co1 _ kq
    have a2 := nq1 _ a1.1
    have a3 := co3 _ a2.1
    rw [a3.2 (by omega) s, a2.2 (fun k2 hk2 => by unfold cuP; omega) s, a1.2 (by omega) s]⟩) (fun b hb => by rw [r34, (nq2 b (by omega)).1, r12]; exact g2 b hb)
  have lc : lsC H4 (hV H1 30 13).toNat (hV H3 46 (hV H1 30 13).toNat).toNat = lsC H3 (hV H1 30 13).toNat (hV H3 46 (hV H1 30 13).toNat).toNat := lsC_eq (fun k hk_ s => (co3 _ (C45_k (CK_fr f20.1.1 f20.1.2.1 (by decide +kernel) ck2).1 c5 (by omega) (by omega))).2 (by omega) s)
  have bb := (BI_fr f21.1.1 f21.1.2.1 (by decide +kernel) c2).2
  unfold FIN
  rw [e13, bb, c3, bt.2, yt f1, ls, r34, lc, m3]
  refine ⟨rfl, g1, rfl, by omega, by omega, fun b hb => ?_⟩
  rw [r34]
  by_cases hb2 : (b : Int) = hV H1 30 13
  · rw [show b = (hV H1 30 13).toNat by omega]
    exact ⟨m1, m2⟩
  · rw [(nq2 b hb2).1, r12]
    exact g2 b (by omega)
def g_60vw_55_0 : vG := ([(1070, [3, 8], [3, 4], 0), (1072, [3], [2, 3], 0), (1066, [3, 9], [1, 2], 0), (0, [9], [], 18), (20, [8, 3], [1], 1), (23, [3], [1], 4), (90, [8], [], -2147483648), (91, [8], [], 2147483647), (30, [7], [], 0), (20, [7, 3], [1], 7), (23, [3], [1], 4), (90, [7], [], 0), (91, [7], [], 1), (5000, [0, 1, 2, 3, 4, 5, 6], [0, 1], 55), (0, [0], [], 30), (90, [2], [], -2147483648), (91, [2], [], 2147483647), (0, [3], [], 30), (90, [5], [], -2147483648), (91, [5], [], 2147483647), (90, [6], [], -2147483648), (91, [6], [], 2147483647)], (4000, [3, 4, 5, 8], [4], 89))
theorem c_60vw_55_0 {q0 : Nat} : vOkm T0 (eN e_60v L_60vw A_60v mu_60v n_60 B_60 (some q0)) 3 g_60vw_55_0 := vOk_inI fun ρ η f0 f1 f2 f3 f4 f5 f6 f7 f8 f9 f10 f11 f12 f13 f14 f15 f16 f17 f18 f19 f20 f21 => q_60vw_5 (q0 := q0) (n0 := ρ 6) (n1 := ρ 5) (n2 := ρ 3) (n3 := ρ 2) (n4 := ρ 0) (n5 := ρ 1) (n6 := ρ 4) (n7 := ρ 7) (n8 := ρ 8) (n9 := ρ 9) (H0 := η 0) (H1 := η 1) (H2 := η 2) (H3 := η 3) (H4 := η 4) f21 f20 f19 f18 f17 f16 f15 f14 f13 f12 f11 f10 f9 f8 f7 f6 f5 f4 f3 f2 f1 f0
theorem q_60vw_6 {q0 : Nat} {n0 n1 n2 n3 n4 n5 n6 n7 : Int} {H0 H1 H2 : gH} (f0 : n0 ≤ 2147483647) (f1 : (-2147483648) ≤ n0) (f2 : n1 ≤ 2147483647) (f3 : (-2147483648) ≤ n1) (f4 : n2 = 30) (f5 : n3 ≤ 2147483647) (f6 : (-2147483648) ≤ n3) (f7 : n4 = 30) (f8 : (hLe T0 H0 H1 ∧ hFr s_60v.2.2.2.2 H0 H1 ∧ hWt T0 H1) ∧ ((Ab_60v_55 n4 n5 n3 n2 n6 n1 n0 H0 H1 ∧ Bb_60_55 n4 n5 n3 n2 n6 n1 n0 H0 H1) ∧ preb_60v n4 n5 n3 H0) ∧ some q0 = some (mub_60v_55 n4 n5 n3 n2 n6 n1 n0 H0 H1)) (f9 : n7 ≤ 1) (f10 : 0 ≤ n7) (f11 : hK H1 (n2).toNat = 4) (f12 : n7 = hV H1 (n2).toNat 7) (f13 : n7 ≠ 0) (f14 : (hLe T0 H1 H2 ∧ hFr s_84v.2.2.2.2 H1 H2 ∧ ((0 : Int) = 0 → H2.length = H1.length) ∧ hWt T0 H2) ∧ (postb_84v n2 H1 H2 ∧ nb_84 n2 H1 H2)) : Bb_60_89 n4 n5 n3 n2 n6 n1 n0 H0 H2 := by
  unfold Bb_60_89
  intro ck
  have pz := f8.2.1.2
  unfold preb_60v at pz
  have ga := f8.2.1.1.1
  unfold Ab_60v_55 at ga
  have gb := f8.2.1.1.2
  unfold Bb_60_55 at gb
  obtain ⟨gu, g7, gf⟩ := gb ck
  have ck1 := CK_fr f8.1.1 f8.1.2.1 (by decide +kernel) ck
  obtain ⟨kz, bz, cz, dz, vz, wz, ir, yb, yt⟩ := ga
  have wk : wOK (pTx (hV H0 8) n3) := by
    rw [← vz]
    exact vwC_ok H1
  have r7 := f12
  rw [f4] at r7
  rw [show ((30 : Int)).toNat = 30 from rfl] at r7
  have co : CUo H1 H2 (-1) := CUo_fr f14.1.1 f14.1.2.1 (by decide +kernel)
  refine ⟨CUz_tr gu (CUz_of co), fun z => B16_eq (show hV H2 46 = hV H1 46 from f14.2.2) (g7 z), fun _ n19 => ?_⟩
  rcases ir with q | q
  · exact absurd q.2 n19
  · omega
def g_60vw_55_1 : vG := ([(1084, [3], [1, 2], 0), (31, [7], [], 0), (20, [7, 3], [1], 7), (23, [3], [1], 4), (90, [7], [], 0), (91, [7], [], 1), (5000, [0, 1, 2, 3, 4, 5, 6], [0, 1], 55), (0, [0], [], 30), (90, [2], [], -2147483648), (91, [2], [], 2147483647), (0, [3], [], 30), (90, [5], [], -2147483648), (91, [5], [], 2147483647), (90, [6], [], -2147483648), (91, [6], [], 2147483647)], (4000, [3, 4, 5, 6], [2], 89))
theorem c_60vw_55_1 {q0 : Nat} : vOkm T0 (eN e_60v L_60vw A_60v mu_60v n_60 B_60 (some q0)) 3 g_60vw_55_1 := vOk_inI fun ρ η f0 f1 f2 f3 f4 f5 f6 f7 f8 f9 f10 f11 f12 f13 f14 => q_60vw_6 (q0 := q0) (n0 := ρ 6) (n1 := ρ 5) (n2 := ρ 3) (n3 := ρ 2) (n4 := ρ 0) (n5 := ρ 1) (n6 := ρ 4) (n7 := ρ 7) (H0 := η 0) (H1 := η 1) (H2 := η 2) f14 f13 f12 f11 f10 f9 f8 f7 f6 f5 f4 f3 f2 f1 f0
def p_60vw_55 : List vG := [g_60vw_55_0,
  g_60vw_55_1]
theorem r_60vw_55 : vCovBO (eRc e_60v L_60v cs_60v 2000 (55, [(0, (3, 4, 30, 0)), (1, (2, 692, -1, 0)), (2, (0, -2147483648, 2147483647, 0)), (3, (0, -2147483648, 2147483647, 0))])) p_60vw_55 = true := by decide +kernel
theorem q_60vw_7 {q0 : Nat} {n0 n1 n2 n3 n4 n5 n6 n7 n8 n9 : Int} {H0 H1 : gH} (f0 : n0 ≤ 2147483647) (f1 : (-2147483648) ≤ n0) (f2 : n1 ≤ 2147483647) (f3 : (-2147483648) ≤ n1) (f4 : n2 = 30) (f5 : n3 ≤ 2147483647) (f6 : (-2147483648) ≤ n3) (f7 : n4 = 30) (f8 : (hLe T0 H0 H1 ∧ hFr s_60v.2.2.2.2 H0 H1 ∧ hWt T0 H1) ∧ ((Ab_60v_89 n4 n5 n3 n2 n6 n1 n0 H0 H1 ∧ Bb_60_89 n4 n5 n3 n2 n6 n1 n0 H0 H1) ∧ preb_60v n4 n5 n3 H0) ∧ some q0 = some (mub_60v_89 n4 n5 n3 n2 n6 n1 n0 H0 H1)) (f9 : n7 ≤ 2147483647) (f10 : (-2147483648) ≤ n7) (f11 : hK H1 (n2).toNat = 4) (f12 : n7 = hV H1 (n2).toNat 2) (f13 : n7 = 0) (f14 : n8 ≤ 2147483647) (f15 : (-2147483648) ≤ n8) (f16 : hK H1 (n2).toNat = 4) (f17 : n8 = hV H1 (n2).toNat 3) (f18 : n8 ≠ 0) (f19 : n9 ≤ 2147483647) (f20 : (-2147483648) ≤ n9) (f21 : hK H1 (n2).toNat = 4) (f22 : n9 = hV H1 (n2).toNat 3) : nb_60 n9 n4 n5 n3 H0 H1 := by
  unfold nb_60
  intro ck
  have pz := f8.2.1.2
  unfold preb_60v at pz
  have ga := f8.2.1.1.1
  unfold Ab_60v_89 at ga
  have gb := f8.2.1.1.2
  unfold Bb_60_89 at gb
  obtain ⟨gu, g7, gf⟩ := gb ck
  have ck1 := CK_fr f8.1.1 f8.1.2.1 (by decide +kernel) ck
  obtain ⟨kz, vz, wz, ir, yb⟩ := ga
  have wk : wOK (pTx (hV H0 8) n3) := by
    rw [← vz]
    exact vwC_ok H1
  have r3 := f17
  rw [f4] at r3
  rw [show ((30 : Int)).toNat = 30 from rfl] at r3
  have r2 := f12
  rw [f4] at r2
  rw [show ((30 : Int)).toNat = 30 from rfl] at r2
  have s4 := f22
  rw [f4] at s4
  rw [show ((30 : Int)).toNat = 30 from rfl] at s4
  exact ⟨gu, g7, fun w => by omega⟩
def g_60vw_89_0 : vG := ([(20, [9, 3], [1], 3), (23, [3], [1], 4), (90, [9], [], -2147483648), (91, [9], [], 2147483647), (31, [8], [], 0), (20, [8, 3], [1], 3), (23, [3], [1], 4), (90, [8], [], -2147483648), (91, [8], [], 2147483647), (30, [7], [], 0), (20, [7, 3], [1], 2), (23, [3], [1], 4), (90, [7], [], -2147483648), (91, [7], [], 2147483647), (5000, [0, 1, 2, 3, 4, 5, 6], [0, 1], 89), (0, [0], [], 30), (90, [2], [], -2147483648), (91, [2], [], 2147483647), (0, [3], [], 30), (90, [5], [], -2147483648), (91, [5], [], 2147483647), (90, [6], [], -2147483648), (91, [6], [], 2147483647)], (3000, [9], [1], 128))
theorem c_60vw_89_0 {q0 : Nat} : vOkm T0 (eN e_60v L_60vw A_60v mu_60v n_60 B_60 (some q0)) 3 g_60vw_89_0 := vOk_inI fun ρ η f0 f1 f2 f3 f4 f5 f6 f7 f8 f9 f10 f11 f12 f13 f14 f15 f16 f17 f18 f19 f20 f21 f22 => q_60vw_7 (q0 := q0) (n0 := ρ 6) (n1 := ρ 5) (n2 := ρ 3) (n3 := ρ 2) (n4 := ρ 0) (n5 := ρ 1) (n6 := ρ 4) (n7 := ρ 7) (n8 := ρ 8) (n9 := ρ 9) (H0 := η 0) (H1 := η 1) f22 f21 f20 f19 f18 f17 f16 f15 f14 f13 f12 f11 f10 f9 f8 f7 f6 f5 f4 f3 f2 f1 f0
theorem q_60vw_8 {q0 : Nat} {n0 n1 n2 n3 n4 n5 n6 n7 n8 n9 n10 n11 n12 n13 : Int} {H0 H1 H2 H3 : gH} (f0 : n0 ≤ 2147483647) (f1 : (-2147483648) ≤ n0) (f2 : n1 ≤ 2147483647) (f3 : (-2147483648) ≤ n1) (f4 : n2 = 30) (f5 : n3 ≤ 2147483647) (f6 : (-2147483648) ≤ n3) (f7 : n4 = 30) (f8 : (hLe T0 H0 H1 ∧ hFr s_60v.2.2.2.2 H0 H1 ∧ hWt T0 H1) ∧ ((Ab_60v_89 n4 n5 n3 n2 n6 n1 n0 H0 H1 ∧ Bb_60_89 n4 n5 n3 n2 n6 n1 n0 H0 H1) ∧ preb_60v n4 n5 n3 H0) ∧ some q0 = some (mub_60v_89 n4 n5 n3 n2 n6 n1 n0 H0 H1)) (f9 : n7 ≤ 2147483647) (f10 : (-2147483648) ≤ n7) (f11 : hK H1 (n2).toNat = 4) (f12 : n7 = hV H1 (n2).toNat 2) (f13 : n7 = 0) (f14 : n8 ≤ 2147483647) (f15 : (-2147483648) ≤ n8) (f16 : hK H1 (n2).toNat = 4) (f17 : n8 = hV H1 (n2).toNat 3) (f18 : n8 = 0) (f19 : n9 ≤ 2147483647) (f20 : (-2147483648) ≤ n9) (f21 : hK H1 (n2).toNat = 4) (f22 : n9 = hV H1 (n2).toNat 5) (f23 : hK H1 (n2).toNat = 4) (f24 : n10 = 3) (f25 : hUpd H2 H1 n2 n10 n9) (f26 : n11 ≤ 2147483647) (f27 : (-2147483648) ≤ n11) (f28 : hK H2 (n2).toNat = 4) (f29 : n11 = hV H2 (n2).toNat 6) (f30 : hK H2 (n2).toNat = 4) (f31 : n12 = 4) (f32 : hUpd H3 H2 n2 n12 n11) (f33 : n13 ≤ 2147483647) (f34 : (-2147483648) ≤ n13) (f35 : hK H3 (n2).toNat = 4) (f36 : n13 = hV H3 (n2).toNat 3) : nb_60 n13 n4 n5 n3 H0 H3 := by
  unfold nb_60
  intro ck
  have pz := f8.2.1.2
  unfold preb_60v at pz
  have ga := f8.2.1.1.1
  unfold Ab_60v_89 at ga
  have gb := f8.2.1.1.2
  unfold Bb_60_89 at gb
  obtain ⟨gu, g7, gf⟩ := gb ck
  have ck1 := CK_fr f8.1.1 f8.1.2.1 (by decide +kernel) ck
  obtain ⟨kz, vz, wz, ir, yb⟩ := ga
  have wk : wOK (pTx (hV H0 8) n3) := by
    rw [← vz]
    exact vwC_ok H1
  have r3 := f17
  rw [f4] at r3
  rw [show ((30 : Int)).toNat = 30 from rfl] at r3
  have r2 := f12
  rw [f4] at r2
  rw [show ((30 : Int)).toNat = 30 from rfl] at r2
  have r5 := f22
  rw [f4] at r5
  rw [show ((30 : Int)).toNat = 30 from rfl] at r5
  have k30 := kz.1.1
  have f1 : hV H1 30 3 = 0 := by omega
  have co : CUo H1 H3 (-1) := CUo_tr (CUo_ne f25 (by rw [f4]; show ¬ hK H1 30 = 1; rw [k30]; decide)) (CUo_ne f32 (by rw [f4]; show ¬ hK H2 30 = 1; rw [kUp f25 k30]; decide))
  have w7 : hV H3 30 7 = hV H1 30 7 := (uSlot f32 30 7 (by rw [f31]; decide)).trans (uSlot f25 30 7 (by rw [f24]; decide))
  have w13 : hV H3 30 13 = hV H1 30 13 := (uSlot f32 30 13 (by rw [f31]; decide)).trans (uSlot f25 30 13 (by rw [f24]; decide))
  have w46 : hV H3 46 = hV H1 46 := (uRowNe f32 46 (by rw [f4]; decide)).trans (uRowNe f25 46 (by rw [f4]; decide))
  have w47 : hV H3 47 = hV H1 47 := (uRowNe f32 47 (by rw [f4]; decide)).trans (uRowNe f25 47 (by rw [f4]; decide))
  have w48 : hV H3 48 = hV H1 48 := (uRowNe f32 48 (by rw [f4]; decide)).trans (uRowNe f25 48 (by rw [f4]; decide))
  refine ⟨CUz_tr gu (CUz_of co), fun z => B16_eq w46 (g7 z), fun _ hr => ?_⟩
  have n19 : ¬ (pTx (hV H0 8) n3).1 0 = 19 := by
    rcases ir with q | q
    · omega
    · exact q.2
  exact FIN_same w13 w46 w47 w48 (fun b k hb hk s => (co _ (C45_k ck1.1 (CU_fr f8.1.1 f8.1.2.1 (by decide +kernel) pz.2.2.1) hb hk)).2 (by omega) s) (gf f1 n19)
def g_60vw_89_1 : vG := ([(20, [13, 3], [3], 3), (23, [3], [3], 4), (90, [13], [], -2147483648), (91, [13], [], 2147483647), (80, [3, 12, 11], [3, 2], 0), (0, [12], [], 4), (23, [3], [2], 4), (20, [11, 3], [2], 6), (23, [3], [2], 4), (90, [11], [], -2147483648), (91, [11], [], 2147483647), (80, [3, 10, 9], [2, 1], 0), (0, [10], [], 3), (23, [3], [1], 4), (20, [9, 3], [1], 5), (23, [3], [1], 4), (90, [9], [], -2147483648), (91, [9], [], 2147483647), (30, [8], [], 0), (20, [8, 3], [1], 3), (23, [3], [1], 4), (90, [8], [], -2147483648), (91, [8], [], 2147483647), (30, [7], [], 0), (20, [7, 3], [1], 2), (23, [3], [1], 4), (90, [7], [], -2147483648), (91, [7], [], 2147483647), (5000, [0, 1, 2, 3, 4, 5, 6], [0, 1], 89), (0, [0], [], 30), (90, [2], [], -2147483648), (91, [2], [], 2147483647), (0, [3], [], 30), (90, [5], [], -2147483648), (91, [5], [], 2147483647), (90, [6], [], -2147483648), (91, [6], [], 2147483647)], (3000, [13], [3], 128))
theorem c_60vw_89_1 {q0 : Nat} : vOkm T0 (eN e_60v L_60vw A_60v mu_60v n_60 B_60 (some q0)) 3 g_60vw_89_1 := vOk_inI fun ρ η f0 f1 f2 f3 f4 f5 f6 f7 f8 f9 f10 f11 f12 f13 f14 f15 f16 f17 f18 f19 f20 f21 f22 f23 f24 f25 f26 f27 f28 f29 f30 f31 f32 f33 f34 f35 f36 => q_60vw_8 (q0 := q0) (n0 := ρ 6) (n1 := ρ 5) (n2 := ρ 3) (n3 := ρ 2) (n4 := ρ 0) (n5 := ρ 1) (n6 := ρ 4) (n7 := ρ 7) (n8 := ρ 8) (n9 := ρ 9) (n10 := ρ 10) (n11 := ρ 11) (n12 := ρ 12) (n13 := ρ 13) (H0 := η 0) (H1 := η 1) (H2 := η 2) (H3 := η 3) f36 f35 f34 f33 f32 f31 f30 f29 f28 f27 f26 f25 f24 f23 f22 f21 f20 f19 f18 f17 f16 f15 f14 f13 f12 f11 f10 f9 f8 f7 f6 f5 f4 f3 f2 f1 f0
theorem q_60vw_9 {q0 : Nat} {n0 n1 n2 n3 n4 n5 n6 n7 n8 n9 n10 : Int} {H0 H1 H2 : gH} (f0 : n0 ≤ 2147483647) (f1 : (-2147483648) ≤ n0) (f2 : n1 ≤ 2147483647) (f3 : (-2147483648) ≤ n1) (f4 : n2 = 30) (f5 : n3 ≤ 2147483647) (f6 : (-2147483648) ≤ n3) (f7 : n4 = 30) (f8 : (hLe T0 H0 H1 ∧ hFr s_60v.2.2.2.2 H0 H1 ∧ hWt T0 H1) ∧ ((Ab_60v_89 n4 n5 n3 n2 n6 n1 n0 H0 H1 ∧ Bb_60_89 n4 n5 n3 n2 n6 n1 n0 H0 H1) ∧ preb_60v n4 n5 n3 H0) ∧ some q0 = some (mub_60v_89 n4 n5 n3 n2 n6 n1 n0 H0 H1)) (f9 : n7 ≤ 2147483647) (f10 : (-2147483648) ≤ n7) (f11 : hK H1 (n2).toNat = 4) (f12 : n7 = hV H1 (n2).toNat 2) (f13 : n7 ≠ 0) (f14 : n8 = 1) (f15 : (hLe T0 H1 H2 ∧ hFr s_64v.2.2.2.2 H1 H2 ∧ ((0 : Int) = 0 → H2.length = H1.length) ∧ hWt T0 H2) ∧ postb_64v n2 n8 H1 H2) (f16 : n9 ≤ 2147483647) (f17 : (-2147483648) ≤ n9) (f18 : hK H2 (n2).toNat = 4) (f19 : n9 = hV H2 (n2).toNat 3) (f20 : n9 ≠ 0) (f21 : n10 ≤ 2147483647) (f22 : (-2147483648) ≤ n10) (f23 : hK H2 (n2).toNat = 4) (f24 : n10 = hV H2 (n2).toNat 3) : nb_60 n10 n4 n5 n3 H0 H2 := by
  unfold nb_60
  intro ck
  have pz := f8.2.1.2
  unfold preb_60v at pz
  have ga := f8.2.1.1.1
  unfold Ab_60v_89 at ga
  have gb := f8.2.1.1.2
  unfold Bb_60_89 at gb
  obtain ⟨gu, g7, gf⟩ := gb ck
  have ck1 := CK_fr f8.1.1 f8.1.2.1 (by decide +kernel) ck
  obtain ⟨kz, vz, wz, ir, yb⟩ := ga
  have wk : wOK (pTx (hV H0 8) n3) := by
    rw [← vz]
    exact vwC_ok H1
  have r2 := f12
  rw [f4] at r2
  rw [show ((30 : Int)).toNat = 30 from rfl] at r2
  have k30 := kz.1.1
  have pf := f15.2
  unfold postb_64v at pf
  rw [f14, vz] at pf
  have nf : (absC H2).1 < 0 := by
    rw [pf.2]
    have n := pfail_lt kz (f := 1) (by decide) (p := absC H1)
    rw [vz] at n
    exact n
  have ff := fault_of pf.1 nf
  have s3 := f19
  rw [f4] at s3
  rw [show ((30 : Int)).toNat = 30 from rfl] at s3
  have s4 := f24
  rw [f4] at s4
  rw [show ((30 : Int)).toNat = 30 from rfl] at s4
  have co : CUo H1 H2 (-1) := CUo_fr f15.1.1 f15.1.2.1 (by decide +kernel)
  exact ⟨CUz_tr gu (CUz_of co), fun z => B16_eq (fRow f15.1.2.1 46 (by decide +kernel)) (g7 z), fun w => by omega⟩
def g_60vw_89_2 : vG := ([(20, [10, 3], [2], 3), (23, [3], [2], 4), (90, [10], [], -2147483648), (91, [10], [], 2147483647), (31, [9], [], 0), (20, [9, 3], [2], 3), (23, [3], [2], 4), (90, [9], [], -2147483648), (91, [9], [], 2147483647), (1064, [3, 8], [1, 2], 0), (0, [8], [], 1), (31, [7], [], 0), (20, [7, 3], [1], 2), (23, [3], [1], 4), (90, [7], [], -2147483648), (91, [7], [], 2147483647), (5000, [0, 1, 2, 3, 4, 5, 6], [0, 1], 89), (0, [0], [], 30), (90, [2], [], -2147483648), (91, [2], [], 2147483647), (0, [3], [], 30), (90, [5], [], -2147483648), (91, [5], [], 2147483647), (90, [6], [], -2147483648), (91, [6], [], 2147483647)], (3000, [10], [2], 128))
theorem c_60vw_89_2 {q0 : Nat} : vOkm T0 (eN e_60v L_60vw A_60v mu_60v n_60 B_60 (some q0)) 3 g_60vw_89_2 := vOk_inI fun ρ η f0 f1 f2 f3 f4 f5 f6 f7 f8 f9 f10 f11 f12 f13 f14 f15 f16 f17 f18 f19 f20 f21 f22 f23 f24 => q_60vw_9 (q0 := q0) (n0 := ρ 6) (n1 := ρ 5) (n2 := ρ 3) (n3 := ρ 2) (n4 := ρ 0) (n5 := ρ 1) (n6 := ρ 4) (n7 := ρ 7) (n8 := ρ 8) (n9 := ρ 9) (n10 := ρ 10) (H0 := η 0) (H1 := η 1) (H2 := η 2) f24 f23 f22 f21 f20 f19 f18 f17 f16 f15 f14 f13 f12 f11 f10 f9 f8 f7 f6 f5 f4 f3 f2 f1 f0
theorem q_60vw_10 {q0 : Nat} {n0 n1 n2 n3 n4 n5 n6 n7 n8 n9 n10 n11 n12 n13 n14 : Int} {H0 H1 H2 H3 H4 : gH} (f0 : n0 ≤ 2147483647) (f1 : (-2147483648) ≤ n0) (f2 : n1 ≤ 2147483647) (f3 : (-2147483648) ≤ n1) (f4 : n2 = 30) (f5 : n3 ≤ 2147483647) (f6 : (-2147483648) ≤ n3) (f7 : n4 = 30) (f8 : (hLe T0 H0 H1 ∧ hFr s_60v.2.2.2.2 H0 H1 ∧ hWt T0 H1) ∧ ((Ab_60v_89 n4 n5 n3 n2 n6 n1 n0 H0 H1 ∧ Bb_60_89 n4 n5 n3 n2 n6 n1 n0 H0 H1) ∧ preb_60v n4 n5 n3 H0) ∧ some q0 = some (mub_60v_89 n4 n5 n3 n2 n6 n1 n0 H0 H1)) (f9 : n7 ≤ 2147483647) (f10 : (-2147483648) ≤ n7) (f11 : hK H1 (n2).toNat = 4) (f12 : n7 = hV H1 (n2).toNat 2) (f13 : n7 ≠ 0) (f14 : n8 = 1) (f15 : (hLe T0 H1 H2 ∧ hFr s_64v.2.2.2.2 H1 H2 ∧ ((0 : Int) = 0 → H2.length = H1.length) ∧ hWt T0 H2) ∧ postb_64v n2 n8 H1 H2) (f16 : n9 ≤ 2147483647) (f17 : (-2147483648) ≤ n9) (f18 : hK H2 (n2).toNat = 4) (f19 : n9 = hV H2 (n2).toNat 3) (f20 : n9 = 0) (f21 : n10 ≤ 2147483647) (f22 : (-2147483648) ≤ n10) (f23 : hK H2 (n2).toNat = 4) (f24 : n10 = hV H2 (n2).toNat 5) (f25 : hK H2 (n2).toNat = 4) (f26 : n11 = 3) (f27 : hUpd H3 H2 n2 n11 n10) (f28 : n12 ≤ 2147483647) (f29 : (-2147483648) ≤ n12) (f30 : hK H3 (n2).toNat = 4) (f31 : n12 = hV H3 (n2).toNat 6) (f32 : hK H3 (n2).toNat = 4) (f33 : n13 = 4) (f34 : hUpd H4 H3 n2 n13 n12) (f35 : n14 ≤ 2147483647) (f36 : (-2147483648) ≤ n14) (f37 : hK H4 (n2).toNat = 4) (f38 : n14 = hV H4 (n2).toNat 3) : nb_60 n14 n4 n5 n3 H0 H4 := by
  unfold nb_60
  intro ck
  have pz := f8.2.1.2
  unfold preb_60v at pz
  have ga := f8.2.1.1.1
  unfold Ab_60v_89 at ga
  have gb := f8.2.1.1.2
  unfold Bb_60_89 at gb
  obtain ⟨gu, g7, gf⟩ := gb ck
  have ck1 := CK_fr f8.1.1 f8.1.2.1 (by decide +kernel) ck
  obtain ⟨kz, vz, wz, ir, yb⟩ := ga
  have wk : wOK (pTx (hV H0 8) n3) := by
    rw [← vz]
    exact vwC_ok H1
  have r2 := f12
  rw [f4] at r2
  rw [show ((30 : Int)).toNat = 30 from rfl] at r2
  have k30 := kz.1.1
  have pf := f15.2
  unfold postb_64v at pf
  rw [f14, vz] at pf
  have nf : (absC H2).1 < 0 := by
    rw [pf.2]
    have n := pfail_lt kz (f := 1) (by decide) (p := absC H1)
    rw [vz] at n
    exact n
  have ff := fault_of pf.1 nf
  have s3 := f19
  rw [f4] at s3
  rw [show ((30 : Int)).toNat = 30 from rfl] at s3
  exact absurd (show hV H2 30 3 = 0 by omega) ff
def g_60vw_89_3 : vG := ([(20, [14, 3], [4], 3), (23, [3], [4], 4), (90, [14], [], -2147483648), (91, [14], [], 2147483647), (80, [3, 13, 12], [4, 3], 0), (0, [13], [], 4), (23, [3], [3], 4), (20, [12, 3], [3], 6), (23, [3], [3], 4), (90, [12], [], -2147483648), (91, [12], [], 2147483647), (80, [3, 11, 10], [3, 2], 0), (0, [11], [], 3), (23, [3], [2], 4), (20, [10, 3], [2], 5), (23, [3], [2], 4), (90, [10], [], -2147483648), (91, [10], [], 2147483647), (30, [9], [], 0), (20, [9, 3], [2], 3), (23, [3], [2], 4), (90, [9], [], -2147483648), (91, [9], [], 2147483647), (1064, [3, 8], [1, 2], 0), (0, [8], [], 1), (31, [7], [], 0), (20, [7, 3], [1], 2), (23, [3], [1], 4), (90, [7], [], -2147483648), (91, [7], [], 2147483647), (5000, [0, 1, 2, 3, 4, 5, 6], [0, 1], 89), (0, [0], [], 30), (90, [2], [], -2147483648), (91, [2], [], 2147483647), (0, [3], [], 30), (90, [5], [], -2147483648), (91, [5], [], 2147483647), (90, [6], [], -2147483648), (91, [6], [], 2147483647)], (3000, [14], [4], 128))
theorem c_60vw_89_3 {q0 : Nat} : vOkm T0 (eN e_60v L_60vw A_60v mu_60v n_60 B_60 (some q0)) 3 g_60vw_89_3 := vOk_inI fun ρ η f0 f1 f2 f3 f4 f5 f6 f7 f8 f9 f10 f11 f12 f13 f14 f15 f16 f17 f18 f19 f20 f21 f22 f23 f24 f25 f26 f27 f28 f29 f30 f31 f32 f33 f34 f35 f36 f37 f38 => q_60vw_10 (q0 := q0) (n0 := ρ 6) (n1 := ρ 5) (n2 := ρ 3) (n3 := ρ 2) (n4 := ρ 0) (n5 := ρ 1) (n6 := ρ 4) (n7 := ρ 7) (n8 := ρ 8) (n9 := ρ 9) (n10 := ρ 10) (n11 := ρ 11) (n12 := ρ 12) (n13 := ρ 13) (n14 := ρ 14) (H0 := η 0) (H1 := η 1) (H2 := η 2) (H3 := η 3) (H4 := η 4) f38 f37 f36 f35 f34 f33 f32 f31 f30 f29 f28 f27 f26 f25 f24 f23 f22 f21 f20 f19 f18 f17 f16 f15 f14 f13 f12 f11 f10 f9 f8 f7 f6 f5 f4 f3 f2 f1 f0
def p_60vw_89 : List vG := [g_60vw_89_0,
  g_60vw_89_1,
  g_60vw_89_2,
  g_60vw_89_3]
theorem r_60vw_89 : vCovBO (eRc e_60v L_60v cs_60v 2000 (89, [(0, (3, 4, 30, 0)), (1, (2, 692, -1, 0)), (2, (0, -2147483648, 2147483647, 0)), (3, (0, -2147483648, 2147483647, 0))])) p_60vw_89 = true := by decide +kernel
theorem m_60vw (d : Nat) : eC e_60vw (d + 7) := eC_ref (e := e_60v) (L := L_60v) (L' := L_60vw) (cs := cs_60v) (n := 2000) (d := d + 6) (A := A_60v) (μ := mu_60v) (tp := false) (p0 := p_60v_s) (p1 := p_60vw_s) (N := n_60) (B := B_60) rfl ⟨m_61v (d + 4), ⟨m_64v (d + 5), ⟨m_66v (d + 4), ⟨m_68v (d + 3), ⟨m_69v (d + 3), ⟨m_70v (d + 3), ⟨m_72vw d, ⟨m_84vw d, ⟨m_125v (d + 1), trivial⟩⟩⟩⟩⟩⟩⟩⟩⟩ rfl (.inl rfl) (by decide +kernel) (fun z => nomatch z) r_60v_s (allC c_60v_s_0 (allC c_60v_s_1 (allC c_60v_s_2 allN))) (allC (.inl ⟨p_60v_15, r_60v_15, fun q0 => (allC c_60v_15_0 (allC c_60v_15_1 (allC c_60v_15_2 (allC c_60v_15_3 (allC c_60v_15_4 (allC c_60v_15_5 (allC c_60v_15_6 allN)))))))⟩) (allC (.inl ⟨p_60v_55, r_60v_55, fun q0 => (allC c_60v_55_0 (allC c_60v_55_1 (allC c_60v_55_2 (allC c_60v_55_3 (allC c_60v_55_4 (allC c_60v_55_5 allN))))))⟩) (allC (.inl ⟨p_60v_89, r_60v_89, fun q0 => (allC c_60v_89_0 (allC c_60v_89_1 (allC c_60v_89_2 (allC c_60v_89_3 (allC c_60v_89_4 allN)))))⟩) allN))) (sub0 (sub0 (sub0 (sub0 (sub0 (sub0 (sub1 (sub1 (sub0 trivial))))))))) r_60vw_s (allC c_60vw_s_0 allN) (allC ⟨p_60vw_15, r_60vw_15, fun q0 => (allC c_60vw_15_0 (allC c_60vw_15_1 (allC c_60vw_15_2 (allC c_60vw_15_3 allN))))⟩ (allC ⟨p_60vw_55, r_60vw_55, fun q0 => (allC c_60vw_55_0 (allC c_60vw_55_1 allN))⟩ (allC ⟨p_60vw_89, r_60vw_89, fun q0 => (allC c_60vw_89_0 (allC c_60vw_89_1 (allC c_60vw_89_2 (allC c_60vw_89_3 allN))))⟩ allN)))
