/-! CONTRACTS of methods told more fully. -/
/- Reader.hold (I)V, more fully -/
def nb_94 (a0 a1 : Int) (h0 h : gH) : Prop := hV h 46 = hV h0 46
def n_94 : List Int → gH → gH → Prop := fun xs h0 h => match xs with
  | [a0, a1] => nb_94 a0 a1 h0 h
  | _ => True
noncomputable def e_94w : vE := eV e_94 n_94
noncomputable def L_94w : List vE := [e_201vk740]
def B_94 : Int → List Int → gH → gH → Prop := fun c xs h0 h => True
theorem q_94w_0 {n0 n1 n2 n3 n6 n7 : Int} {H0 H1 H2 : gH} (f0 : n1 = 30) (f1 : n2 = 49) (f2 : (hLe T0 H0 H1 ∧ hFr s_201vk740.2.2.2.2 H0 H1 ∧ ((0 : Int) = 0 → H1.length = H0.length) ∧ hWt T0 H1) ∧ postb_201vk740 n2 n3 n0 H0 H1) (f3 : hUpd H2 H1 n1 n7 n6) : nb_94 n1 n0 H0 H2 := by
  unfold nb_94
  have p11 := f2.2
  unfold postb_201vk740 at p11
  rw [f1] at p11
  exact (uRowNe f3 46 (by rw [f0]; decide)).trans (putQ_o (q := 49) p11 (by decide))
def g_94w_s_0 : vG := ([(80, [0, 7, 6], [2, 1], 0), (1201, [2, 3, 1], [0, 1], 0), (0, [2], [], 49), (0, [0], [], 30)], (3000, [], [2], 22))
theorem c_94w_s_0 : vOkm T0 (eN e_94 L_94w A_94 mu_94 n_94 B_94 none) 2 g_94w_s_0 := vOk_inI fun ρ η f0 f1 f2 f3 => q_94w_0 (n0 := ρ 1) (n1 := ρ 0) (n2 := ρ 2) (n3 := ρ 3) (n6 := ρ 6) (n7 := ρ 7) (H0 := η 0) (H1 := η 1) (H2 := η 2) f3 f2 f1 f0
def p_94w_s : List vG := [g_94w_s_0]
theorem r_94w_s : vCovBO (eR0 e_94 L_94 cs_94 2000) p_94w_s = true := by decide +kernel
theorem m_94w (d : Nat) : eC e_94w (d + 2) := eC_ref (e := e_94) (L := L_94) (L' := L_94w) (cs := cs_94) (n := 2000) (d := d + 1) (A := A_94) (μ := mu_94) (tp := true) (p0 := p_94_s) (p1 := p_94w_s) (N := n_94) (B := B_94) rfl ⟨m_201vk740 d, trivial⟩ rfl (.inr pre0_ok) (by decide +kernel) (fun _ => post0_ok) r_94_s allN allN ⟨⟨rfl, rfl, rfl, fun _ _ _ _ => trivial⟩, trivial⟩ r_94w_s (allC c_94w_s_0 allN) allN
/- Reader.readSum ()V, more fully -/
def nb_92 (a0 : Int) (h0 h : gH) : Prop := hV h 46 = hV h0 46
def n_92 : List Int → gH → gH → Prop := fun xs h0 h => match xs with
  | [a0] => nb_92 a0 h0 h
  | _ => True
noncomputable def e_92vw : vE := eV e_92v n_92
noncomputable def L_92vw : List vE := [e_64v, e_66v, e_93, e_94w, e_95, e_98, e_123v]
def Bb_92_14 (a0 x0 x1 x2 x3 x4 : Int) (h0 h : gH) : Prop := hV h 46 = hV h0 46
def Bb_92_228 (a0 x0 x1 x2 x3 x4 x5 : Int) (h0 h : gH) : Prop := hV h 46 = hV h0 46
def B_92 : Int → List Int → gH → gH → Prop := fun c xs h0 h => match c.toNat with
  | 14 => (match xs with
    | [a0, x0, x1, x2, x3, x4] => Bb_92_14 a0 x0 x1 x2 x3 x4 h0 h
    | _ => False)
  | 228 => (match xs with
    | [a0, x0, x1, x2, x3, x4, x5] => Bb_92_228 a0 x0 x1 x2 x3 x4 x5 h0 h
    | _ => False)
  | _ => True
theorem q_92vw_0 {n0 n1 n2 n3 n4 n5 n6 : Int} {H0 H1 : gH} (f0 : n0 = 30) (f1 : hUpd H1 H0 n0 n5 n4) : Bb_92_14 n0 n0 n1 n2 n3 n6 H0 H1 := by
  unfold Bb_92_14
  exact uRowNe f1 46 (by rw [f0]; decide)
def g_92vw_s_0 : vG := ([(80, [0, 5, 4], [1, 0], 0), (0, [0], [], 30)], (4000, [0, 1, 2, 3, 6], [1], 14))
theorem c_92vw_s_0 : vOkm T0 (eN e_92v L_92vw A_92v mu_92v n_92 B_92 none) 1 g_92vw_s_0 := vOk_inI fun ρ η f0 f1 => q_92vw_0 (n0 := ρ 0) (n1 := ρ 1) (n2 := ρ 2) (n3 := ρ 3) (n4 := ρ 4) (n5 := ρ 5) (n6 := ρ 6) (H0 := η 0) (H1 := η 1) f1 f0
def p_92vw_s : List vG := [g_92vw_s_0]
theorem r_92vw_s : vCovBO (eR0 e_92v L_92v cs_92v 2000) p_92vw_s = true := by decide +kernel
theorem q_92vw_1 {q0 : Nat} {n0 n1 n2 n3 n4 n5 : Int} {H0 H1 H2 : gH} (f0 : (hLe T0 H0 H1 ∧ hFr s_92v.2.2.2.2 H0 H1 ∧ hWt T0 H1) ∧ ((Ab_92v_14 n5 n4 n3 n2 n1 n0 H0 H1 ∧ Bb_92_14 n5 n4 n3 n2 n1 n0 H0 H1) ∧ preb_92v n5 H0) ∧ some q0 = some (mub_92v_14 n5 n4 n3 n2 n1 n0 H0 H1)) (f1 : (hLe T0 H1 H2 ∧ hFr s_95.2.2.2.2 H1 H2 ∧ ((0 : Int) = 0 → H2.length = H1.length) ∧ hWt T0 H2) ∧ True) : nb_92 n5 H0 H2 := by
  unfold nb_92
  exact (fRow f1.1.2.1 46 (by decide +kernel)).trans (show hV H1 46 = hV H0 46 from f0.2.1.1.2)
def g_92vw_14_0 : vG := ([(1095, [1, 7], [1, 2], 0), (5000, [0, 1, 2, 3, 4, 5], [0, 1], 14)], (3000, [], [2], 272))
theorem c_92vw_14_0 {q0 : Nat} : vOkm T0 (eN e_92v L_92vw A_92v mu_92v n_92 B_92 (some q0)) 1 g_92vw_14_0 := vOk_inI fun ρ η f0 f1 => q_92vw_1 (q0 := q0) (n0 := ρ 5) (n1 := ρ 4) (n2 := ρ 3) (n3 := ρ 2) (n4 := ρ 1) (n5 := ρ 0) (H0 := η 0) (H1 := η 1) (H2 := η 2) f1 f0
theorem q_92vw_2 {q0 : Nat} {n0 n1 n2 n3 n4 n5 n7 : Int} {H0 H1 H2 H3 : gH} (f0 : (hLe T0 H0 H1 ∧ hFr s_92v.2.2.2.2 H0 H1 ∧ hWt T0 H1) ∧ ((Ab_92v_14 n5 n4 n3 n2 n1 n0 H0 H1 ∧ Bb_92_14 n5 n4 n3 n2 n1 n0 H0 H1) ∧ preb_92v n5 H0) ∧ some q0 = some (mub_92v_14 n5 n4 n3 n2 n1 n0 H0 H1)) (f1 : (hLe T0 H1 H2 ∧ hFr s_64v.2.2.2.2 H1 H2 ∧ ((0 : Int) = 0 → H2.length = H1.length) ∧ hWt T0 H2) ∧ postb_64v n4 n7 H1 H2) (f2 : (hLe T0 H2 H3 ∧ hFr s_95.2.2.2.2 H2 H3 ∧ ((0 : Int) = 0 → H3.length = H2.length) ∧ hWt T0 H3) ∧ True) : nb_92 n5 H0 H3 := by
  unfold nb_92
  exact (fRow f2.1.2.1 46 (by decide +kernel)).trans ((fRow f1.1.2.1 46 (by decide +kernel)).trans (show hV H1 46 = hV H0 46 from f0.2.1.1.2))
def g_92vw_14_1 : vG := ([(1095, [1, 8], [2, 3], 0), (1064, [1, 7], [1, 2], 0), (5000, [0, 1, 2, 3, 4, 5], [0, 1], 14)], (3000, [], [3], 272))
theorem c_92vw_14_1 {q0 : Nat} : vOkm T0 (eN e_92v L_92vw A_92v mu_92v n_92 B_92 (some q0)) 1 g_92vw_14_1 := vOk_inI fun ρ η f0 f1 f2 => q_92vw_2 (q0 := q0) (n0 := ρ 5) (n1 := ρ 4) (n2 := ρ 3) (n3 := ρ 2) (n4 := ρ 1) (n5 := ρ 0) (n7 := ρ 7) (H0 := η 0) (H1 := η 1) (H2 := η 2) (H3 := η 3) f2 f1 f0
theorem q_92vw_3 {q0 : Nat} {n0 n1 n2 n3 n4 n5 : Int} {H0 H1 H2 : gH} (f0 : (hLe T0 H0 H1 ∧ hFr s_92v.2.2.2.2 H0 H1 ∧ hWt T0 H1) ∧ ((Ab_92v_14 n5 n4 n3 n2 n1 n0 H0 H1 ∧ Bb_92_14 n5 n4 n3 n2 n1 n0 H0 H1) ∧ preb_92v n5 H0) ∧ some q0 = some (mub_92v_14 n5 n4 n3 n2 n1 n0 H0 H1)) (f1 : (hLe T0 H1 H2 ∧ hFr s_95.2.2.2.2 H1 H2 ∧ ((0 : Int) = 0 → H2.length = H1.length) ∧ hWt T0 H2) ∧ True) : nb_92 n5 H0 H2 := by
  unfold nb_92
  exact (fRow f1.1.2.1 46 (by decide +kernel)).trans (show hV H1 46 = hV H0 46 from f0.2.1.1.2)
def g_92vw_14_2 : vG := ([(1095, [1, 8], [1, 2], 0), (5000, [0, 1, 2, 3, 4, 5], [0, 1], 14)], (3000, [], [2], 272))
theorem c_92vw_14_2 {q0 : Nat} : vOkm T0 (eN e_92v L_92vw A_92v mu_92v n_92 B_92 (some q0)) 1 g_92vw_14_2 := vOk_inI fun ρ η f0 f1 => q_92vw_3 (q0 := q0) (n0 := ρ 5) (n1 := ρ 4) (n2 := ρ 3) (n3 := ρ 2) (n4 := ρ 1) (n5 := ρ 0) (H0 := η 0) (H1 := η 1) (H2 := η 2) f1 f0
theorem q_92vw_4 {q0 : Nat} {n0 n1 n2 n3 n4 n5 n8 : Int} {H0 H1 H2 H3 : gH} (f0 : (hLe T0 H0 H1 ∧ hFr s_92v.2.2.2.2 H0 H1 ∧ hWt T0 H1) ∧ ((Ab_92v_14 n5 n4 n3 n2 n1 n0 H0 H1 ∧ Bb_92_14 n5 n4 n3 n2 n1 n0 H0 H1) ∧ preb_92v n5 H0) ∧ some q0 = some (mub_92v_14 n5 n4 n3 n2 n1 n0 H0 H1)) (f1 : (hLe T0 H1 H2 ∧ hFr s_64v.2.2.2.2 H1 H2 ∧ ((0 : Int) = 0 → H2.length = H1.length) ∧ hWt T0 H2) ∧ postb_64v n4 n8 H1 H2) (f2 : (hLe T0 H2 H3 ∧ hFr s_95.2.2.2.2 H2 H3 ∧ ((0 : Int) = 0 → H3.length = H2.length) ∧ hWt T0 H3) ∧ True) : nb_92 n5 H0 H3 := by
  unfold nb_92
  exact (fRow f2.1.2.1 46 (by decide +kernel)).trans ((fRow f1.1.2.1 46 (by decide +kernel)).trans (show hV H1 46 = hV H0 46 from f0.2.1.1.2))
def g_92vw_14_3 : vG := ([(1095, [1, 9], [2, 3], 0), (1064, [1, 8], [1, 2], 0), (5000, [0, 1, 2, 3, 4, 5], [0, 1], 14)], (3000, [], [3], 272))
theorem c_92vw_14_3 {q0 : Nat} : vOkm T0 (eN e_92v L_92vw A_92v mu_92v n_92 B_92 (some q0)) 1 g_92vw_14_3 := vOk_inI fun ρ η f0 f1 f2 => q_92vw_4 (q0 := q0) (n0 := ρ 5) (n1 := ρ 4) (n2 := ρ 3) (n3 := ρ 2) (n4 := ρ 1) (n5 := ρ 0) (n8 := ρ 8) (H0 := η 0) (H1 := η 1) (H2 := η 2) (H3 := η 3) f2 f1 f0
theorem q_92vw_5 {q0 : Nat} {n0 n1 n2 n3 n4 n5 : Int} {H0 H1 H2 : gH} (f0 : (hLe T0 H0 H1 ∧ hFr s_92v.2.2.2.2 H0 H1 ∧ hWt T0 H1) ∧ ((Ab_92v_14 n5 n4 n3 n2 n1 n0 H0 H1 ∧ Bb_92_14 n5 n4 n3 n2 n1 n0 H0 H1) ∧ preb_92v n5 H0) ∧ some q0 = some (mub_92v_14 n5 n4 n3 n2 n1 n0 H0 H1)) (f1 : (hLe T0 H1 H2 ∧ hFr s_95.2.2.2.2 H1 H2 ∧ ((0 : Int) = 0 → H2.length = H1.length) ∧ hWt T0 H2) ∧ True) : nb_92 n5 H0 H2 := by
  unfold nb_92
  exact (fRow f1.1.2.1 46 (by decide +kernel)).trans (show hV H1 46 = hV H0 46 from f0.2.1.1.2)
def g_92vw_14_4 : vG := ([(1095, [1, 8], [1, 2], 0), (5000, [0, 1, 2, 3, 4, 5], [0, 1], 14)], (3000, [], [2], 272))
theorem c_92vw_14_4 {q0 : Nat} : vOkm T0 (eN e_92v L_92vw A_92v mu_92v n_92 B_92 (some q0)) 1 g_92vw_14_4 := vOk_inI fun ρ η f0 f1 => q_92vw_5 (q0 := q0) (n0 := ρ 5) (n1 := ρ 4) (n2 := ρ 3) (n3 := ρ 2) (n4 := ρ 1) (n5 := ρ 0) (H0 := η 0) (H1 := η 1) (H2 := η 2) f1 f0
theorem q_92vw_6 {q0 : Nat} {n0 n1 n2 n3 n4 n5 n8 : Int} {H0 H1 H2 H3 : gH} (f0 : (hLe T0 H0 H1 ∧ hFr s_92v.2.2.2.2 H0 H1 ∧ hWt T0 H1) ∧ ((Ab_92v_14 n5 n4 n3 n2 n1 n0 H0 H1 ∧ Bb_92_14 n5 n4 n3 n2 n1 n0 H0 H1) ∧ preb_92v n5 H0) ∧ some q0 = some (mub_92v_14 n5 n4 n3 n2 n1 n0 H0 H1)) (f1 : (hLe T0 H1 H2 ∧ hFr s_64v.2.2.2.2 H1 H2 ∧ ((0 : Int) = 0 → H2.length = H1.length) ∧ hWt T0 H2) ∧ postb_64v n4 n8 H1 H2) (f2 : (hLe T0 H2 H3 ∧ hFr s_95.2.2.2.2 H2 H3 ∧ ((0 : Int) = 0 → H3.length = H2.length) ∧ hWt T0 H3) ∧ True) : nb_92 n5 H0 H3 := by
  unfold nb_92
  exact (fRow f2.1.2.1 46 (by decide +kernel)).trans ((fRow f1.1.2.1 46 (by decide +kernel)).trans (show hV H1 46 = hV H0 46 from f0.2.1.1.2))
def g_92vw_14_5 : vG := ([(1095, [1, 9], [2, 3], 0), (1064, [1, 8], [1, 2], 0), (5000, [0, 1, 2, 3, 4, 5], [0, 1], 14)], (3000, [], [3], 272))
theorem c_92vw_14_5 {q0 : Nat} : vOkm T0 (eN e_92v L_92vw A_92v mu_92v n_92 B_92 (some q0)) 1 g_92vw_14_5 := vOk_inI fun ρ η f0 f1 f2 => q_92vw_6 (q0 := q0) (n0 := ρ 5) (n1 := ρ 4) (n2 := ρ 3) (n3 := ρ 2) (n4 := ρ 1) (n5 := ρ 0) (n8 := ρ 8) (H0 := η 0) (H1 := η 1) (H2 := η 2) (H3 := η 3) f2 f1 f0
theorem q_92vw_7 {q0 : Nat} {n0 n1 n2 n3 n4 n5 n8 n13 : Int} {H0 H1 : gH} (f0 : (hLe T0 H0 H1 ∧ hFr s_92v.2.2.2.2 H0 H1 ∧ hWt T0 H1) ∧ ((Ab_92v_14 n5 n4 n3 n2 n1 n0 H0 H1 ∧ Bb_92_14 n5 n4 n3 n2 n1 n0 H0 H1) ∧ preb_92v n5 H0) ∧ some q0 = some (mub_92v_14 n5 n4 n3 n2 n1 n0 H0 H1)) : Bb_92_228 n5 n4 n3 n2 n13 n0 n8 H0 H1 := by
  unfold Bb_92_228
  exact show hV H1 46 = hV H0 46 from f0.2.1.1.2
def g_92vw_14_6 : vG := ([(5000, [0, 1, 2, 3, 4, 5], [0, 1], 14)], (4000, [1, 2, 3, 13, 5, 8], [1], 228))
theorem c_92vw_14_6 {q0 : Nat} : vOkm T0 (eN e_92v L_92vw A_92v mu_92v n_92 B_92 (some q0)) 1 g_92vw_14_6 := vOk_inI fun ρ η f0 => q_92vw_7 (q0 := q0) (n0 := ρ 5) (n1 := ρ 4) (n2 := ρ 3) (n3 := ρ 2) (n4 := ρ 1) (n5 := ρ 0) (n8 := ρ 8) (n13 := ρ 13) (H0 := η 0) (H1 := η 1) f0
theorem q_92vw_8 {q0 : Nat} {n0 n1 n2 n3 n4 n5 n8 n15 : Int} {H0 H1 : gH} (f0 : (hLe T0 H0 H1 ∧ hFr s_92v.2.2.2.2 H0 H1 ∧ hWt T0 H1) ∧ ((Ab_92v_14 n5 n4 n3 n2 n1 n0 H0 H1 ∧ Bb_92_14 n5 n4 n3 n2 n1 n0 H0 H1) ∧ preb_92v n5 H0) ∧ some q0 = some (mub_92v_14 n5 n4 n3 n2 n1 n0 H0 H1)) : Bb_92_228 n5 n4 n3 n2 n15 n0 n8 H0 H1 := by
  unfold Bb_92_228
  exact show hV H1 46 = hV H0 46 from f0.2.1.1.2
def g_92vw_14_7 : vG := ([(5000, [0, 1, 2, 3, 4, 5], [0, 1], 14)], (4000, [1, 2, 3, 15, 5, 8], [1], 228))
theorem c_92vw_14_7 {q0 : Nat} : vOkm T0 (eN e_92v L_92vw A_92v mu_92v n_92 B_92 (some q0)) 1 g_92vw_14_7 := vOk_inI fun ρ η f0 => q_92vw_8 (q0 := q0) (n0 := ρ 5) (n1 := ρ 4) (n2 := ρ 3) (n3 := ρ 2) (n4 := ρ 1) (n5 := ρ 0) (n8 := ρ 8) (n15 := ρ 15) (H0 := η 0) (H1 := η 1) f0
theorem q_92vw_9 {q0 : Nat} {n0 n1 n2 n3 n4 n5 n8 n17 n18 : Int} {H0 H1 H2 H3 H4 : gH} (f0 : (hLe T0 H0 H1 ∧ hFr s_92v.2.2.2.2 H0 H1 ∧ hWt T0 H1) ∧ ((Ab_92v_14 n5 n4 n3 n2 n1 n0 H0 H1 ∧ Bb_92_14 n5 n4 n3 n2 n1 n0 H0 H1) ∧ preb_92v n5 H0) ∧ some q0 = some (mub_92v_14 n5 n4 n3 n2 n1 n0 H0 H1)) (f1 : (hLe T0 H1 H2 ∧ hFr s_93.2.2.2.2 H1 H2 ∧ ((0 : Int) = 0 → H2.length = H1.length) ∧ hWt T0 H2) ∧ True) (f2 : (hLe T0 H2 H3 ∧ hFr s_95.2.2.2.2 H2 H3 ∧ ((0 : Int) = 0 → H3.length = H2.length) ∧ hWt T0 H3) ∧ True) (f3 : (hLe T0 H3 H4 ∧ hFr s_94.2.2.2.2 H3 H4 ∧ ((0 : Int) = 0 → H4.length = H3.length) ∧ hWt T0 H4) ∧ (True ∧ nb_94 n4 n17 H3 H4)) : Bb_92_228 n5 n4 n3 n18 n1 n0 n8 H0 H4 := by
  unfold Bb_92_228
  exact (show hV H4 46 = hV H3 46 from f3.2.2).trans ((fRow f2.1.2.1 46 (by decide +kernel)).trans ((fRow f1.1.2.1 46 (by decide +kernel)).trans (show hV H1 46 = hV H0 46 from f0.2.1.1.2)))
def g_92vw_14_8 : vG := ([(1094, [1, 17], [3, 4], 0), (1095, [1, 16], [2, 3], 0), (1093, [16, 15], [1, 2], 0), (5000, [0, 1, 2, 3, 4, 5], [0, 1], 14)], (4000, [1, 2, 18, 4, 5, 8], [4], 228))
theorem c_92vw_14_8 {q0 : Nat} : vOkm T0 (eN e_92v L_92vw A_92v mu_92v n_92 B_92 (some q0)) 1 g_92vw_14_8 := vOk_inI fun ρ η f0 f1 f2 f3 => q_92vw_9 (q0 := q0) (n0 := ρ 5) (n1 := ρ 4) (n2 := ρ 3) (n3 := ρ 2) (n4 := ρ 1) (n5 := ρ 0) (n8 := ρ 8) (n17 := ρ 17) (n18 := ρ 18) (H0 := η 0) (H1 := η 1) (H2 := η 2) (H3 := η 3) (H4 := η 4) f3 f2 f1 f0
theorem q_92vw_10 {q0 : Nat} {n0 n1 n2 n3 n4 n5 n8 n13 : Int} {H0 H1 : gH} (f0 : (hLe T0 H0 H1 ∧ hFr s_92v.2.2.2.2 H0 H1 ∧ hWt T0 H1) ∧ ((Ab_92v_14 n5 n4 n3 n2 n1 n0 H0 H1 ∧ Bb_92_14 n5 n4 n3 n2 n1 n0 H0 H1) ∧ preb_92v n5 H0) ∧ some q0 = some (mub_92v_14 n5 n4 n3 n2 n1 n0 H0 H1)) : Bb_92_228 n5 n4 n3 n2 n13 n0 n8 H0 H1 := by
  unfold Bb_92_228
  exact show hV H1 46 = hV H0 46 from f0.2.1.1.2
def g_92vw_14_9 : vG := ([(5000, [0, 1, 2, 3, 4, 5], [0, 1], 14)], (4000, [1, 2, 3, 13, 5, 8], [1], 228))
theorem c_92vw_14_9 {q0 : Nat} : vOkm T0 (eN e_92v L_92vw A_92v mu_92v n_92 B_92 (some q0)) 1 g_92vw_14_9 := vOk_inI fun ρ η f0 => q_92vw_10 (q0 := q0) (n0 := ρ 5) (n1 := ρ 4) (n2 := ρ 3) (n3 := ρ 2) (n4 := ρ 1) (n5 := ρ 0) (n8 := ρ 8) (n13 := ρ 13) (H0 := η 0) (H1 := η 1) f0
theorem q_92vw_11 {q0 : Nat} {n0 n1 n2 n3 n4 n5 n8 n15 : Int} {H0 H1 : gH} (f0 : (hLe T0 H0 H1 ∧ hFr s_92v.2.2.2.2 H0 H1 ∧ hWt T0 H1) ∧ ((Ab_92v_14 n5 n4 n3 n2 n1 n0 H0 H1 ∧ Bb_92_14 n5 n4 n3 n2 n1 n0 H0 H1) ∧ preb_92v n5 H0) ∧ some q0 = some (mub_92v_14 n5 n4 n3 n2 n1 n0 H0 H1)) : Bb_92_228 n5 n4 n3 n2 n15 n0 n8 H0 H1 := by
  unfold Bb_92_228
  exact show hV H1 46 = hV H0 46 from f0.2.1.1.2
def g_92vw_14_10 : vG := ([(5000, [0, 1, 2, 3, 4, 5], [0, 1], 14)], (4000, [1, 2, 3, 15, 5, 8], [1], 228))
theorem c_92vw_14_10 {q0 : Nat} : vOkm T0 (eN e_92v L_92vw A_92v mu_92v n_92 B_92 (some q0)) 1 g_92vw_14_10 := vOk_inI fun ρ η f0 => q_92vw_11 (q0 := q0) (n0 := ρ 5) (n1 := ρ 4) (n2 := ρ 3) (n3 := ρ 2) (n4 := ρ 1) (n5 := ρ 0) (n8 := ρ 8) (n15 := ρ 15) (H0 := η 0) (H1 := η 1) f0
theorem q_92vw_12 {q0 : Nat} {n0 n1 n2 n3 n4 n5 n8 n17 n18 : Int} {H0 H1 H2 H3 H4 : gH} (f0 : (hLe T0 H0 H1 ∧ hFr s_92v.2.2.2.2 H0 H1 ∧ hWt T0 H1) ∧ ((Ab_92v_14 n5 n4 n3 n2 n1 n0 H0 H1 ∧ Bb_92_14 n5 n4 n3 n2 n1 n0 H0 H1) ∧ preb_92v n5 H0) ∧ some q0 = some (mub_92v_14 n5 n4 n3 n2 n1 n0 H0 H1)) (f1 : (hLe T0 H1 H2 ∧ hFr s_93.2.2.2.2 H1 H2 ∧ ((0 : Int) = 0 → H2.length = H1.length) ∧ hWt T0 H2) ∧ True) (f2 : (hLe T0 H2 H3 ∧ hFr s_95.2.2.2.2 H2 H3 ∧ ((0 : Int) = 0 → H3.length = H2.length) ∧ hWt T0 H3) ∧ True) (f3 : (hLe T0 H3 H4 ∧ hFr s_94.2.2.2.2 H3 H4 ∧ ((0 : Int) = 0 → H4.length = H3.length) ∧ hWt T0 H4) ∧ (True ∧ nb_94 n4 n17 H3 H4)) : Bb_92_228 n5 n4 n3 n18 n1 n0 n8 H0 H4 := by
  unfold Bb_92_228
  exact (show hV H4 46 = hV H3 46 from f3.2.2).trans ((fRow f2.1.2.1 46 (by decide +kernel)).trans ((fRow f1.1.2.1 46 (by decide +kernel)).trans (show hV H1 46 = hV H0 46 from f0.2.1.1.2)))
def g_92vw_14_11 : vG := ([(1094, [1, 17], [3, 4], 0), (1095, [1, 16], [2, 3], 0), (1093, [16, 15], [1, 2], 0), (5000, [0, 1, 2, 3, 4, 5], [0, 1], 14)], (4000, [1, 2, 18, 4, 5, 8], [4], 228))
theorem c_92vw_14_11 {q0 : Nat} : vOkm T0 (eN e_92v L_92vw A_92v mu_92v n_92 B_92 (some q0)) 1 g_92vw_14_11 := vOk_inI fun ρ η f0 f1 f2 f3 => q_92vw_12 (q0 := q0) (n0 := ρ 5) (n1 := ρ 4) (n2 := ρ 3) (n3 := ρ 2) (n4 := ρ 1) (n5 := ρ 0) (n8 := ρ 8) (n17 := ρ 17) (n18 := ρ 18) (H0 := η 0) (H1 := η 1) (H2 := η 2) (H3 := η 3) (H4 := η 4) f3 f2 f1 f0
theorem q_92vw_13 {q0 : Nat} {n0 n1 n2 n3 n4 n5 n8 n14 n15 n16 : Int} {H0 H1 H2 H3 : gH} (f0 : n4 = 30) (f1 : (hLe T0 H0 H1 ∧ hFr s_92v.2.2.2.2 H0 H1 ∧ hWt T0 H1) ∧ ((Ab_92v_14 n5 n4 n3 n2 n1 n0 H0 H1 ∧ Bb_92_14 n5 n4 n3 n2 n1 n0 H0 H1) ∧ preb_92v n5 H0) ∧ some q0 = some (mub_92v_14 n5 n4 n3 n2 n1 n0 H0 H1)) (f2 : (hLe T0 H1 H2 ∧ hFr s_95.2.2.2.2 H1 H2 ∧ ((0 : Int) = 0 → H2.length = H1.length) ∧ hWt T0 H2) ∧ True) (f3 : hUpd H3 H2 n4 n15 n14) : Bb_92_228 n5 n4 n16 n2 n1 n0 n8 H0 H3 := by
  unfold Bb_92_228
  exact (uRowNe f3 46 (by rw [f0]; decide)).trans ((fRow f2.1.2.1 46 (by decide +kernel)).trans (show hV H1 46 = hV H0 46 from f1.2.1.1.2))
def g_92vw_14_12 : vG := ([(80, [1, 15, 14], [3, 2], 0), (1095, [1, 11], [1, 2], 0), (5000, [0, 1, 2, 3, 4, 5], [0, 1], 14), (0, [1], [], 30)], (4000, [1, 16, 3, 4, 5, 8], [3], 228))
theorem c_92vw_14_12 {q0 : Nat} : vOkm T0 (eN e_92v L_92vw A_92v mu_92v n_92 B_92 (some q0)) 1 g_92vw_14_12 := vOk_inI fun ρ η f0 f1 f2 f3 => q_92vw_13 (q0 := q0) (n0 := ρ 5) (n1 := ρ 4) (n2 := ρ 3) (n3 := ρ 2) (n4 := ρ 1) (n5 := ρ 0) (n8 := ρ 8) (n14 := ρ 14) (n15 := ρ 15) (n16 := ρ 16) (H0 := η 0) (H1 := η 1) (H2 := η 2) (H3 := η 3) f3 f2 f1 f0
theorem q_92vw_14 {q0 : Nat} {n0 n1 n2 n3 n4 n5 n13 n14 n15 n17 n18 : Int} {H0 H1 H2 H3 : gH} (f0 : (hLe T0 H0 H1 ∧ hFr s_92v.2.2.2.2 H0 H1 ∧ hWt T0 H1) ∧ ((Ab_92v_14 n5 n4 n3 n2 n1 n0 H0 H1 ∧ Bb_92_14 n5 n4 n3 n2 n1 n0 H0 H1) ∧ preb_92v n5 H0) ∧ some q0 = some (mub_92v_14 n5 n4 n3 n2 n1 n0 H0 H1)) (f1 : (hLe T0 H1 H2 ∧ hFr s_123v.2.2.2.2 H1 H2 ∧ ((0 : Int) = 0 → H2.length = H1.length) ∧ hWt T0 H2) ∧ postb_123v n15 n13 n14 H1 H2) (f2 : (hLe T0 H2 H3 ∧ hFr s_98.2.2.2.2 H2 H3 ∧ ((0 : Int) = 0 → H3.length = H2.length) ∧ hWt T0 H3) ∧ True) : Bb_92_228 n5 n4 n3 n18 n1 n0 n17 H0 H3 := by
  unfold Bb_92_228
  exact (fRow f2.1.2.1 46 (by decide +kernel)).trans ((fRow f1.1.2.1 46 (by decide +kernel)).trans (show hV H1 46 = hV H0 46 from f0.2.1.1.2))
def g_92vw_14_13 : vG := ([(1098, [12, 16], [2, 3], 0), (1123, [15, 13, 14], [1, 2], 0), (5000, [0, 1, 2, 3, 4, 5], [0, 1], 14)], (4000, [1, 2, 18, 4, 5, 17], [3], 228))
theorem c_92vw_14_13 {q0 : Nat} : vOkm T0 (eN e_92v L_92vw A_92v mu_92v n_92 B_92 (some q0)) 1 g_92vw_14_13 := vOk_inI fun ρ η f0 f1 f2 => q_92vw_14 (q0 := q0) (n0 := ρ 5) (n1 := ρ 4) (n2 := ρ 3) (n3 := ρ 2) (n4 := ρ 1) (n5 := ρ 0) (n13 := ρ 13) (n14 := ρ 14) (n15 := ρ 15) (n17 := ρ 17) (n18 := ρ 18) (H0 := η 0) (H1 := η 1) (H2 := η 2) (H3 := η 3) f2 f1 f0
theorem q_92vw_15 {q0 : Nat} {n0 n1 n2 n3 n4 n5 n13 n14 n15 n17 n18 : Int} {H0 H1 H2 H3 : gH} (f0 : (hLe T0 H0 H1 ∧ hFr s_92v.2.2.2.2 H0 H1 ∧ hWt T0 H1) ∧ ((Ab_92v_14 n5 n4 n3 n2 n1 n0 H0 H1 ∧ Bb_92_14 n5 n4 n3 n2 n1 n0 H0 H1) ∧ preb_92v n5 H0) ∧ some q0 = some (mub_92v_14 n5 n4 n3 n2 n1 n0 H0 H1)) (f1 : (hLe T0 H1 H2 ∧ hFr s_123v.2.2.2.2 H1 H2 ∧ ((0 : Int) = 0 → H2.length = H1.length) ∧ hWt T0 H2) ∧ postb_123v n15 n13 n14 H1 H2) (f2 : (hLe T0 H2 H3 ∧ hFr s_98.2.2.2.2 H2 H3 ∧ ((0 : Int) = 0 → H3.length = H2.length) ∧ hWt T0 H3) ∧ True) : Bb_92_228 n5 n4 n3 n18 n1 n0 n17 H0 H3 := by
  unfold Bb_92_228
  exact (fRow f2.1.2.1 46 (by decide +kernel)).trans ((fRow f1.1.2.1 46 (by decide +kernel)).trans (show hV H1 46 = hV H0 46 from f0.2.1.1.2))
def g_92vw_14_14 : vG := ([(1098, [12, 16], [2, 3], 0), (1123, [15, 13, 14], [1, 2], 0), (5000, [0, 1, 2, 3, 4, 5], [0, 1], 14)], (4000, [1, 2, 18, 4, 5, 17], [3], 228))
theorem c_92vw_14_14 {q0 : Nat} : vOkm T0 (eN e_92v L_92vw A_92v mu_92v n_92 B_92 (some q0)) 1 g_92vw_14_14 := vOk_inI fun ρ η f0 f1 f2 => q_92vw_15 (q0 := q0) (n0 := ρ 5) (n1 := ρ 4) (n2 := ρ 3) (n3 := ρ 2) (n4 := ρ 1) (n5 := ρ 0) (n13 := ρ 13) (n14 := ρ 14) (n15 := ρ 15) (n17 := ρ 17) (n18 := ρ 18) (H0 := η 0) (H1 := η 1) (H2 := η 2) (H3 := η 3) f2 f1 f0
theorem q_92vw_16 {q0 : Nat} {n0 n1 n2 n3 n4 n5 n16 n17 : Int} {H0 H1 H2 : gH} (f0 : (hLe T0 H0 H1 ∧ hFr s_92v.2.2.2.2 H0 H1 ∧ hWt T0 H1) ∧ ((Ab_92v_14 n5 n4 n3 n2 n1 n0 H0 H1 ∧ Bb_92_14 n5 n4 n3 n2 n1 n0 H0 H1) ∧ preb_92v n5 H0) ∧ some q0 = some (mub_92v_14 n5 n4 n3 n2 n1 n0 H0 H1)) (f1 : (hLe T0 H1 H2 ∧ hFr s_98.2.2.2.2 H1 H2 ∧ ((0 : Int) = 0 → H2.length = H1.length) ∧ hWt T0 H2) ∧ True) : Bb_92_228 n5 n4 n3 n17 n1 n0 n16 H0 H2 := by
  unfold Bb_92_228
  exact (fRow f1.1.2.1 46 (by decide +kernel)).trans (show hV H1 46 = hV H0 46 from f0.2.1.1.2)
def g_92vw_14_15 : vG := ([(1098, [12, 15], [1, 2], 0), (5000, [0, 1, 2, 3, 4, 5], [0, 1], 14)], (4000, [1, 2, 17, 4, 5, 16], [2], 228))
theorem c_92vw_14_15 {q0 : Nat} : vOkm T0 (eN e_92v L_92vw A_92v mu_92v n_92 B_92 (some q0)) 1 g_92vw_14_15 := vOk_inI fun ρ η f0 f1 => q_92vw_16 (q0 := q0) (n0 := ρ 5) (n1 := ρ 4) (n2 := ρ 3) (n3 := ρ 2) (n4 := ρ 1) (n5 := ρ 0) (n16 := ρ 16) (n17 := ρ 17) (H0 := η 0) (H1 := η 1) (H2 := η 2) f1 f0
theorem q_92vw_17 {q0 : Nat} {n0 n1 n2 n3 n4 n5 n16 n17 : Int} {H0 H1 H2 : gH} (f0 : (hLe T0 H0 H1 ∧ hFr s_92v.2.2.2.2 H0 H1 ∧ hWt T0 H1) ∧ ((Ab_92v_14 n5 n4 n3 n2 n1 n0 H0 H1 ∧ Bb_92_14 n5 n4 n3 n2 n1 n0 H0 H1) ∧ preb_92v n5 H0) ∧ some q0 = some (mub_92v_14 n5 n4 n3 n2 n1 n0 H0 H1)) (f1 : (hLe T0 H1 H2 ∧ hFr s_98.2.2.2.2 H1 H2 ∧ ((0 : Int) = 0 → H2.length = H1.length) ∧ hWt T0 H2) ∧ True) : Bb_92_228 n5 n4 n3 n17 n1 n0 n16 H0 H2 := by
  unfold Bb_92_228
  exact (fRow f1.1.2.1 46 (by decide +kernel)).trans (show hV H1 46 = hV H0 46 from f0.2.1.1.2)
def g_92vw_14_16 : vG := ([(1098, [12, 15], [1, 2], 0), (5000, [0, 1, 2, 3, 4, 5], [0, 1], 14)], (4000, [1, 2, 17, 4, 5, 16], [2], 228))
theorem c_92vw_14_16 {q0 : Nat} : vOkm T0 (eN e_92v L_92vw A_92v mu_92v n_92 B_92 (some q0)) 1 g_92vw_14_16 := vOk_inI fun ρ η f0 f1 => q_92vw_17 (q0 := q0) (n0 := ρ 5) (n1 := ρ 4) (n2 := ρ 3) (n3 := ρ 2) (n4 := ρ 1) (n5 := ρ 0) (n16 := ρ 16) (n17 := ρ 17) (H0 := η 0) (H1 := η 1) (H2 := η 2) f1 f0
theorem q_92vw_18 {q0 : Nat} {n0 n1 n2 n3 n4 n5 n15 n16 n17 n19 n20 : Int} {H0 H1 H2 H3 : gH} (f0 : (hLe T0 H0 H1 ∧ hFr s_92v.2.2.2.2 H0 H1 ∧ hWt T0 H1) ∧ ((Ab_92v_14 n5 n4 n3 n2 n1 n0 H0 H1 ∧ Bb_92_14 n5 n4 n3 n2 n1 n0 H0 H1) ∧ preb_92v n5 H0) ∧ some q0 = some (mub_92v_14 n5 n4 n3 n2 n1 n0 H0 H1)) (f1 : (hLe T0 H1 H2 ∧ hFr s_123v.2.2.2.2 H1 H2 ∧ ((0 : Int) = 0 → H2.length = H1.length) ∧ hWt T0 H2) ∧ postb_123v n17 n15 n16 H1 H2) (f2 : (hLe T0 H2 H3 ∧ hFr s_98.2.2.2.2 H2 H3 ∧ ((0 : Int) = 0 → H3.length = H2.length) ∧ hWt T0 H3) ∧ True) : Bb_92_228 n5 n4 n3 n20 n1 n0 n19 H0 H3 := by
  unfold Bb_92_228
  exact (fRow f2.1.2.1 46 (by decide +kernel)).trans ((fRow f1.1.2.1 46 (by decide +kernel)).trans (show hV H1 46 = hV H0 46 from f0.2.1.1.2))
def g_92vw_14_17 : vG := ([(1098, [14, 18], [2, 3], 0), (1123, [17, 15, 16], [1, 2], 0), (5000, [0, 1, 2, 3, 4, 5], [0, 1], 14)], (4000, [1, 2, 20, 4, 5, 19], [3], 228))
theorem c_92vw_14_17 {q0 : Nat} : vOkm T0 (eN e_92v L_92vw A_92v mu_92v n_92 B_92 (some q0)) 1 g_92vw_14_17 := vOk_inI fun ρ η f0 f1 f2 => q_92vw_18 (q0 := q0) (n0 := ρ 5) (n1 := ρ 4) (n2 := ρ 3) (n3 := ρ 2) (n4 := ρ 1) (n5 := ρ 0) (n15 := ρ 15) (n16 := ρ 16) (n17 := ρ 17) (n19 := ρ 19) (n20 := ρ 20) (H0 := η 0) (H1 := η 1) (H2 := η 2) (H3 := η 3) f2 f1 f0
theorem q_92vw_19 {q0 : Nat} {n0 n1 n2 n3 n4 n5 n15 n16 n17 n19 n20 : Int} {H0 H1 H2 H3 : gH} (f0 : (hLe T0 H0 H1 ∧ hFr s_92v.2.2.2.2 H0 H1 ∧ hWt T0 H1) ∧ ((Ab_92v_14 n5 n4 n3 n2 n1 n0 H0 H1 ∧ Bb_92_14 n5 n4 n3 n2 n1 n0 H0 H1) ∧ preb_92v n5 H0) ∧ some q0 = some (mub_92v_14 n5 n4 n3 n2 n1 n0 H0 H1)) (f1 : (hLe T0 H1 H2 ∧ hFr s_123v.2.2.2.2 H1 H2 ∧ ((0 : Int) = 0 → H2.length = H1.length) ∧ hWt T0 H2) ∧ postb_123v n17 n15 n16 H1 H2) (f2 : (hLe T0 H2 H3 ∧ hFr s_98.2.2.2.2 H2 H3 ∧ ((0 : Int) = 0 → H3.length = H2.length) ∧ hWt T0 H3) ∧ True) : Bb_92_228 n5 n4 n3 n20 n1 n0 n19 H0 H3 := by
  unfold Bb_92_228
  exact (fRow f2.1.2.1 46 (by decide +kernel)).trans ((fRow f1.1.2.1 46 (by decide +kernel)).trans (show hV H1 46 = hV H0 46 from f0.2.1.1.2))
def g_92vw_14_18 : vG := ([(1098, [14, 18], [2, 3], 0), (1123, [17, 15, 16], [1, 2], 0), (5000, [0, 1, 2, 3, 4, 5], [0, 1], 14)], (4000, [1, 2, 20, 4, 5, 19], [3], 228))
theorem c_92vw_14_18 {q0 : Nat} : vOkm T0 (eN e_92v L_92vw A_92v mu_92v n_92 B_92 (some q0)) 1 g_92vw_14_18 := vOk_inI fun ρ η f0 f1 f2 => q_92vw_19 (q0 := q0) (n0 := ρ 5) (n1 := ρ 4) (n2 := ρ 3) (n3 := ρ 2) (n4 := ρ 1) (n5 := ρ 0) (n15 := ρ 15) (n16 := ρ 16) (n17 := ρ 17) (n19 := ρ 19) (n20 := ρ 20) (H0 := η 0) (H1 := η 1) (H2 := η 2) (H3 := η 3) f2 f1 f0
theorem q_92vw_20 {q0 : Nat} {n0 n1 n2 n3 n4 n5 n18 n19 : Int} {H0 H1 H2 : gH} (f0 : (hLe T0 H0 H1 ∧ hFr s_92v.2.2.2.2 H0 H1 ∧ hWt T0 H1) ∧ ((Ab_92v_14 n5 n4 n3 n2 n1 n0 H0 H1 ∧ Bb_92_14 n5 n4 n3 n2 n1 n0 H0 H1) ∧ preb_92v n5 H0) ∧ some q0 = some (mub_92v_14 n5 n4 n3 n2 n1 n0 H0 H1)) (f1 : (hLe T0 H1 H2 ∧ hFr s_98.2.2.2.2 H1 H2 ∧ ((0 : Int) = 0 → H2.length = H1.length) ∧ hWt T0 H2) ∧ True) : Bb_92_228 n5 n4 n3 n19 n1 n0 n18 H0 H2 := by
  unfold Bb_92_228
  exact (fRow f1.1.2.1 46 (by decide +kernel)).trans (show hV H1 46 = hV H0 46 from f0.2.1.1.2)
def g_92vw_14_19 : vG := ([(1098, [14, 17], [1, 2], 0), (5000, [0, 1, 2, 3, 4, 5], [0, 1], 14)], (4000, [1, 2, 19, 4, 5, 18], [2], 228))
theorem c_92vw_14_19 {q0 : Nat} : vOkm T0 (eN e_92v L_92vw A_92v mu_92v n_92 B_92 (some q0)) 1 g_92vw_14_19 := vOk_inI fun ρ η f0 f1 => q_92vw_20 (q0 := q0) (n0 := ρ 5) (n1 := ρ 4) (n2 := ρ 3) (n3 := ρ 2) (n4 := ρ 1) (n5 := ρ 0) (n18 := ρ 18) (n19 := ρ 19) (H0 := η 0) (H1 := η 1) (H2 := η 2) f1 f0
theorem q_92vw_21 {q0 : Nat} {n0 n1 n2 n3 n4 n5 n18 n19 : Int} {H0 H1 H2 : gH} (f0 : (hLe T0 H0 H1 ∧ hFr s_92v.2.2.2.2 H0 H1 ∧ hWt T0 H1) ∧ ((Ab_92v_14 n5 n4 n3 n2 n1 n0 H0 H1 ∧ Bb_92_14 n5 n4 n3 n2 n1 n0 H0 H1) ∧ preb_92v n5 H0) ∧ some q0 = some (mub_92v_14 n5 n4 n3 n2 n1 n0 H0 H1)) (f1 : (hLe T0 H1 H2 ∧ hFr s_98.2.2.2.2 H1 H2 ∧ ((0 : Int) = 0 → H2.length = H1.length) ∧ hWt T0 H2) ∧ True) : Bb_92_228 n5 n4 n3 n19 n1 n0 n18 H0 H2 := by
  unfold Bb_92_228
  exact (fRow f1.1.2.1 46 (by decide +kernel)).trans (show hV H1 46 = hV H0 46 from f0.2.1.1.2)
def g_92vw_14_20 : vG := ([(1098, [14, 17], [1, 2], 0), (5000, [0, 1, 2, 3, 4, 5], [0, 1], 14)], (4000, [1, 2, 19, 4, 5, 18], [2], 228))
theorem c_92vw_14_20 {q0 : Nat} : vOkm T0 (eN e_92v L_92vw A_92v mu_92v n_92 B_92 (some q0)) 1 g_92vw_14_20 := vOk_inI fun ρ η f0 f1 => q_92vw_21 (q0 := q0) (n0 := ρ 5) (n1 := ρ 4) (n2 := ρ 3) (n3 := ρ 2) (n4 := ρ 1) (n5 := ρ 0) (n18 := ρ 18) (n19 := ρ 19) (H0 := η 0) (H1 := η 1) (H2 := η 2) f1 f0
theorem q_92vw_22 {q0 : Nat} {n0 n1 n2 n3 n4 n5 n15 n16 n17 n19 n20 : Int} {H0 H1 H2 H3 : gH} (f0 : (hLe T0 H0 H1 ∧ hFr s_92v.2.2.2.2 H0 H1 ∧ hWt T0 H1) ∧ ((Ab_92v_14 n5 n4 n3 n2 n1 n0 H0 H1 ∧ Bb_92_14 n5 n4 n3 n2 n1 n0 H0 H1) ∧ preb_92v n5 H0) ∧ some q0 = some (mub_92v_14 n5 n4 n3 n2 n1 n0 H0 H1)) (f1 : (hLe T0 H1 H2 ∧ hFr s_123v.2.2.2.2 H1 H2 ∧ ((0 : Int) = 0 → H2.length = H1.length) ∧ hWt T0 H2) ∧ postb_123v n17 n15 n16 H1 H2) (f2 : (hLe T0 H2 H3 ∧ hFr s_98.2.2.2.2 H2 H3 ∧ ((0 : Int) = 0 → H3.length = H2.length) ∧ hWt T0 H3) ∧ True) : Bb_92_228 n5 n4 n3 n20 n1 n0 n19 H0 H3 := by
  unfold Bb_92_228
  exact (fRow f2.1.2.1 46 (by decide +kernel)).trans ((fRow f1.1.2.1 46 (by decide +kernel)).trans (show hV H1 46 = hV H0 46 from f0.2.1.1.2))
def g_92vw_14_21 : vG := ([(1098, [14, 18], [2, 3], 0), (1123, [17, 15, 16], [1, 2], 0), (5000, [0, 1, 2, 3, 4, 5], [0, 1], 14)], (4000, [1, 2, 20, 4, 5, 19], [3], 228))
theorem c_92vw_14_21 {q0 : Nat} : vOkm T0 (eN e_92v L_92vw A_92v mu_92v n_92 B_92 (some q0)) 1 g_92vw_14_21 := vOk_inI fun ρ η f0 f1 f2 => q_92vw_22 (q0 := q0) (n0 := ρ 5) (n1 := ρ 4) (n2 := ρ 3) (n3 := ρ 2) (n4 := ρ 1) (n5 := ρ 0) (n15 := ρ 15) (n16 := ρ 16) (n17 := ρ 17) (n19 := ρ 19) (n20 := ρ 20) (H0 := η 0) (H1 := η 1) (H2 := η 2) (H3 := η 3) f2 f1 f0
theorem q_92vw_23 {q0 : Nat} {n0 n1 n2 n3 n4 n5 n15 n16 n17 n19 n20 : Int} {H0 H1 H2 H3 : gH} (f0 : (hLe T0 H0 H1 ∧ hFr s_92v.2.2.2.2 H0 H1 ∧ hWt T0 H1) ∧ ((Ab_92v_14 n5 n4 n3 n2 n1 n0 H0 H1 ∧ Bb_92_14 n5 n4 n3 n2 n1 n0 H0 H1) ∧ preb_92v n5 H0) ∧ some q0 = some (mub_92v_14 n5 n4 n3 n2 n1 n0 H0 H1)) (f1 : (hLe T0 H1 H2 ∧ hFr s_123v.2.2.2.2 H1 H2 ∧ ((0 : Int) = 0 → H2.length = H1.length) ∧ hWt T0 H2) ∧ postb_123v n17 n15 n16 H1 H2) (f2 : (hLe T0 H2 H3 ∧ hFr s_98.2.2.2.2 H2 H3 ∧ ((0 : Int) = 0 → H3.length = H2.length) ∧ hWt T0 H3) ∧ True) : Bb_92_228 n5 n4 n3 n20 n1 n0 n19 H0 H3 := by
  unfold Bb_92_228
  exact (fRow f2.1.2.1 46 (by decide +kernel)).trans ((fRow f1.1.2.1 46 (by decide +kernel)).trans (show hV H1 46 = hV H0 46 from f0.2.1.1.2))
def g_92vw_14_22 : vG := ([(1098, [14, 18], [2, 3], 0), (1123, [17, 15, 16], [1, 2], 0), (5000, [0, 1, 2, 3, 4, 5], [0, 1], 14)], (4000, [1, 2, 20, 4, 5, 19], [3], 228))
theorem c_92vw_14_22 {q0 : Nat} : vOkm T0 (eN e_92v L_92vw A_92v mu_92v n_92 B_92 (some q0)) 1 g_92vw_14_22 := vOk_inI fun ρ η f0 f1 f2 => q_92vw_23 (q0 := q0) (n0 := ρ 5) (n1 := ρ 4) (n2 := ρ 3) (n3 := ρ 2) (n4 := ρ 1) (n5 := ρ 0) (n15 := ρ 15) (n16 := ρ 16) (n17 := ρ 17) (n19 := ρ 19) (n20 := ρ 20) (H0 := η 0) (H1 := η 1) (H2 := η 2) (H3 := η 3) f2 f1 f0
theorem q_92vw_24 {q0 : Nat} {n0 n1 n2 n3 n4 n5 n18 n19 : Int} {H0 H1 H2 : gH} (f0 : (hLe T0 H0 H1 ∧ hFr s_92v.2.2.2.2 H0 H1 ∧ hWt T0 H1) ∧ ((Ab_92v_14 n5 n4 n3 n2 n1 n0 H0 H1 ∧ Bb_92_14 n5 n4 n3 n2 n1 n0 H0 H1) ∧ preb_92v n5 H0) ∧ some q0 = some (mub_92v_14 n5 n4 n3 n2 n1 n0 H0 H1)) (f1 : (hLe T0 H1 H2 ∧ hFr s_98.2.2.2.2 H1 H2 ∧ ((0 : Int) = 0 → H2.length = H1.length) ∧ hWt T0 H2) ∧ True) : Bb_92_228 n5 n4 n3 n19 n1 n0 n18 H0 H2 := by
  unfold Bb_92_228
  exact (fRow f1.1.2.1 46 (by decide +kernel)).trans (show hV H1 46 = hV H0 46 from f0.2.1.1.2)
def g_92vw_14_23 : vG := ([(1098, [14, 17], [1, 2], 0), (5000, [0, 1, 2, 3, 4, 5], [0, 1], 14)], (4000, [1, 2, 19, 4, 5, 18], [2], 228))
theorem c_92vw_14_23 {q0 : Nat} : vOkm T0 (eN e_92v L_92vw A_92v mu_92v n_92 B_92 (some q0)) 1 g_92vw_14_23 := vOk_inI fun ρ η f0 f1 => q_92vw_24 (q0 := q0) (n0 := ρ 5) (n1 := ρ 4) (n2 := ρ 3) (n3 := ρ 2) (n4 := ρ 1) (n5 := ρ 0) (n18 := ρ 18) (n19 := ρ 19) (H0 := η 0) (H1 := η 1) (H2 := η 2) f1 f0
theorem q_92vw_25 {q0 : Nat} {n0 n1 n2 n3 n4 n5 n18 n19 : Int} {H0 H1 H2 : gH} (f0 : (hLe T0 H0 H1 ∧ hFr s_92v.2.2.2.2 H0 H1 ∧ hWt T0 H1) ∧ ((Ab_92v_14 n5 n4 n3 n2 n1 n0 H0 H1 ∧ Bb_92_14 n5 n4 n3 n2 n1 n0 H0 H1) ∧ preb_92v n5 H0) ∧ some q0 = some (mub_92v_14 n5 n4 n3 n2 n1 n0 H0 H1)) (f1 : (hLe T0 H1 H2 ∧ hFr s_98.2.2.2.2 H1 H2 ∧ ((0 : Int) = 0 → H2.length = H1.length) ∧ hWt T0 H2) ∧ True) : Bb_92_228 n5 n4 n3 n19 n1 n0 n18 H0 H2 := by
  unfold Bb_92_228
  exact (fRow f1.1.2.1 46 (by decide +kernel)).trans (show hV H1 46 = hV H0 46 from f0.2.1.1.2)
def g_92vw_14_24 : vG := ([(1098, [14, 17], [1, 2], 0), (5000, [0, 1, 2, 3, 4, 5], [0, 1], 14)], (4000, [1, 2, 19, 4, 5, 18], [2], 228))
theorem c_92vw_14_24 {q0 : Nat} : vOkm T0 (eN e_92v L_92vw A_92v mu_92v n_92 B_92 (some q0)) 1 g_92vw_14_24 := vOk_inI fun ρ η f0 f1 => q_92vw_25 (q0 := q0) (n0 := ρ 5) (n1 := ρ 4) (n2 := ρ 3) (n3 := ρ 2) (n4 := ρ 1) (n5 := ρ 0) (n18 := ρ 18) (n19 := ρ 19) (H0 := η 0) (H1 := η 1) (H2 := η 2) f1 f0
theorem q_92vw_26 {q0 : Nat} {n0 n1 n2 n3 n4 n5 n8 n15 : Int} {H0 H1 : gH} (f0 : (hLe T0 H0 H1 ∧ hFr s_92v.2.2.2.2 H0 H1 ∧ hWt T0 H1) ∧ ((Ab_92v_14 n5 n4 n3 n2 n1 n0 H0 H1 ∧ Bb_92_14 n5 n4 n3 n2 n1 n0 H0 H1) ∧ preb_92v n5 H0) ∧ some q0 = some (mub_92v_14 n5 n4 n3 n2 n1 n0 H0 H1)) : Bb_92_228 n5 n4 n3 n2 n15 n0 n8 H0 H1 := by
  unfold Bb_92_228
  exact show hV H1 46 = hV H0 46 from f0.2.1.1.2
def g_92vw_14_25 : vG := ([(5000, [0, 1, 2, 3, 4, 5], [0, 1], 14)], (4000, [1, 2, 3, 15, 5, 8], [1], 228))
theorem c_92vw_14_25 {q0 : Nat} : vOkm T0 (eN e_92v L_92vw A_92v mu_92v n_92 B_92 (some q0)) 1 g_92vw_14_25 := vOk_inI fun ρ η f0 => q_92vw_26 (q0 := q0) (n0 := ρ 5) (n1 := ρ 4) (n2 := ρ 3) (n3 := ρ 2) (n4 := ρ 1) (n5 := ρ 0) (n8 := ρ 8) (n15 := ρ 15) (H0 := η 0) (H1 := η 1) f0
theorem q_92vw_27 {q0 : Nat} {n0 n1 n2 n3 n4 n5 n8 n17 : Int} {H0 H1 : gH} (f0 : (hLe T0 H0 H1 ∧ hFr s_92v.2.2.2.2 H0 H1 ∧ hWt T0 H1) ∧ ((Ab_92v_14 n5 n4 n3 n2 n1 n0 H0 H1 ∧ Bb_92_14 n5 n4 n3 n2 n1 n0 H0 H1) ∧ preb_92v n5 H0) ∧ some q0 = some (mub_92v_14 n5 n4 n3 n2 n1 n0 H0 H1)) : Bb_92_228 n5 n4 n3 n2 n17 n0 n8 H0 H1 := by
  unfold Bb_92_228
  exact show hV H1 46 = hV H0 46 from f0.2.1.1.2
def g_92vw_14_26 : vG := ([(5000, [0, 1, 2, 3, 4, 5], [0, 1], 14)], (4000, [1, 2, 3, 17, 5, 8], [1], 228))
theorem c_92vw_14_26 {q0 : Nat} : vOkm T0 (eN e_92v L_92vw A_92v mu_92v n_92 B_92 (some q0)) 1 g_92vw_14_26 := vOk_inI fun ρ η f0 => q_92vw_27 (q0 := q0) (n0 := ρ 5) (n1 := ρ 4) (n2 := ρ 3) (n3 := ρ 2) (n4 := ρ 1) (n5 := ρ 0) (n8 := ρ 8) (n17 := ρ 17) (H0 := η 0) (H1 := η 1) f0
theorem q_92vw_28 {q0 : Nat} {n0 n1 n2 n3 n4 n5 n8 n19 n20 : Int} {H0 H1 H2 H3 H4 : gH} (f0 : (hLe T0 H0 H1 ∧ hFr s_92v.2.2.2.2 H0 H1 ∧ hWt T0 H1) ∧ ((Ab_92v_14 n5 n4 n3 n2 n1 n0 H0 H1 ∧ Bb_92_14 n5 n4 n3 n2 n1 n0 H0 H1) ∧ preb_92v n5 H0) ∧ some q0 = some (mub_92v_14 n5 n4 n3 n2 n1 n0 H0 H1)) (f1 : (hLe T0 H1 H2 ∧ hFr s_93.2.2.2.2 H1 H2 ∧ ((0 : Int) = 0 → H2.length = H1.length) ∧ hWt T0 H2) ∧ True) (f2 : (hLe T0 H2 H3 ∧ hFr s_95.2.2.2.2 H2 H3 ∧ ((0 : Int) = 0 → H3.length = H2.length) ∧ hWt T0 H3) ∧ True) (f3 : (hLe T0 H3 H4 ∧ hFr s_94.2.2.2.2 H3 H4 ∧ ((0 : Int) = 0 → H4.length = H3.length) ∧ hWt T0 H4) ∧ (True ∧ nb_94 n4 n19 H3 H4)) : Bb_92_228 n5 n4 n3 n20 n1 n0 n8 H0 H4 := by
  unfold Bb_92_228
  exact (show hV H4 46 = hV H3 46 from f3.2.2).trans ((fRow f2.1.2.1 46 (by decide +kernel)).trans ((fRow f1.1.2.1 46 (by decide +kernel)).trans (show hV H1 46 = hV H0 46 from f0.2.1.1.2)))
def g_92vw_14_27 : vG := ([(1094, [1, 19], [3, 4], 0), (1095, [1, 18], [2, 3], 0), (1093, [18, 17], [1, 2], 0), (5000, [0, 1, 2, 3, 4, 5], [0, 1], 14)], (4000, [1, 2, 20, 4, 5, 8], [4], 228))
theorem c_92vw_14_27 {q0 : Nat} : vOkm T0 (eN e_92v L_92vw A_92v mu_92v n_92 B_92 (some q0)) 1 g_92vw_14_27 := vOk_inI fun ρ η f0 f1 f2 f3 => q_92vw_28 (q0 := q0) (n0 := ρ 5) (n1 := ρ 4) (n2 := ρ 3) (n3 := ρ 2) (n4 := ρ 1) (n5 := ρ 0) (n8 := ρ 8) (n19 := ρ 19) (n20 := ρ 20) (H0 := η 0) (H1 := η 1) (H2 := η 2) (H3 := η 3) (H4 := η 4) f3 f2 f1 f0
theorem q_92vw_29 {q0 : Nat} {n0 n1 n2 n3 n4 n5 n8 n15 : Int} {H0 H1 : gH} (f0 : (hLe T0 H0 H1 ∧ hFr s_92v.2.2.2.2 H0 H1 ∧ hWt T0 H1) ∧ ((Ab_92v_14 n5 n4 n3 n2 n1 n0 H0 H1 ∧ Bb_92_14 n5 n4 n3 n2 n1 n0 H0 H1) ∧ preb_92v n5 H0) ∧ some q0 = some (mub_92v_14 n5 n4 n3 n2 n1 n0 H0 H1)) : Bb_92_228 n5 n4 n3 n2 n15 n0 n8 H0 H1 := by
  unfold Bb_92_228
  exact show hV H1 46 = hV H0 46 from f0.2.1.1.2
def g_92vw_14_28 : vG := ([(5000, [0, 1, 2, 3, 4, 5], [0, 1], 14)], (4000, [1, 2, 3, 15, 5, 8], [1], 228))
theorem c_92vw_14_28 {q0 : Nat} : vOkm T0 (eN e_92v L_92vw A_92v mu_92v n_92 B_92 (some q0)) 1 g_92vw_14_28 := vOk_inI fun ρ η f0 => q_92vw_29 (q0 := q0) (n0 := ρ 5) (n1 := ρ 4) (n2 := ρ 3) (n3 := ρ 2) (n4 := ρ 1) (n5 := ρ 0) (n8 := ρ 8) (n15 := ρ 15) (H0 := η 0) (H1 := η 1) f0
theorem q_92vw_30 {q0 : Nat} {n0 n1 n2 n3 n4 n5 n8 n17 : Int} {H0 H1 : gH} (f0 : (hLe T0 H0 H1 ∧ hFr s_92v.2.2.2.2 H0 H1 ∧ hWt T0 H1) ∧ ((Ab_92v_14 n5 n4 n3 n2 n1 n0 H0 H1 ∧ Bb_92_14 n5 n4 n3 n2 n1 n0 H0 H1) ∧ preb_92v n5 H0) ∧ some q0 = some (mub_92v_14 n5 n4 n3 n2 n1 n0 H0 H1)) : Bb_92_228 n5 n4 n3 n2 n17 n0 n8 H0 H1 := by
  unfold Bb_92_228
  exact show hV H1 46 = hV H0 46 from f0.2.1.1.2
def g_92vw_14_29 : vG := ([(5000, [0, 1, 2, 3, 4, 5], [0, 1], 14)], (4000, [1, 2, 3, 17, 5, 8], [1], 228))
theorem c_92vw_14_29 {q0 : Nat} : vOkm T0 (eN e_92v L_92vw A_92v mu_92v n_92 B_92 (some q0)) 1 g_92vw_14_29 := vOk_inI fun ρ η f0 => q_92vw_30 (q0 := q0) (n0 := ρ 5) (n1 := ρ 4) (n2 := ρ 3) (n3 := ρ 2) (n4 := ρ 1) (n5 := ρ 0) (n8 := ρ 8) (n17 := ρ 17) (H0 := η 0) (H1 := η 1) f0
theorem q_92vw_31 {q0 : Nat} {n0 n1 n2 n3 n4 n5 n8 n19 n20 : Int} {H0 H1 H2 H3 H4 : gH} (f0 : (hLe T0 H0 H1 ∧ hFr s_92v.2.2.2.2 H0 H1 ∧ hWt T0 H1) ∧ ((Ab_92v_14 n5 n4 n3 n2 n1 n0 H0 H1 ∧ Bb_92_14 n5 n4 n3 n2 n1 n0 H0 H1) ∧ preb_92v n5 H0) ∧ some q0 = some (mub_92v_14 n5 n4 n3 n2 n1 n0 H0 H1)) (f1 : (hLe T0 H1 H2 ∧ hFr s_93.2.2.2.2 H1 H2 ∧ ((0 : Int) = 0 → H2.length = H1.length) ∧ hWt T0 H2) ∧ True) (f2 : (hLe T0 H2 H3 ∧ hFr s_95.2.2.2.2 H2 H3 ∧ ((0 : Int) = 0 → H3.length = H2.length) ∧ hWt T0 H3) ∧ True) (f3 : (hLe T0 H3 H4 ∧ hFr s_94.2.2.2.2 H3 H4 ∧ ((0 : Int) = 0 → H4.length = H3.length) ∧ hWt T0 H4) ∧ (True ∧ nb_94 n4 n19 H3 H4)) : Bb_92_228 n5 n4 n3 n20 n1 n0 n8 H0 H4 := by
  unfold Bb_92_228
  exact (show hV H4 46 = hV H3 46 from f3.2.2).trans ((fRow f2.1.2.1 46 (by decide +kernel)).trans ((fRow f1.1.2.1 46 (by decide +kernel)).trans (show hV H1 46 = hV H0 46 from f0.2.1.1.2)))
def g_92vw_14_30 : vG := ([(1094, [1, 19], [3, 4], 0), (1095, [1, 18], [2, 3], 0), (1093, [18, 17], [1, 2], 0), (5000, [0, 1, 2, 3, 4, 5], [0, 1], 14)], (4000, [1, 2, 20, 4, 5, 8], [4], 228))
theorem c_92vw_14_30 {q0 : Nat} : vOkm T0 (eN e_92v L_92vw A_92v mu_92v n_92 B_92 (some q0)) 1 g_92vw_14_30 := vOk_inI fun ρ η f0 f1 f2 f3 => q_92vw_31 (q0 := q0) (n0 := ρ 5) (n1 := ρ 4) (n2 := ρ 3) (n3 := ρ 2) (n4 := ρ 1) (n5 := ρ 0) (n8 := ρ 8) (n19 := ρ 19) (n20 := ρ 20) (H0 := η 0) (H1 := η 1) (H2 := η 2) (H3 := η 3) (H4 := η 4) f3 f2 f1 f0
theorem q_92vw_32 {q0 : Nat} {n0 n1 n2 n3 n4 n5 n8 n16 n17 n18 : Int} {H0 H1 H2 H3 : gH} (f0 : n4 = 30) (f1 : (hLe T0 H0 H1 ∧ hFr s_92v.2.2.2.2 H0 H1 ∧ hWt T0 H1) ∧ ((Ab_92v_14 n5 n4 n3 n2 n1 n0 H0 H1 ∧ Bb_92_14 n5 n4 n3 n2 n1 n0 H0 H1) ∧ preb_92v n5 H0) ∧ some q0 = some (mub_92v_14 n5 n4 n3 n2 n1 n0 H0 H1)) (f2 : (hLe T0 H1 H2 ∧ hFr s_95.2.2.2.2 H1 H2 ∧ ((0 : Int) = 0 → H2.length = H1.length) ∧ hWt T0 H2) ∧ True) (f3 : hUpd H3 H2 n4 n17 n16) : Bb_92_228 n5 n4 n18 n2 n1 n0 n8 H0 H3 := by
  unfold Bb_92_228
  exact (uRowNe f3 46 (by rw [f0]; decide)).trans ((fRow f2.1.2.1 46 (by decide +kernel)).trans (show hV H1 46 = hV H0 46 from f1.2.1.1.2))
def g_92vw_14_31 : vG := ([(80, [1, 17, 16], [3, 2], 0), (1095, [1, 13], [1, 2], 0), (5000, [0, 1, 2, 3, 4, 5], [0, 1], 14), (0, [1], [], 30)], (4000, [1, 18, 3, 4, 5, 8], [3], 228))
theorem c_92vw_14_31 {q0 : Nat} : vOkm T0 (eN e_92v L_92vw A_92v mu_92v n_92 B_92 (some q0)) 1 g_92vw_14_31 := vOk_inI fun ρ η f0 f1 f2 f3 => q_92vw_32 (q0 := q0) (n0 := ρ 5) (n1 := ρ 4) (n2 := ρ 3) (n3 := ρ 2) (n4 := ρ 1) (n5 := ρ 0) (n8 := ρ 8) (n16 := ρ 16) (n17 := ρ 17) (n18 := ρ 18) (H0 := η 0) (H1 := η 1) (H2 := η 2) (H3 := η 3) f3 f2 f1 f0
theorem q_92vw_33 {q0 : Nat} {n0 n1 n2 n3 n4 n5 n15 n16 n17 n19 n20 : Int} {H0 H1 H2 H3 : gH} (f0 : (hLe T0 H0 H1 ∧ hFr s_92v.2.2.2.2 H0 H1 ∧ hWt T0 H1) ∧ ((Ab_92v_14 n5 n4 n3 n2 n1 n0 H0 H1 ∧ Bb_92_14 n5 n4 n3 n2 n1 n0 H0 H1) ∧ preb_92v n5 H0) ∧ some q0 = some (mub_92v_14 n5 n4 n3 n2 n1 n0 H0 H1)) (f1 : (hLe T0 H1 H2 ∧ hFr s_123v.2.2.2.2 H1 H2 ∧ ((0 : Int) = 0 → H2.length = H1.length) ∧ hWt T0 H2) ∧ postb_123v n17 n15 n16 H1 H2) (f2 : (hLe T0 H2 H3 ∧ hFr s_98.2.2.2.2 H2 H3 ∧ ((0 : Int) = 0 → H3.length = H2.length) ∧ hWt T0 H3) ∧ True) : Bb_92_228 n5 n4 n3 n20 n1 n0 n19 H0 H3 := by
  unfold Bb_92_228
  exact (fRow f2.1.2.1 46 (by decide +kernel)).trans ((fRow f1.1.2.1 46 (by decide +kernel)).trans (show hV H1 46 = hV H0 46 from f0.2.1.1.2))
def g_92vw_14_32 : vG := ([(1098, [14, 18], [2, 3], 0), (1123, [17, 15, 16], [1, 2], 0), (5000, [0, 1, 2, 3, 4, 5], [0, 1], 14)], (4000, [1, 2, 20, 4, 5, 19], [3], 228))
theorem c_92vw_14_32 {q0 : Nat} : vOkm T0 (eN e_92v L_92vw A_92v mu_92v n_92 B_92 (some q0)) 1 g_92vw_14_32 := vOk_inI fun ρ η f0 f1 f2 => q_92vw_33 (q0 := q0) (n0 := ρ 5) (n1 := ρ 4) (n2 := ρ 3) (n3 := ρ 2) (n4 := ρ 1) (n5 := ρ 0) (n15 := ρ 15) (n16 := ρ 16) (n17 := ρ 17) (n19 := ρ 19) (n20 := ρ 20) (H0 := η 0) (H1 := η 1) (H2 := η 2) (H3 := η 3) f2 f1 f0
theorem q_92vw_34 {q0 : Nat} {n0 n1 n2 n3 n4 n5 n15 n16 n17 n19 n20 : Int} {H0 H1 H2 H3 : gH} (f0 : (hLe T0 H0 H1 ∧ hFr s_92v.2.2.2.2 H0 H1 ∧ hWt T0 H1) ∧ ((Ab_92v_14 n5 n4 n3 n2 n1 n0 H0 H1 ∧ Bb_92_14 n5 n4 n3 n2 n1 n0 H0 H1) ∧ preb_92v n5 H0) ∧ some q0 = some (mub_92v_14 n5 n4 n3 n2 n1 n0 H0 H1)) (f1 : (hLe T0 H1 H2 ∧ hFr s_123v.2.2.2.2 H1 H2 ∧ ((0 : Int) = 0 → H2.length = H1.length) ∧ hWt T0 H2) ∧ postb_123v n17 n15 n16 H1 H2) (f2 : (hLe T0 H2 H3 ∧ hFr s_98.2.2.2.2 H2 H3 ∧ ((0 : Int) = 0 → H3.length = H2.length) ∧ hWt T0 H3) ∧ True) : Bb_92_228 n5 n4 n3 n20 n1 n0 n19 H0 H3 := by
  unfold Bb_92_228
  exact (fRow f2.1.2.1 46 (by decide +kernel)).trans ((fRow f1.1.2.1 46 (by decide +kernel)).trans (show hV H1 46 = hV H0 46 from f0.2.1.1.2))
def g_92vw_14_33 : vG := ([(1098, [14, 18], [2, 3], 0), (1123, [17, 15, 16], [1, 2], 0), (5000, [0, 1, 2, 3, 4, 5], [0, 1], 14)], (4000, [1, 2, 20, 4, 5, 19], [3], 228))
theorem c_92vw_14_33 {q0 : Nat} : vOkm T0 (eN e_92v L_92vw A_92v mu_92v n_92 B_92 (some q0)) 1 g_92vw_14_33 := vOk_inI fun ρ η f0 f1 f2 => q_92vw_34 (q0 := q0) (n0 := ρ 5) (n1 := ρ 4) (n2 := ρ 3) (n3 := ρ 2) (n4 := ρ 1) (n5 := ρ 0) (n15 := ρ 15) (n16 := ρ 16) (n17 := ρ 17) (n19 := ρ 19) (n20 := ρ 20) (H0 := η 0) (H1 := η 1) (H2 := η 2) (H3 := η 3) f2 f1 f0
theorem q_92vw_35 {q0 : Nat} {n0 n1 n2 n3 n4 n5 n18 n19 : Int} {H0 H1 H2 : gH} (f0 : (hLe T0 H0 H1 ∧ hFr s_92v.2.2.2.2 H0 H1 ∧ hWt T0 H1) ∧ ((Ab_92v_14 n5 n4 n3 n2 n1 n0 H0 H1 ∧ Bb_92_14 n5 n4 n3 n2 n1 n0 H0 H1) ∧ preb_92v n5 H0) ∧ some q0 = some (mub_92v_14 n5 n4 n3 n2 n1 n0 H0 H1)) (f1 : (hLe T0 H1 H2 ∧ hFr s_98.2.2.2.2 H1 H2 ∧ ((0 : Int) = 0 → H2.length = H1.length) ∧ hWt T0 H2) ∧ True) : Bb_92_228 n5 n4 n3 n19 n1 n0 n18 H0 H2 := by
  unfold Bb_92_228
  exact (fRow f1.1.2.1 46 (by decide +kernel)).trans (show hV H1 46 = hV H0 46 from f0.2.1.1.2)
def g_92vw_14_34 : vG := ([(1098, [14, 17], [1, 2], 0), (5000, [0, 1, 2, 3, 4, 5], [0, 1], 14)], (4000, [1, 2, 19, 4, 5, 18], [2], 228))
theorem c_92vw_14_34 {q0 : Nat} : vOkm T0 (eN e_92v L_92vw A_92v mu_92v n_92 B_92 (some q0)) 1 g_92vw_14_34 := vOk_inI fun ρ η f0 f1 => q_92vw_35 (q0 := q0) (n0 := ρ 5) (n1 := ρ 4) (n2 := ρ 3) (n3 := ρ 2) (n4 := ρ 1) (n5 := ρ 0) (n18 := ρ 18) (n19 := ρ 19) (H0 := η 0) (H1 := η 1) (H2 := η 2) f1 f0
theorem q_92vw_36 {q0 : Nat} {n0 n1 n2 n3 n4 n5 n18 n19 : Int} {H0 H1 H2 : gH} (f0 : (hLe T0 H0 H1 ∧ hFr s_92v.2.2.2.2 H0 H1 ∧ hWt T0 H1) ∧ ((Ab_92v_14 n5 n4 n3 n2 n1 n0 H0 H1 ∧ Bb_92_14 n5 n4 n3 n2 n1 n0 H0 H1) ∧ preb_92v n5 H0) ∧ some q0 = some (mub_92v_14 n5 n4 n3 n2 n1 n0 H0 H1)) (f1 : (hLe T0 H1 H2 ∧ hFr s_98.2.2.2.2 H1 H2 ∧ ((0 : Int) = 0 → H2.length = H1.length) ∧ hWt T0 H2) ∧ True) : Bb_92_228 n5 n4 n3 n19 n1 n0 n18 H0 H2 := by
  unfold Bb_92_228
  exact (fRow f1.1.2.1 46 (by decide +kernel)).trans (show hV H1 46 = hV H0 46 from f0.2.1.1.2)
def g_92vw_14_35 : vG := ([(1098, [14, 17], [1, 2], 0), (5000, [0, 1, 2, 3, 4, 5], [0, 1], 14)], (4000, [1, 2, 19, 4, 5, 18], [2], 228))
theorem c_92vw_14_35 {q0 : Nat} : vOkm T0 (eN e_92v L_92vw A_92v mu_92v n_92 B_92 (some q0)) 1 g_92vw_14_35 := vOk_inI fun ρ η f0 f1 => q_92vw_36 (q0 := q0) (n0 := ρ 5) (n1 := ρ 4) (n2 := ρ 3) (n3 := ρ 2) (n4 := ρ 1) (n5 := ρ 0) (n18 := ρ 18) (n19 := ρ 19) (H0 := η 0) (H1 := η 1) (H2 := η 2) f1 f0
theorem q_92vw_37 {q0 : Nat} {n0 n1 n2 n3 n4 n5 n17 n18 n19 n21 n22 : Int} {H0 H1 H2 H3 : gH} (f0 : (hLe T0 H0 H1 ∧ hFr s_92v.2.2.2.2 H0 H1 ∧ hWt T0 H1) ∧ ((Ab_92v_14 n5 n4 n3 n2 n1 n0 H0 H1 ∧ Bb_92_14 n5 n4 n3 n2 n1 n0 H0 H1) ∧ preb_92v n5 H0) ∧ some q0 = some (mub_92v_14 n5 n4 n3 n2 n1 n0 H0 H1)) (f1 : (hLe T0 H1 H2 ∧ hFr s_123v.2.2.2.2 H1 H2 ∧ ((0 : Int) = 0 → H2.length = H1.length) ∧ hWt T0 H2) ∧ postb_123v n19 n17 n18 H1 H2) (f2 : (hLe T0 H2 H3 ∧ hFr s_98.2.2.2.2 H2 H3 ∧ ((0 : Int) = 0 → H3.length = H2.length) ∧ hWt T0 H3) ∧ True) : Bb_92_228 n5 n4 n3 n22 n1 n0 n21 H0 H3 := by
  unfold Bb_92_228
  exact (fRow f2.1.2.1 46 (by decide +kernel)).trans ((fRow f1.1.2.1 46 (by decide +kernel)).trans (show hV H1 46 = hV H0 46 from f0.2.1.1.2))
def g_92vw_14_36 : vG := ([(1098, [16, 20], [2, 3], 0), (1123, [19, 17, 18], [1, 2], 0), (5000, [0, 1, 2, 3, 4, 5], [0, 1], 14)], (4000, [1, 2, 22, 4, 5, 21], [3], 228))
theorem c_92vw_14_36 {q0 : Nat} : vOkm T0 (eN e_92v L_92vw A_92v mu_92v n_92 B_92 (some q0)) 1 g_92vw_14_36 := vOk_inI fun ρ η f0 f1 f2 => q_92vw_37 (q0 := q0) (n0 := ρ 5) (n1 := ρ 4) (n2 := ρ 3) (n3 := ρ 2) (n4 := ρ 1) (n5 := ρ 0) (n17 := ρ 17) (n18 := ρ 18) (n19 := ρ 19) (n21 := ρ 21) (n22 := ρ 22) (H0 := η 0) (H1 := η 1) (H2 := η 2) (H3 := η 3) f2 f1 f0
theorem q_92vw_38 {q0 : Nat} {n0 n1 n2 n3 n4 n5 n17 n18 n19 n21 n22 : Int} {H0 H1 H2 H3 : gH} (f0 : (hLe T0 H0 H1 ∧ hFr s_92v.2.2.2.2 H0 H1 ∧ hWt T0 H1) ∧ ((Ab_92v_14 n5 n4 n3 n2 n1 n0 H0 H1 ∧ Bb_92_14 n5 n4 n3 n2 n1 n0 H0 H1) ∧ preb_92v n5 H0) ∧ some q0 = some (mub_92v_14 n5 n4 n3 n2 n1 n0 H0 H1)) (f1 : (hLe T0 H1 H2 ∧ hFr s_123v.2.2.2.2 H1 H2 ∧ ((0 : Int) = 0 → H2.length = H1.length) ∧ hWt T0 H2) ∧ postb_123v n19 n17 n18 H1 H2) (f2 : (hLe T0 H2 H3 ∧ hFr s_98.2.2.2.2 H2 H3 ∧ ((0 : Int) = 0 → H3.length = H2.length) ∧ hWt T0 H3) ∧ True) : Bb_92_228 n5 n4 n3 n22 n1 n0 n21 H0 H3 := by
  unfold Bb_92_228
  exact (fRow f2.1.2.1 46 (by decide +kernel)).trans ((fRow f1.1.2.1 46 (by decide +kernel)).trans (show hV H1 46 = hV H0 46 from f0.2.1.1.2))
def g_92vw_14_37 : vG := ([(1098, [16, 20], [2, 3], 0), (1123, [19, 17, 18], [1, 2], 0), (5000, [0, 1, 2, 3, 4, 5], [0, 1], 14)], (4000, [1, 2, 22, 4, 5, 21], [3], 228))
theorem c_92vw_14_37 {q0 : Nat} : vOkm T0 (eN e_92v L_92vw A_92v mu_92v n_92 B_92 (some q0)) 1 g_92vw_14_37 := vOk_inI fun ρ η f0 f1 f2 => q_92vw_38 (q0 := q0) (n0 := ρ 5) (n1 := ρ 4) (n2 := ρ 3) (n3 := ρ 2) (n4 := ρ 1) (n5 := ρ 0) (n17 := ρ 17) (n18 := ρ 18) (n19 := ρ 19) (n21 := ρ 21) (n22 := ρ 22) (H0 := η 0) (H1 := η 1) (H2 := η 2) (H3 := η 3) f2 f1 f0
theorem q_92vw_39 {q0 : Nat} {n0 n1 n2 n3 n4 n5 n20 n21 : Int} {H0 H1 H2 : gH} (f0 : (hLe T0 H0 H1 ∧ hFr s_92v.2.2.2.2 H0 H1 ∧ hWt T0 H1) ∧ ((Ab_92v_14 n5 n4 n3 n2 n1 n0 H0 H1 ∧ Bb_92_14 n5 n4 n3 n2 n1 n0 H0 H1) ∧ preb_92v n5 H0) ∧ some q0 = some (mub_92v_14 n5 n4 n3 n2 n1 n0 H0 H1)) (f1 : (hLe T0 H1 H2 ∧ hFr s_98.2.2.2.2 H1 H2 ∧ ((0 : Int) = 0 → H2.length = H1.length) ∧ hWt T0 H2) ∧ True) : Bb_92_228 n5 n4 n3 n21 n1 n0 n20 H0 H2 := by
  unfold Bb_92_228
  exact (fRow f1.1.2.1 46 (by decide +kernel)).trans (show hV H1 46 = hV H0 46 from f0.2.1.1.2)
def g_92vw_14_38 : vG := ([(1098, [16, 19], [1, 2], 0), (5000, [0, 1, 2, 3, 4, 5], [0, 1], 14)], (4000, [1, 2, 21, 4, 5, 20], [2], 228))
theorem c_92vw_14_38 {q0 : Nat} : vOkm T0 (eN e_92v L_92vw A_92v mu_92v n_92 B_92 (some q0)) 1 g_92vw_14_38 := vOk_inI fun ρ η f0 f1 => q_92vw_39 (q0 := q0) (n0 := ρ 5) (n1 := ρ 4) (n2 := ρ 3) (n3 := ρ 2) (n4 := ρ 1) (n5 := ρ 0) (n20 := ρ 20) (n21 := ρ 21) (H0 := η 0) (H1 := η 1) (H2 := η 2) f1 f0
theorem q_92vw_40 {q0 : Nat} {n0 n1 n2 n3 n4 n5 n20 n21 : Int} {H0 H1 H2 : gH} (f0 : (hLe T0 H0 H1 ∧ hFr s_92v.2.2.2.2 H0 H1 ∧ hWt T0 H1) ∧ ((Ab_92v_14 n5 n4 n3 n2 n1 n0 H0 H1 ∧ Bb_92_14 n5 n4 n3 n2 n1 n0 H0 H1) ∧ preb_92v n5 H0) ∧ some q0 = some (mub_92v_14 n5 n4 n3 n2 n1 n0 H0 H1)) (f1 : (hLe T0 H1 H2 ∧ hFr s_98.2.2.2.2 H1 H2 ∧ ((0 : Int) = 0 → H2.length = H1.length) ∧ hWt T0 H2) ∧ True) : Bb_92_228 n5 n4 n3 n21 n1 n0 n20 H0 H2 := by
  unfold Bb_92_228
  exact (fRow f1.1.2.1 46 (by decide +kernel)).trans (show hV H1 46 = hV H0 46 from f0.2.1.1.2)
def g_92vw_14_39 : vG := ([(1098, [16, 19], [1, 2], 0), (5000, [0, 1, 2, 3, 4, 5], [0, 1], 14)], (4000, [1, 2, 21, 4, 5, 20], [2], 228))
theorem c_92vw_14_39 {q0 : Nat} : vOkm T0 (eN e_92v L_92vw A_92v mu_92v n_92 B_92 (some q0)) 1 g_92vw_14_39 := vOk_inI fun ρ η f0 f1 => q_92vw_40 (q0 := q0) (n0 := ρ 5) (n1 := ρ 4) (n2 := ρ 3) (n3 := ρ 2) (n4 := ρ 1) (n5 := ρ 0) (n20 := ρ 20) (n21 := ρ 21) (H0 := η 0) (H1 := η 1) (H2 := η 2) f1 f0
theorem q_92vw_41 {q0 : Nat} {n0 n1 n2 n3 n4 n5 n17 n18 n19 n21 n22 : Int} {H0 H1 H2 H3 : gH} (f0 : (hLe T0 H0 H1 ∧ hFr s_92v.2.2.2.2 H0 H1 ∧ hWt T0 H1) ∧ ((Ab_92v_14 n5 n4 n3 n2 n1 n0 H0 H1 ∧ Bb_92_14 n5 n4 n3 n2 n1 n0 H0 H1) ∧ preb_92v n5 H0) ∧ some q0 = some (mub_92v_14 n5 n4 n3 n2 n1 n0 H0 H1)) (f1 : (hLe T0 H1 H2 ∧ hFr s_123v.2.2.2.2 H1 H2 ∧ ((0 : Int) = 0 → H2.length = H1.length) ∧ hWt T0 H2) ∧ postb_123v n19 n17 n18 H1 H2) (f2 : (hLe T0 H2 H3 ∧ hFr s_98.2.2.2.2 H2 H3 ∧ ((0 : Int) = 0 → H3.length = H2.length) ∧ hWt T0 H3) ∧ True) : Bb_92_228 n5 n4 n3 n22 n1 n0 n21 H0 H3 := by
  unfold Bb_92_228
  exact (fRow f2.1.2.1 46 (by decide +kernel)).trans ((fRow f1.1.2.1 46 (by decide +kernel)).trans (show hV H1 46 = hV H0 46 from f0.2.1.1.2))
def g_92vw_14_40 : vG := ([(1098, [16, 20], [2, 3], 0), (1123, [19, 17, 18], [1, 2], 0), (5000, [0, 1, 2, 3, 4, 5], [0, 1], 14)], (4000, [1, 2, 22, 4, 5, 21], [3], 228))
theorem c_92vw_14_40 {q0 : Nat} : vOkm T0 (eN e_92v L_92vw A_92v mu_92v n_92 B_92 (some q0)) 1 g_92vw_14_40 := vOk_inI fun ρ η f0 f1 f2 => q_92vw_41 (q0 := q0) (n0 := ρ 5) (n1 := ρ 4) (n2 := ρ 3) (n3 := ρ 2) (n4 := ρ 1) (n5 := ρ 0) (n17 := ρ 17) (n18 := ρ 18) (n19 := ρ 19) (n21 := ρ 21) (n22 := ρ 22) (H0 := η 0) (H1 := η 1) (H2 := η 2) (H3 := η 3) f2 f1 f0
theorem q_92vw_42 {q0 : Nat} {n0 n1 n2 n3 n4 n5 n17 n18 n19 n21 n22 : Int} {H0 H1 H2 H3 : gH} (f0 : (hLe T0 H0 H1 ∧ hFr s_92v.2.2.2.2 H0 H1 ∧ hWt T0 H1) ∧ ((Ab_92v_14 n5 n4 n3 n2 n1 n0 H0 H1 ∧ Bb_92_14 n5 n4 n3 n2 n1 n0 H0 H1) ∧ preb_92v n5 H0) ∧ some q0 = some (mub_92v_14 n5 n4 n3 n2 n1 n0 H0 H1)) (f1 : (hLe T0 H1 H2 ∧ hFr s_123v.2.2.2.2 H1 H2 ∧ ((0 : Int) = 0 → H2.length = H1.length) ∧ hWt T0 H2) ∧ postb_123v n19 n17 n18 H1 H2) (f2 : (hLe T0 H2 H3 ∧ hFr s_98.2.2.2.2 H2 H3 ∧ ((0 : Int) = 0 → H3.length = H2.length) ∧ hWt T0 H3) ∧ True) : Bb_92_228 n5 n4 n3 n22 n1 n0 n21 H0 H3 := by
  unfold Bb_92_228
  exact (fRow f2.1.2.1 46 (by decide +kernel)).trans ((fRow f1.1.2.1 46 (by decide +kernel)).trans (show hV H1 46 = hV H0 46 from f0.2.1.1.2))
def g_92vw_14_41 : vG := ([(1098, [16, 20], [2, 3], 0), (1123, [19, 17, 18], [1, 2], 0), (5000, [0, 1, 2, 3, 4, 5], [0, 1], 14)], (4000, [1, 2, 22, 4, 5, 21], [3], 228))
theorem c_92vw_14_41 {q0 : Nat} : vOkm T0 (eN e_92v L_92vw A_92v mu_92v n_92 B_92 (some q0)) 1 g_92vw_14_41 := vOk_inI fun ρ η f0 f1 f2 => q_92vw_42 (q0 := q0) (n0 := ρ 5) (n1 := ρ 4) (n2 := ρ 3) (n3 := ρ 2) (n4 := ρ 1) (n5 := ρ 0) (n17 := ρ 17) (n18 := ρ 18) (n19 := ρ 19) (n21 := ρ 21) (n22 := ρ 22) (H0 := η 0) (H1 := η 1) (H2 := η 2) (H3 := η 3) f2 f1 f0
theorem q_92vw_43 {q0 : Nat} {n0 n1 n2 n3 n4 n5 n20 n21 : Int} {H0 H1 H2 : gH} (f0 : (hLe T0 H0 H1 ∧ hFr s_92v.2.2.2.2 H0 H1 ∧ hWt T0 H1) ∧ ((Ab_92v_14 n5 n4 n3 n2 n1 n0 H0 H1 ∧ Bb_92_14 n5 n4 n3 n2 n1 n0 H0 H1) ∧ preb_92v n5 H0) ∧ some q0 = some (mub_92v_14 n5 n4 n3 n2 n1 n0 H0 H1)) (f1 : (hLe T0 H1 H2 ∧ hFr s_98.2.2.2.2 H1 H2 ∧ ((0 : Int) = 0 → H2.length = H1.length) ∧ hWt T0 H2) ∧ True) : Bb_92_228 n5 n4 n3 n21 n1 n0 n20 H0 H2 := by
  unfold Bb_92_228
  exact (fRow f1.1.2.1 46 (by decide +kernel)).trans (show hV H1 46 = hV H0 46 from f0.2.1.1.2)
def g_92vw_14_42 : vG := ([(1098, [16, 19], [1, 2], 0), (5000, [0, 1, 2, 3, 4, 5], [0, 1], 14)], (4000, [1, 2, 21, 4, 5, 20], [2], 228))
theorem c_92vw_14_42 {q0 : Nat} : vOkm T0 (eN e_92v L_92vw A_92v mu_92v n_92 B_92 (some q0)) 1 g_92vw_14_42 := vOk_inI fun ρ η f0 f1 => q_92vw_43 (q0 := q0) (n0 := ρ 5) (n1 := ρ 4) (n2 := ρ 3) (n3 := ρ 2) (n4 := ρ 1) (n5 := ρ 0) (n20 := ρ 20) (n21 := ρ 21) (H0 := η 0) (H1 := η 1) (H2 := η 2) f1 f0
theorem q_92vw_44 {q0 : Nat} {n0 n1 n2 n3 n4 n5 n20 n21 : Int} {H0 H1 H2 : gH} (f0 : (hLe T0 H0 H1 ∧ hFr s_92v.2.2.2.2 H0 H1 ∧ hWt T0 H1) ∧ ((Ab_92v_14 n5 n4 n3 n2 n1 n0 H0 H1 ∧ Bb_92_14 n5 n4 n3 n2 n1 n0 H0 H1) ∧ preb_92v n5 H0) ∧ some q0 = some (mub_92v_14 n5 n4 n3 n2 n1 n0 H0 H1)) (f1 : (hLe T0 H1 H2 ∧ hFr s_98.2.2.2.2 H1 H2 ∧ ((0 : Int) = 0 → H2.length = H1.length) ∧ hWt T0 H2) ∧ True) : Bb_92_228 n5 n4 n3 n21 n1 n0 n20 H0 H2 := by
  unfold Bb_92_228
  exact (fRow f1.1.2.1 46 (by decide +kernel)).trans (show hV H1 46 = hV H0 46 from f0.2.1.1.2)
def g_92vw_14_43 : vG := ([(1098, [16, 19], [1, 2], 0), (5000, [0, 1, 2, 3, 4, 5], [0, 1], 14)], (4000, [1, 2, 21, 4, 5, 20], [2], 228))
theorem c_92vw_14_43 {q0 : Nat} : vOkm T0 (eN e_92v L_92vw A_92v mu_92v n_92 B_92 (some q0)) 1 g_92vw_14_43 := vOk_inI fun ρ η f0 f1 => q_92vw_44 (q0 := q0) (n0 := ρ 5) (n1 := ρ 4) (n2 := ρ 3) (n3 := ρ 2) (n4 := ρ 1) (n5 := ρ 0) (n20 := ρ 20) (n21 := ρ 21) (H0 := η 0) (H1 := η 1) (H2 := η 2) f1 f0
theorem q_92vw_45 {q0 : Nat} {n0 n1 n2 n3 n4 n5 n8 n11 n12 : Int} {H0 H1 H2 : gH} (f0 : (hLe T0 H0 H1 ∧ hFr s_92v.2.2.2.2 H0 H1 ∧ hWt T0 H1) ∧ ((Ab_92v_14 n5 n4 n3 n2 n1 n0 H0 H1 ∧ Bb_92_14 n5 n4 n3 n2 n1 n0 H0 H1) ∧ preb_92v n5 H0) ∧ some q0 = some (mub_92v_14 n5 n4 n3 n2 n1 n0 H0 H1)) (f1 : (hLe T0 H1 H2 ∧ hFr s_94.2.2.2.2 H1 H2 ∧ ((0 : Int) = 0 → H2.length = H1.length) ∧ hWt T0 H2) ∧ (True ∧ nb_94 n4 n12 H1 H2)) : Bb_92_228 n5 n4 n11 n2 n1 n0 n8 H0 H2 := by
  unfold Bb_92_228
  exact (show hV H2 46 = hV H1 46 from f1.2.2).trans (show hV H1 46 = hV H0 46 from f0.2.1.1.2)
def g_92vw_14_44 : vG := ([(1094, [1, 12], [1, 2], 0), (5000, [0, 1, 2, 3, 4, 5], [0, 1], 14)], (4000, [1, 11, 3, 4, 5, 8], [2], 228))
theorem c_92vw_14_44 {q0 : Nat} : vOkm T0 (eN e_92v L_92vw A_92v mu_92v n_92 B_92 (some q0)) 1 g_92vw_14_44 := vOk_inI fun ρ η f0 f1 => q_92vw_45 (q0 := q0) (n0 := ρ 5) (n1 := ρ 4) (n2 := ρ 3) (n3 := ρ 2) (n4 := ρ 1) (n5 := ρ 0) (n8 := ρ 8) (n11 := ρ 11) (n12 := ρ 12) (H0 := η 0) (H1 := η 1) (H2 := η 2) f1 f0
def p_92vw_14 : List vG := [g_92vw_14_0,
  g_92vw_14_1,
  g_92vw_14_2,
  g_92vw_14_3,
  g_92vw_14_4,
  g_92vw_14_5,
  g_92vw_14_6,
  g_92vw_14_7,
  g_92vw_14_8,
  g_92vw_14_9,
  g_92vw_14_10,
  g_92vw_14_11,
  g_92vw_14_12,
  g_92vw_14_13,
  g_92vw_14_14,
  g_92vw_14_15,
  g_92vw_14_16,
  g_92vw_14_17,
  g_92vw_14_18,
  g_92vw_14_19,
  g_92vw_14_20,
  g_92vw_14_21,
  g_92vw_14_22,
  g_92vw_14_23,
  g_92vw_14_24,
  g_92vw_14_25,
  g_92vw_14_26,
  g_92vw_14_27,
  g_92vw_14_28,
  g_92vw_14_29,
  g_92vw_14_30,
  g_92vw_14_31,
  g_92vw_14_32,
  g_92vw_14_33,
  g_92vw_14_34,
  g_92vw_14_35,
  g_92vw_14_36,
  g_92vw_14_37,
  g_92vw_14_38,
  g_92vw_14_39,
  g_92vw_14_40,
  g_92vw_14_41,
  g_92vw_14_42,
  g_92vw_14_43,
  g_92vw_14_44]
theorem r_92vw_14 : vCovBO (eRc e_92v L_92v cs_92v 2000 (14, [(0, (3, 4, 30, 0)), (1, (0, -2147483648, 2147483647, 0)), (2, (0, -2147483648, 2147483647, 0)), (3, (0, -2147483648, 2147483647, 0)), (4, (0, -2147483648, 2147483647, 0))])) p_92vw_14 = true := by decide +kernel
theorem q_92vw_46 {q0 : Nat} {n0 n1 n2 n3 n4 n5 n6 n8 : Int} {H0 H1 : gH} (f0 : (hLe T0 H0 H1 ∧ hFr s_92v.2.2.2.2 H0 H1 ∧ hWt T0 H1) ∧ ((Ab_92v_228 n6 n5 n4 n3 n2 n1 n0 H0 H1 ∧ Bb_92_228 n6 n5 n4 n3 n2 n1 n0 H0 H1) ∧ preb_92v n6 H0) ∧ some q0 = some (mub_92v_228 n6 n5 n4 n3 n2 n1 n0 H0 H1)) : Bb_92_14 n6 n5 n4 n3 n2 n8 H0 H1 := by
  unfold Bb_92_14
  exact show hV H1 46 = hV H0 46 from f0.2.1.1.2
def g_92vw_228_0 : vG := ([(5000, [0, 1, 2, 3, 4, 5, 6], [0, 1], 228)], (4000, [1, 2, 3, 4, 8], [1], 14))
theorem c_92vw_228_0 {q0 : Nat} : vOkm T0 (eN e_92v L_92vw A_92v mu_92v n_92 B_92 (some q0)) 1 g_92vw_228_0 := vOk_inI fun ρ η f0 => q_92vw_46 (q0 := q0) (n0 := ρ 6) (n1 := ρ 5) (n2 := ρ 4) (n3 := ρ 3) (n4 := ρ 2) (n5 := ρ 1) (n6 := ρ 0) (n8 := ρ 8) (H0 := η 0) (H1 := η 1) f0
theorem q_92vw_47 {q0 : Nat} {n0 n1 n2 n3 n4 n5 n6 n8 : Int} {H0 H1 H2 : gH} (f0 : (hLe T0 H0 H1 ∧ hFr s_92v.2.2.2.2 H0 H1 ∧ hWt T0 H1) ∧ ((Ab_92v_228 n6 n5 n4 n3 n2 n1 n0 H0 H1 ∧ Bb_92_228 n6 n5 n4 n3 n2 n1 n0 H0 H1) ∧ preb_92v n6 H0) ∧ some q0 = some (mub_92v_228 n6 n5 n4 n3 n2 n1 n0 H0 H1)) (f1 : (hLe T0 H1 H2 ∧ hFr s_66v.2.2.2.2 H1 H2 ∧ ((0 : Int) = 0 → H2.length = H1.length) ∧ hWt T0 H2) ∧ postb_66v n5 n0 H1 H2) : Bb_92_14 n6 n5 n4 n3 n2 n8 H0 H2 := by
  unfold Bb_92_14
  exact (fRow f1.1.2.1 46 (by decide +kernel)).trans (show hV H1 46 = hV H0 46 from f0.2.1.1.2)
def g_92vw_228_1 : vG := ([(1066, [1, 6], [1, 2], 0), (5000, [0, 1, 2, 3, 4, 5, 6], [0, 1], 228)], (4000, [1, 2, 3, 4, 8], [2], 14))
theorem c_92vw_228_1 {q0 : Nat} : vOkm T0 (eN e_92v L_92vw A_92v mu_92v n_92 B_92 (some q0)) 1 g_92vw_228_1 := vOk_inI fun ρ η f0 f1 => q_92vw_47 (q0 := q0) (n0 := ρ 6) (n1 := ρ 5) (n2 := ρ 4) (n3 := ρ 3) (n4 := ρ 2) (n5 := ρ 1) (n6 := ρ 0) (n8 := ρ 8) (H0 := η 0) (H1 := η 1) (H2 := η 2) f1 f0
theorem q_92vw_48 {q0 : Nat} {n0 n1 n2 n3 n4 n5 n6 n8 n9 : Int} {H0 H1 H2 : gH} (f0 : (hLe T0 H0 H1 ∧ hFr s_92v.2.2.2.2 H0 H1 ∧ hWt T0 H1) ∧ ((Ab_92v_228 n6 n5 n4 n3 n2 n1 n0 H0 H1 ∧ Bb_92_228 n6 n5 n4 n3 n2 n1 n0 H0 H1) ∧ preb_92v n6 H0) ∧ some q0 = some (mub_92v_228 n6 n5 n4 n3 n2 n1 n0 H0 H1)) (f1 : (hLe T0 H1 H2 ∧ hFr s_64v.2.2.2.2 H1 H2 ∧ ((0 : Int) = 0 → H2.length = H1.length) ∧ hWt T0 H2) ∧ postb_64v n5 n8 H1 H2) : Bb_92_14 n6 n5 n4 n3 n2 n9 H0 H2 := by
  unfold Bb_92_14
  exact (fRow f1.1.2.1 46 (by decide +kernel)).trans (show hV H1 46 = hV H0 46 from f0.2.1.1.2)
def g_92vw_228_2 : vG := ([(1064, [1, 8], [1, 2], 0), (5000, [0, 1, 2, 3, 4, 5, 6], [0, 1], 228)], (4000, [1, 2, 3, 4, 9], [2], 14))
theorem c_92vw_228_2 {q0 : Nat} : vOkm T0 (eN e_92v L_92vw A_92v mu_92v n_92 B_92 (some q0)) 1 g_92vw_228_2 := vOk_inI fun ρ η f0 f1 => q_92vw_48 (q0 := q0) (n0 := ρ 6) (n1 := ρ 5) (n2 := ρ 4) (n3 := ρ 3) (n4 := ρ 2) (n5 := ρ 1) (n6 := ρ 0) (n8 := ρ 8) (n9 := ρ 9) (H0 := η 0) (H1 := η 1) (H2 := η 2) f1 f0
def p_92vw_228 : List vG := [g_92vw_228_0,
  g_92vw_228_1,
  g_92vw_228_2]
theorem r_92vw_228 : vCovBO (eRc e_92v L_92v cs_92v 2000 (228, [(0, (3, 4, 30, 0)), (1, (0, -2147483648, 2147483647, 0)), (2, (0, -2147483648, 2147483647, 0)), (3, (0, -2147483648, 2147483647, 0)), (4, (0, -2147483648, 2147483647, 0)), (5, (0, -2147483648, 2147483647, 0))])) p_92vw_228 = true := by decide +kernel
theorem m_92vw (d : Nat) : eC e_92vw (d + 3) := eC_ref (e := e_92v) (L := L_92v) (L' := L_92vw) (cs := cs_92v) (n := 2000) (d := d + 2) (A := A_92v) (μ := mu_92v) (tp := false) (p0 := p_92v_s) (p1 := p_92vw_s) (N := n_92) (B := B_92) rfl ⟨m_64v (d + 1), ⟨m_66v d, ⟨m_93 (d + 1), ⟨m_94w d, ⟨m_95 d, ⟨m_98 (d + 1), ⟨m_123v (d + 1), trivial⟩⟩⟩⟩⟩⟩⟩ rfl (.inl rfl) (by decide +kernel) (fun z => nomatch z) r_92v_s (allC c_92v_s_0 allN) (allC (.inl ⟨p_92v_14, r_92v_14, fun q0 => (allC c_92v_14_0 (allC c_92v_14_1 (allC c_92v_14_2 (allC c_92v_14_3 (allC c_92v_14_4 (allC c_92v_14_5 (allC c_92v_14_6 (allC c_92v_14_7 (allC c_92v_14_8 (allC c_92v_14_9 (allC c_92v_14_10 (allC c_92v_14_11 (allC c_92v_14_12 (allC c_92v_14_13 (allC c_92v_14_14 (allC c_92v_14_15 (allC c_92v_14_16 (allC c_92v_14_17 (allC c_92v_14_18 (allC c_92v_14_19 (allC c_92v_14_20 (allC c_92v_14_21 (allC c_92v_14_22 (allC c_92v_14_23 (allC c_92v_14_24 (allC c_92v_14_25 (allC c_92v_14_26 (allC c_92v_14_27 (allC c_92v_14_28 (allC c_92v_14_29 (allC c_92v_14_30 (allC c_92v_14_31 (allC c_92v_14_32 (allC c_92v_14_33 (allC c_92v_14_34 (allC c_92v_14_35 (allC c_92v_14_36 (allC c_92v_14_37 (allC c_92v_14_38 (allC c_92v_14_39 (allC c_92v_14_40 (allC c_92v_14_41 (allC c_92v_14_42 (allC c_92v_14_43 (allC c_92v_14_44 (allC c_92v_14_45 (allC c_92v_14_46 (allC c_92v_14_47 (allC c_92v_14_48 (allC c_92v_14_49 (allC c_92v_14_50 (allC c_92v_14_51 (allC c_92v_14_52 (allC c_92v_14_53 allN))))))))))))))))))))))))))))))))))))))))))))))))))))))⟩) (allC (.inl ⟨p_92v_228, r_92v_228, fun q0 => (allC c_92v_228_0 (allC c_92v_228_1 (allC c_92v_228_2 (allC c_92v_228_3 (allC c_92v_228_4 allN)))))⟩) allN)) (sub0 (sub0 (sub0 (sub1 (sub0 (sub0 (sub0 trivial))))))) r_92vw_s (allC c_92vw_s_0 allN) (allC ⟨p_92vw_14, r_92vw_14, fun q0 => (allC c_92vw_14_0 (allC c_92vw_14_1 (allC c_92vw_14_2 (allC c_92vw_14_3 (allC c_92vw_14_4 (allC c_92vw_14_5 (allC c_92vw_14_6 (allC c_92vw_14_7 (allC c_92vw_14_8 (allC c_92vw_14_9 (allC c_92vw_14_10 (allC c_92vw_14_11 (allC c_92vw_14_12 (allC c_92vw_14_13 (allC c_92vw_14_14 (allC c_92vw_14_15 (allC c_92vw_14_16 (allC c_92vw_14_17 (allC c_92vw_14_18 (allC c_92vw_14_19 (allC c_92vw_14_20 (allC c_92vw_14_21 (allC c_92vw_14_22 (allC c_92vw_14_23 (allC c_92vw_14_24 (allC c_92vw_14_25 (allC c_92vw_14_26 (allC c_92vw_14_27 (allC c_92vw_14_28 (allC c_92vw_14_29 (allC c_92vw_14_30 (allC c_92vw_14_31 (allC c_92vw_14_32 (allC c_92vw_14_33 (allC c_92vw_14_34 (allC c_92vw_14_35 (allC c_92vw_14_36 (allC c_92vw_14_37 (allC c_92vw_14_38 (allC c_92vw_14_39 (allC c_92vw_14_40 (allC c_92vw_14_41 (allC c_92vw_14_42 (allC c_92vw_14_43 (allC c_92vw_14_44 allN)))))))))))))))))))))))))))))))))))))))))))))⟩ (allC ⟨p_92vw_228, r_92vw_228, fun q0 => (allC c_92vw_228_0 (allC c_92vw_228_1 (allC c_92vw_228_2 allN)))⟩ allN))
