/- MixStage.owed (IIII)I, more fully -/
def nb_190 (r a0 a1 a2 a3 a4 : Int) (h0 h : gH) : Prop := ∀ E : SE, SNC h0 E → K25 h0 → KR h0 → KM h0 → MT (mC h0) → K79 h0 → SK6 h0 → RX h0 → LVk h0 h (hV h0 7 5) ∧ (¬ ((0 ≤ a1 ∧ a1 < hV h0 7 4) ∧ (0 ≤ a2 ∧ a2 < E.1 ∧ E.2.1 (a2).toNat = 3) ∧ 0 ≤ a3 ∧ a3 < hV h0 19 3 ∧ (hV h0 (hV h0 9 (a1).toNat).toNat 0) ≤ a3 ∧ 0 ≤ a4 ∧ a4 ≤ 9) → r = -1) ∧ (((0 ≤ a1 ∧ a1 < hV h0 7 4) ∧ (0 ≤ a2 ∧ a2 < E.1 ∧ E.2.1 (a2).toNat = 3) ∧ 0 ≤ a3 ∧ a3 < hV h0 19 3 ∧ (hV h0 (hV h0 9 (a1).toNat).toNat 0) ≤ a3 ∧ 0 ≤ a4 ∧ a4 ≤ 9) → ∀ D : List CR, SHL h0 (hV h0 9 (a1).toNat).toNat D → (∀ c, c ∈ (D.map (lrW (hV h0 25))) → FBc c) → 0 ≤ (hV h0 (hV h0 9 (a1).toNat).toNat 0) → ∀ R : List Rul, RLo h0 (hV h0 7 5) R → GRs R → r = clO (oV (OVv (SNDf E (D.map (lrW (hV h0 25))) a2 (hV h0 20 (hV h0 (hV h0 9 (a1).toNat).toNat 0).toNat) (hV h0 22) (hV h0 (hV h0 9 (a1).toNat).toNat 0) a3 (hV h0 20 (a3).toNat)) (E.2.2.2.1 (a2).toNat) a4 (cntL E a2 (D.map (lrW (hV h0 25))))) R))
def n_190 : List Int → gH → gH → Prop := fun xs h0 h => match xs with
  | [r, a0, a1, a2, a3, a4] => nb_190 r a0 a1 a2 a3 a4 h0 h
  | _ => True
noncomputable def e_190w : vE := eV e_190 n_190
noncomputable def L_190w : List vE := [e_3v, e_106w, e_107w, e_142w, e_143w, e_194y, e_196w, e_317, e_319]
def B_190 : Int → List Int → gH → gH → Prop := fun c xs h0 h => True
theorem q_190w_0 {n0 n1 n2 n3 n4 n5 n6 n7 n8 n9 : Int} {H0 H1 H2 : gH} (f0 : n0 ≤ 2147483647) (f1 : (-2147483648) ≤ n0) (f2 : n1 ≤ 2147483647) (f3 : (-2147483648) ≤ n1) (f4 : n2 ≤ 2147483647) (f5 : (-2147483648) ≤ n2) (f6 : n3 ≤ 2147483647) (f7 : (-2147483648) ≤ n3) (f8 : n4 = 7) (f9 : hWt T0 H0 ∧ True) (f10 : (hLe T0 H0 H1 ∧ hFr s_194.2.2.2.2 H0 H1 ∧ ((0 : Int) = 0 → H1.length = H0.length) ∧ hWt T0 H1) ∧ postb_194y n5 n4 n3 H0 H1) (f11 : n6 = 23) (f12 : hK H1 (n4).toNat = 11) (f13 : n6 = hV H1 (n4).toNat 7) (f14 : n7 = 3) (f15 : (hLe T0 H1 H2 ∧ hFr s_3.2.2.2.2 H1 H2 ∧ ((0 : Int) = 0 → H2.length = H1.length) ∧ hWt T0 H2) ∧ postb_3v n8 n6 n2 n7 H1 H2) (f16 : n8 = -1) (f17 : n9 = (-1)) : nb_190 n9 n4 n3 n2 n1 n0 H0 H2 := by
  unfold nb_190
  intro E z k25 kr km mt k79 s9 rx
  have zl := (RX_l rx).1
  have qs := f10.2
  unfold postb_194y at qs
  obtain ⟨qs1, qs2⟩ := qs k79
  have ks : 0 ≤ n5 → (0 ≤ n3 ∧ n3 < hV H0 7 4) ∧ n5 = hV H0 9 (n3).toNat ∧ hK H0 (n5).toNat = 6 := fun w => by
    have v : 0 ≤ n3 ∧ n3 < hV H0 7 4 := Classical.byContradiction fun v => by have := qs2 v; omega
    have e := qs1 v.1 v.2
    exact ⟨v, e, by rw [e]; exact (s9 _ (by omega)).2⟩
  have zk := (SNC_fr f10.1.1 f10.1.2.1 (by decide +kernel) z)
  have qk := f15.2
  unfold postb_3v at qk
  rw [f14] at qk
  unfold KV at qk
  rw [zk.1] at qk
  have no : ¬ (0 ≤ n2 ∧ n2 < E.1 ∧ E.2.1 (n2).toNat = 3) := fun w => by
    have y := zk.2.2.1 (n2).toNat (by omega)
    rcases qk with q | q
    · omega
    · exact q.2 ⟨w.1, w.2.1, y.1, y.2.2.1.trans w.2.2⟩
  exact ⟨LVk_sm zl (SMf_tr (SMf_fr f10.1.1 f10.1.2.1 (by decide +kernel) (by decide +kernel)) (SMf_fr f15.1.1 f15.1.2.1 (by decide +kernel) (by decide +kernel))), fun _ => by omega, fun w => absurd w.2.1 no⟩
def g_190w_s_0 : vG := ([(0, [9], [], -1), (50, [8], [], 0), (1003, [8, 6, 2, 7], [1, 2], 0), (0, [7], [], 3), (20, [6, 0], [1], 7), (23, [0], [1], 11), (0, [6], [], 23), (1194, [5, 0, 1], [0, 1], 0), (6000, [0, 1, 2, 3, 4], [0], 0), (0, [0], [], 7), (90, [1], [], -2147483648), (91, [1], [], 2147483647), (90, [2], [], -2147483648), (91, [2], [], 2147483647), (90, [3], [], -2147483648), (91, [3], [], 2147483647), (90, [4], [], -2147483648), (91, [4], [], 2147483647)], (3000, [9], [2], 46))
theorem c_190w_s_0 : vOkm T0 (eN e_190 L_190w A_190 mu_190 n_190 B_190 none) 5 g_190w_s_0 := vOk_inI fun ρ η f0 f1 f2 f3 f4 f5 f6 f7 f8 f9 f10 f11 f12 f13 f14 f15 f16 f17 => q_190w_0 (n0 := ρ 4) (n1 := ρ 3) (n2 := ρ 2) (n3 := ρ 1) (n4 := ρ 0) (n5 := ρ 5) (n6 := ρ 6) (n7 := ρ 7) (n8 := ρ 8) (n9 := ρ 9) (H0 := η 0) (H1 := η 1) (H2 := η 2) f17 f16 f15 f14 f13 f12 f11 f10 f9 f8 f7 f6 f5 f4 f3 f2 f1 f0
theorem q_190w_1 {n0 n1 n2 n3 n4 n5 n6 n7 n8 n9 n10 : Int} {H0 H1 H2 H3 : gH} (f0 : n0 ≤ 2147483647) (f1 : (-2147483648) ≤ n0) (f2 : n1 ≤ 2147483647) (f3 : (-2147483648) ≤ n1) (f4 : n2 ≤ 2147483647) (f5 : (-2147483648) ≤ n2) (f6 : n3 ≤ 2147483647) (f7 : (-2147483648) ≤ n3) (f8 : n4 = 7) (f9 : hWt T0 H0 ∧ True) (f10 : (hLe T0 H0 H1 ∧ hFr s_194.2.2.2.2 H0 H1 ∧ ((0 : Int) = 0 → H1.length = H0.length) ∧ hWt T0 H1) ∧ postb_194y n5 n4 n3 H0 H1) (f11 : n6 = 23) (f12 : hK H1 (n4).toNat = 11) (f13 : n6 = hV H1 (n4).toNat 7) (f14 : n7 = 3) (f15 : (hLe T0 H1 H2 ∧ hFr s_3.2.2.2.2 H1 H2 ∧ ((0 : Int) = 0 → H2.length = H1.length) ∧ hWt T0 H2) ∧ postb_3v n8 n6 n2 n7 H1 H2) (f16 : 0 ≤ n8) (f17 : n9 ≤ 1) (f18 : 0 ≤ n9) (f19 : (hLe T0 H2 H3 ∧ hFr s_196.2.2.2.2 H2 H3 ∧ ((0 : Int) = 0 → H3.length = H2.length) ∧ hWt T0 H3) ∧ (postb_196 n9 n4 n5 n1 H2 H3 ∧ nb_196 n9 n4 n5 n1 H2 H3)) (f20 : n9 = 0) (f21 : n10 = (-1)) : nb_190 n10 n4 n3 n2 n1 n0 H0 H3 := by
  unfold nb_190
  intro E z k25 kr km mt k79 s9 rx
  have zl := (RX_l rx).1
  have qs := f10.2
  unfold postb_194y at qs
  obtain ⟨qs1, qs2⟩ := qs k79
  have ks : 0 ≤ n5 → (0 ≤ n3 ∧ n3 < hV H0 7 4) ∧ n5 = hV H0 9 (n3).toNat ∧ hK H0 (n5).toNat = 6 := fun w => by
    have v : 0 ≤ n3 ∧ n3 < hV H0 7 4 := Classical.byContradiction fun v => by have := qs2 v; omega
    have e := qs1 v.1 v.2
    exact ⟨v, e, by rw [e]; exact (s9 _ (by omega)).2⟩
  have zk := (SNC_fr f10.1.1 f10.1.2.1 (by decide +kernel) z)
  have qk := f15.2
  unfold postb_3v at qk
  rw [f14] at qk
  unfold KV at qk
  rw [zk.1] at qk
  have kk := qk.resolve_right (fun w => by omega)
  have yk := zk.2.2.1 (n2).toNat (by have := kk.2.1; have := kk.1; omega)
  have k3 : E.2.1 (n2).toNat = 3 := yk.2.2.1.symm.trans kk.2.2.2.2.1
  have kk0 := kk.1
  have kk1 := kk.2.1
  have qr := f19.2.2
  unfold nb_196 at qr
  have qr := qr (fun w => (kLe f15.1.1 (kLe f10.1.1 (ks w).2.2 rfl) rfl))
  rw [show hV H2 19 3 = hV H0 19 3 from (f15.1.2.1.1 19 3 (by decide +kernel)).trans (f10.1.2.1.1 19 3 (by decide +kernel))] at qr
  have g0 : 0 ≤ n5 → hV H2 (n5).toNat 0 = hV H0 (n5).toNat 0 := fun w => (f15.1.2.1.2.2 _ 6 (kLe f10.1.1 (ks w).2.2 rfl) rfl 0 (by decide +kernel)).trans (f10.1.2.1.2.2 _ 6 (ks w).2.2 rfl 0 (by decide +kernel))
  refine ⟨LVk_sm zl (SMf_tr (SMf_fr f10.1.1 f10.1.2.1 (by decide +kernel) (by decide +kernel)) (SMf_tr (SMf_fr f15.1.1 f15.1.2.1 (by decide +kernel) (by decide +kernel)) (SMf_fr f19.1.1 f19.1.2.1 (by decide +kernel) (by decide +kernel)))), fun _ => by omega, fun w => ?_⟩
  exfalso
  obtain ⟨w1, _, w3, w4, w5, _⟩ := w
  have e := qs1 w1.1 w1.2
  have sp := (s9 (n3).toNat (by omega)).1
  have g := g0 (by omega)
  rw [e] at g
  rcases qr with q | q
  · omega
  · refine q.2 ⟨by omega, w3, w4, ?_⟩
    rw [e, g]
    exact w5
def g_190w_s_1 : vG := ([(0, [10], [], -1), (30, [9], [], 0), (1196, [9, 0, 5, 3], [2, 3], 0), (90, [9], [], 0), (91, [9], [], 1), (51, [8], [], 0), (1003, [8, 6, 2, 7], [1, 2], 0), (0, [7], [], 3), (20, [6, 0], [1], 7), (23, [0], [1], 11), (0, [6], [], 23), (1194, [5, 0, 1], [0, 1], 0), (6000, [0, 1, 2, 3, 4], [0], 0), (0, [0], [], 7), (90, [1], [], -2147483648), (91, [1], [], 2147483647), (90, [2], [], -2147483648), (91, [2], [], 2147483647), (90, [3], [], -2147483648), (91, [3], [], 2147483647), (90, [4], [], -2147483648), (91, [4], [], 2147483647)], (3000, [10], [3], 46))
theorem c_190w_s_1 : vOkm T0 (eN e_190 L_190w A_190 mu_190 n_190 B_190 none) 5 g_190w_s_1 := vOk_inI fun ρ η f0 f1 f2 f3 f4 f5 f6 f7 f8 f9 f10 f11 f12 f13 f14 f15 f16 f17 f18 f19 f20 f21 => q_190w_1 (n0 := ρ 4) (n1 := ρ 3) (n2 := ρ 2) (n3 := ρ 1) (n4 := ρ 0) (n5 := ρ 5) (n6 := ρ 6) (n7 := ρ 7) (n8 := ρ 8) (n9 := ρ 9) (n10 := ρ 10) (H0 := η 0) (H1 := η 1) (H2 := η 2) (H3 := η 3) f21 f20 f19 f18 f17 f16 f15 f14 f13 f12 f11 f10 f9 f8 f7 f6 f5 f4 f3 f2 f1 f0
theorem q_190w_2 {n0 n1 n2 n3 n4 n5 n6 n7 n8 n9 n10 : Int} {H0 H1 H2 H3 : gH} (f0 : n0 ≤ 2147483647) (f1 : (-2147483648) ≤ n0) (f2 : n1 ≤ 2147483647) (f3 : (-2147483648) ≤ n1) (f4 : n2 ≤ 2147483647) (f5 : (-2147483648) ≤ n2) (f6 : n3 ≤ 2147483647) (f7 : (-2147483648) ≤ n3) (f8 : n4 = 7) (f9 : hWt T0 H0 ∧ True) (f10 : (hLe T0 H0 H1 ∧ hFr s_194.2.2.2.2 H0 H1 ∧ ((0 : Int) = 0 → H1.length = H0.length) ∧ hWt T0 H1) ∧ postb_194y n5 n4 n3 H0 H1) (f11 : n6 = 23) (f12 : hK H1 (n4).toNat = 11) (f13 : n6 = hV H1 (n4).toNat 7) (f14 : n7 = 3) (f15 : (hLe T0 H1 H2 ∧ hFr s_3.2.2.2.2 H1 H2 ∧ ((0 : Int) = 0 → H2.length = H1.length) ∧ hWt T0 H2) ∧ postb_3v n8 n6 n2 n7 H1 H2) (f16 : 0 ≤ n8) (f17 : n9 ≤ 1) (f18 : 0 ≤ n9) (f19 : (hLe T0 H2 H3 ∧ hFr s_196.2.2.2.2 H2 H3 ∧ ((0 : Int) = 0 → H3.length = H2.length) ∧ hWt T0 H3) ∧ (postb_196 n9 n4 n5 n1 H2 H3 ∧ nb_196 n9 n4 n5 n1 H2 H3)) (f20 : n9 ≠ 0) (f21 : n0 < 0) (f22 : n10 = (-1)) : nb_190 n10 n4 n3 n2 n1 n0 H0 H3 := by
  unfold nb_190
  intro E z k25 kr km mt k79 s9 rx
  have zl := (RX_l rx).1
  have qs := f10.2
  unfold postb_194y at qs
  obtain ⟨qs1, qs2⟩ := qs k79
  have ks : 0 ≤ n5 → (0 ≤ n3 ∧ n3 < hV H0 7 4) ∧ n5 = hV H0 9 (n3).toNat ∧ hK H0 (n5).toNat = 6 := fun w => by
    have v : 0 ≤ n3 ∧ n3 < hV H0 7 4 := Classical.byContradiction fun v => by have := qs2 v; omega
    have e := qs1 v.1 v.2
    exact ⟨v, e, by rw [e]; exact (s9 _ (by omega)).2⟩
  have zk := (SNC_fr f10.1.1 f10.1.2.1 (by decide +kernel) z)
  have qk := f15.2
  unfold postb_3v at qk
  rw [f14] at qk
  unfold KV at qk
  rw [zk.1] at qk
  have kk := qk.resolve_right (fun w => by omega)
  have yk := zk.2.2.1 (n2).toNat (by have := kk.2.1; have := kk.1; omega)
  have k3 : E.2.1 (n2).toNat = 3 := yk.2.2.1.symm.trans kk.2.2.2.2.1
  have kk0 := kk.1
  have kk1 := kk.2.1
  have qr := f19.2.2
  unfold nb_196 at qr
  have qr := qr (fun w => (kLe f15.1.1 (kLe f10.1.1 (ks w).2.2 rfl) rfl))
  rw [show hV H2 19 3 = hV H0 19 3 from (f15.1.2.1.1 19 3 (by decide +kernel)).trans (f10.1.2.1.1 19 3 (by decide +kernel))] at qr
  have g0 : 0 ≤ n5 → hV H2 (n5).toNat 0 = hV H0 (n5).toNat 0 := fun w => (f15.1.2.1.2.2 _ 6 (kLe f10.1.1 (ks w).2.2 rfl) rfl 0 (by decide +kernel)).trans (f10.1.2.1.2.2 _ 6 (ks w).2.2 rfl 0 (by decide +kernel))
  refine ⟨LVk_sm zl (SMf_tr (SMf_fr f10.1.1 f10.1.2.1 (by decide +kernel) (by decide +kernel)) (SMf_tr (SMf_fr f15.1.1 f15.1.2.1 (by decide +kernel) (by decide +kernel)) (SMf_fr f19.1.1 f19.1.2.1 (by decide +kernel) (by decide +kernel)))), fun _ => by omega, fun w => ?_⟩
  exfalso
  obtain ⟨_, _, _, _, _, w6, w7⟩ := w
  omega
def g_190w_s_2 : vG := ([(0, [10], [], -1), (32, [4], [], 0), (31, [9], [], 0), (1196, [9, 0, 5, 3], [2, 3], 0), (90, [9], [], 0), (91, [9], [], 1), (51, [8], [], 0), (1003, [8, 6, 2, 7], [1, 2], 0), (0, [7], [], 3), (20, [6, 0], [1], 7), (23, [0], [1], 11), (0, [6], [], 23), (1194, [5, 0, 1], [0, 1], 0), (6000, [0, 1, 2, 3, 4], [0], 0), (0, [0], [], 7), (90, [1], [], -2147483648), (91, [1], [], 2147483647), (90, [2], [], -2147483648), (91, [2], [], 2147483647), (90, [3], [], -2147483648), (91, [3], [], 2147483647), (90, [4], [], -2147483648), (91, [4], [], 2147483647)], (3000, [10], [3], 46))
theorem c_190w_s_2 : vOkm T0 (eN e_190 L_190w A_190 mu_190 n_190 B_190 none) 5 g_190w_s_2 := vOk_inI fun ρ η f0 f1 f2 f3 f4 f5 f6 f7 f8 f9 f10 f11 f12 f13 f14 f15 f16 f17 f18 f19 f20 f21 f22 => q_190w_2 (n0 := ρ 4) (n1 := ρ 3) (n2 := ρ 2) (n3 := ρ 1) (n4 := ρ 0) (n5 := ρ 5) (n6 := ρ 6) (n7 := ρ 7) (n8 := ρ 8) (n9 := ρ 9) (n10 := ρ 10) (H0 := η 0) (H1 := η 1) (H2 := η 2) (H3 := η 3) f22 f21 f20 f19 f18 f17 f16 f15 f14 f13 f12 f11 f10 f9 f8 f7 f6 f5 f4 f3 f2 f1 f0
theorem q_190w_3 {n0 n1 n2 n3 n4 n5 n6 n7 n8 n9 n10 n11 n12 n13 n14 n15 n16 n17 n18 n19 n20 n21 n22 n23 n24 n25 n26 n27 n28 n29 n30 n31 n32 n33 n34 n35 : Int} {H0 H1 H2 H3 H4 H5 H6 H7 H8 H9 H10 H11 H12 H13 : gH} (f0 : n0 ≤ 2147483647) (f1 : (-2147483648) ≤ n0) (f2 : n1 ≤ 2147483647) (f3 : (-2147483648) ≤ n1) (f4 : n2 ≤ 2147483647) (f5 : (-2147483648) ≤ n2) (f6 : n3 ≤ 2147483647) (f7 : (-2147483648) ≤ n3) (f8 : n4 = 7) (f9 : hWt T0 H0 ∧ True) (f10 : (hLe T0 H0 H1 ∧ hFr s_194.2.2.2.2 H0 H1 ∧ ((0 : Int) = 0 → H1.length = H0.length) ∧ hWt T0 H1) ∧ postb_194y n5 n4 n3 H0 H1) (f11 : n6 = 23) (f12 : hK H1 (n4).toNat = 11) (f13 : n6 = hV H1 (n4).toNat 7) (f14 : n7 = 3) (f15 : (hLe T0 H1 H2 ∧ hFr s_3.2.2.2.2 H1 H2 ∧ ((0 : Int) = 0 → H2.length = H1.length) ∧ hWt T0 H2) ∧ postb_3v n8 n6 n2 n7 H1 H2) (f16 : 0 ≤ n8) (f17 : n9 ≤ 1) (f18 : 0 ≤ n9) (f19 : (hLe T0 H2 H3 ∧ hFr s_196.2.2.2.2 H2 H3 ∧ ((0 : Int) = 0 → H3.length = H2.length) ∧ hWt T0 H3) ∧ (postb_196 n9 n4 n5 n1 H2 H3 ∧ nb_196 n9 n4 n5 n1 H2 H3)) (f20 : n9 ≠ 0) (f21 : 0 ≤ n0) (f22 : n10 = 9) (f23 : n0 ≤ n10) (f24 : n11 = 281) (f25 : hK H3 (n4).toNat = 11) (f26 : n11 = hV H3 (n4).toNat 10) (f27 : n12 ≤ 2147483647) (f28 : (-2147483648) ≤ n12) (f29 : (hLe T0 H3 H4 ∧ hFr s_143.2.2.2.2 H3 H4 ∧ ((0 : Int) = 0 → H4.length = H3.length) ∧ hWt T0 H4) ∧ (True ∧ nb_143 n12 n11 n5 n2 n1 H3 H4)) (f30 : 0 ≤ n13) (f31 : hK H4 (n4).toNat = 11) (f32 : n13 = hV H4 (n4).toNat 5) (f33 : n14 = 45) (f34 : n15 = 23) (f35 : n16 = w32 (n12 + n15)) (f36 : n17 = 24) (f37 : n18 = o32 (fun x y => x / y) n16 n17) (f38 : (hLe T0 H4 H5 ∧ hFr s_106.2.2.2.2 H4 H5 ∧ ((0 : Int) = 0 → H5.length = H4.length) ∧ hWt T0 H5) ∧ (True ∧ nb_106 n13 n14 n18 H4 H5)) (f39 : 0 ≤ n19) (f40 : hK H5 (n4).toNat = 11) (f41 : n19 = hV H5 (n4).toNat 5) (f42 : n20 = 46) (f43 : n21 ≤ 2147483647) (f44 : (-2147483648) ≤ n21) (f45 : hK H5 (n8).toNat = 7) (f46 : n21 = hV H5 (n8).toNat 1) (f47 : (hLe T0 H5 H6 ∧ hFr s_106.2.2.2.2 H5 H6 ∧ ((0 : Int) = 0 → H6.length = H5.length) ∧ hWt T0 H6) ∧ (True ∧ nb_106 n19 n20 n21 H5 H6)) (f48 : 0 ≤ n22) (f49 : hK H6 (n4).toNat = 11) (f50 : n22 = hV H6 (n4).toNat 5) (f51 : n23 = 47) (f52 : (hLe T0 H6 H7 ∧ hFr s_106.2.2.2.2 H6 H7 ∧ ((0 : Int) = 0 → H7.length = H6.length) ∧ hWt T0 H7) ∧ (True ∧ nb_106 n22 n23 n0 H6 H7)) (f53 : 0 ≤ n24) (f54 : hK H7 (n4).toNat = 11) (f55 : n24 = hV H7 (n4).toNat 5) (f56 : n25 = 48) (f57 : (hLe T0 H7 H8 ∧ hFr s_106.2.2.2.2 H7 H8 ∧ ((0 : Int) = 0 → H8.length = H7.length) ∧ hWt T0 H8) ∧ (True ∧ nb_106 n24 n25 n12 H7 H8)) (f58 : 0 ≤ n26) (f59 : hK H8 (n4).toNat = 11) (f60 : n26 = hV H8 (n4).toNat 5) (f61 : n27 = 49) (f62 : n28 = 281) (f63 : hK H8 (n4).toNat = 11) (f64 : n28 = hV H8 (n4).toNat 10) (f65 : n29 ≤ 2147483647) (f66 : (-2147483648) ≤ n29) (f67 : (hLe T0 H8 H9 ∧ hFr s_142.2.2.2.2 H8 H9 ∧ ((0 : Int) = 0 → H9.length = H8.length) ∧ hWt T0 H9) ∧ (True ∧ nb_142 n29 n28 n5 n2 H8 H9)) (f68 : (hLe T0 H9 H10 ∧ hFr s_106.2.2.2.2 H9 H10 ∧ ((0 : Int) = 0 → H10.length = H9.length) ∧ hWt T0 H10) ∧ (True ∧ nb_106 n26 n27 n29 H9 H10)) (f69 : n30 = 0) (f70 : n31 = 999999) (f71 : 0 ≤ n32) (f72 : hK H10 (n4).toNat = 11) (f73 : n32 = hV H10 (n4).toNat 5) (f74 : n33 ≤ 2147483647) (f75 : (-2147483648) ≤ n33) (f76 : (hLe T0 H10 H11 ∧ hFr s_107.2.2.2.2 H10 H11 ∧ ((0 : Int) = 0 → H11.length = H10.length) ∧ hWt T0 H11) ∧ (True ∧ nb_107 n33 n32 H10 H11)) (f77 : n34 ≤ 2147483647) (f78 : (-2147483648) ≤ n34) (f79 : (hLe T0 H11 H12 ∧ hFr s_319.2.2.2.2 H11 H12 ∧ ((0 : Int) = 0 → H12.length = H11.length) ∧ hWt T0 H12) ∧ postb_319 n34 n31 n33 H11 H12) (f80 : n35 ≤ 2147483647) (f81 : (-2147483648) ≤ n35) (f82 : (hLe T0 H12 H13 ∧ hFr s_317.2.2.2.2 H12 H13 ∧ ((0 : Int) = 0 → H13.length = H12.length) ∧ hWt T0 H13) ∧ postb_317 n35 n30 n34 H12 H13) : nb_190 n35 n4 n3 n2 n1 n0 H0 H13 := by
  unfold nb_190
  intro E z k25 kr km mt k79 s9 rx
  have zl := (RX_l rx).1
  have qs := f10.2
  unfold postb_194y at qs
  obtain ⟨qs1, qs2⟩ := qs k79
  have ks : 0 ≤ n5 → (0 ≤ n3 ∧ n3 < hV H0 7 4) ∧ n5 = hV H0 9 (n3).toNat ∧ hK H0 (n5).toNat = 6 := fun w => by
    have v : 0 ≤ n3 ∧ n3 < hV H0 7 4 := Classical.byContradiction fun v => by have := qs2 v; omega
    have e := qs1 v.1 v.2
    exact ⟨v, e, by rw [e]; exact (s9 _ (by omega)).2⟩
  have zk := (SNC_fr f10.1.1 f10.1.2.1 (by decide +kernel) z)
  have qk := f15.2
  unfold postb_3v at qk
  rw [f14] at qk
  unfold KV at qk
  rw [zk.1] at qk
  have kk := qk.resolve_right (fun w => by omega)
  have yk := zk.2.2.1 (n2).toNat (by have := kk.2.1; have := kk.1; omega)
  have k3 : E.2.1 (n2).toNat = 3 := yk.2.2.1.symm.trans kk.2.2.2.2.1
  have kk0 := kk.1
  have kk1 := kk.2.1
  have qr := f19.2.2
  unfold nb_196 at qr
  have qr := qr (fun w => (kLe f15.1.1 (kLe f10.1.1 (ks w).2.2 rfl) rfl))
  rw [show hV H2 19 3 = hV H0 19 3 from (f15.1.2.1.1 19 3 (by decide +kernel)).trans (f10.1.2.1.1 19 3 (by decide +kernel))] at qr
  have g0 : 0 ≤ n5 → hV H2 (n5).toNat 0 = hV H0 (n5).toNat 0 := fun w => (f15.1.2.1.2.2 _ 6 (kLe f10.1.1 (ks w).2.2 rfl) rfl 0 (by decide +kernel)).trans (f10.1.2.1.2.2 _ 6 (ks w).2.2 rfl 0 (by decide +kernel))
  have rr := (qr.resolve_right (fun w => by have := w.1; omega)).2
  obtain ⟨a0_, a1_, a2_, a3_⟩ := rr
  obtain ⟨ks1, ks2, ks3⟩ := ks a0_
  rw [g0 a0_, ks2] at a3_
  have l32 : n13 = hV H0 7 5 := by
    have w := f32
    rw [f8] at w
    exact w.trans ((f29.1.2.1.1 7 5 (by decide +kernel)).trans ((f19.1.2.1.1 7 5 (by decide +kernel)).trans ((f15.1.2.1.1 7 5 (by decide +kernel)).trans (f10.1.2.1.1 7 5 (by decide +kernel)))))
  have l41 : n19 = hV H0 7 5 := by
    have w := f41
    rw [f8] at w
    exact w.trans ((f38.1.2.1.1 7 5 (by decide +kernel)).trans ((f29.1.2.1.1 7 5 (by decide +kernel)).trans ((f19.1.2.1.1 7 5 (by decide +kernel)).trans ((f15.1.2.1.1 7 5 (by decide +kernel)).trans (f10.1.2.1.1 7 5 (by decide +kernel))))))
  have l50 : n22 = hV H0 7 5 := by
    have w := f50
    rw [f8] at w
    exact w.trans ((f47.1.2.1.1 7 5 (by decide +kernel)).trans ((f38.1.2.1.1 7 5 (by decide +kernel)).trans ((f29.1.2.1.1 7 5 (by decide +kernel)).trans ((f19.1.2.1.1 7 5 (by decide +kernel)).trans ((f15.1.2.1.1 7 5 (by decide +kernel)).trans (f10.1.2.1.1 7 5 (by decide +kernel)))))))
  have l55 : n24 = hV H0 7 5 := by
    have w := f55
    rw [f8] at w
    exact w.trans ((f52.1.2.1.1 7 5 (by decide +kernel)).trans ((f47.1.2.1.1 7 5 (by decide +kernel)).trans ((f38.1.2.1.1 7 5 (by decide +kernel)).trans ((f29.1.2.1.1 7 5 (by decide +kernel)).trans ((f19.1.2.1.1 7 5 (by decide +kernel)).trans ((f15.1.2.1.1 7 5 (by decide +kernel)).trans (f10.1.2.1.1 7 5 (by decide +kernel))))))))
  have l60 : n26 = hV H0 7 5 := by
    have w := f60
    rw [f8] at w
    exact w.trans ((f57.1.2.1.1 7 5 (by decide +kernel)).trans ((f52.1.2.1.1 7 5 (by decide +kernel)).trans ((f47.1.2.1.1 7 5 (by decide +kernel)).trans ((f38.1.2.1.1 7 5 (by decide +kernel)).trans ((f29.1.2.1.1 7 5 (by decide +kernel)).trans ((f19.1.2.1.1 7 5 (by decide +kernel)).trans ((f15.1.2.1.1 7 5 (by decide +kernel)).trans (f10.1.2.1.1 7 5 (by decide +kernel)))))))))
  have l73 : n32 = hV H0 7 5 := by
    have w := f73
    rw [f8] at w
    exact w.trans ((f68.1.2.1.1 7 5 (by decide +kernel)).trans ((f67.1.2.1.1 7 5 (by decide +kernel)).trans ((f57.1.2.1.1 7 5 (by decide +kernel)).trans ((f52.1.2.1.1 7 5 (by decide +kernel)).trans ((f47.1.2.1.1 7 5 (by decide +kernel)).trans ((f38.1.2.1.1 7 5 (by decide +kernel)).trans ((f29.1.2.1.1 7 5 (by decide +kernel)).trans ((f19.1.2.1.1 7 5 (by decide +kernel)).trans ((f15.1.2.1.1 7 5 (by decide +kernel)).trans (f10.1.2.1.1 7 5 (by decide +kernel)))))))))))
  have ev10 := EVs_sm zl (SMf_fr f10.1.1 f10.1.2.1 (by decide +kernel) (by decide +kernel))
  have lv10 := LVk_sm zl (SMf_fr f10.1.1 f10.1.2.1 (by decide +kernel) (by decide +kernel))
  have ev15 := EVs_sm ev10.1 (SMf_fr f15.1.1 f15.1.2.1 (by decide +kernel) (by decide +kernel))
  have lv15 := LVk_sm ev10.1 (SMf_fr f15.1.1 f15.1.2.1 (by decide +kernel) (by decide +kernel))
  have ev19 := EVs_sm ev15.1 (SMf_fr f19.1.1 f19.1.2.1 (by decide +kernel) (by decide +kernel))
  have lv19 := LVk_sm ev15.1 (SMf_fr f19.1.1 f19.1.2.1 (by decide +kernel) (by decide +kernel))
  have ev29 := EVs_sm ev19.1 (SMf_fr f29.1.1 f29.1.2.1 (by decide +kernel) (by decide +kernel))
  have lv29 := LVk_sm ev19.1 (SMf_fr f29.1.1 f29.1.2.1 (by decide +kernel) (by decide +kernel))
  have s38 := f38.2.2
  unfold nb_106 at s38
  rw [l32] at s38
  have lv38 := LVk_se ev29.1 s38
  obtain ⟨z38, _, _, va38⟩ := s38 ev29.1
  have s47 := f47.2.2
  unfold nb_106 at s47
  rw [l41] at s47
  have lv47 := LVk_se z38 s47
  obtain ⟨z47, _, _, va47⟩ := s47 z38
  have s52 := f52.2.2
  unfold nb_106 at s52
  rw [l50] at s52
  have lv52 := LVk_se z47 s52
  obtain ⟨z52, _, _, va52⟩ := s52 z47
  have s57 := f57.2.2
  unfold nb_106 at s57
  rw [l55] at s57
  have lv57 := LVk_se z52 s57
  obtain ⟨z57, _, _, va57⟩ := s57 z52
  have ev67 := EVs_sm z57 (SMf_fr f67.1.1 f67.1.2.1 (by decide +kernel) (by decide +kernel))
  have lv67 := LVk_sm z57 (SMf_fr f67.1.1 f67.1.2.1 (by decide +kernel) (by decide +kernel))
  have s68 := f68.2.2
  unfold nb_106 at s68
  rw [l60] at s68
  have lv68 := LVk_se ev67.1 s68
  obtain ⟨z68, _, _, va68⟩ := s68 ev67.1
  have fr := f76.2.2
  unfold nb_107 at fr
  rw [l73] at fr
  obtain ⟨ev76, fq⟩ := fr z68
  have lv76 := LVk_ev ev76
  have ev79 := EVs_sm ev76.1 (SMf_fr f79.1.1 f79.1.2.1 (by decide +kernel) (by decide +kernel))
  have lv79 := LVk_sm ev76.1 (SMf_fr f79.1.1 f79.1.2.1 (by decide +kernel) (by decide +kernel))
  have ev82 := EVs_sm ev79.1 (SMf_fr f82.1.1 f82.1.2.1 (by decide +kernel) (by decide +kernel))
  have lv82 := LVk_sm ev79.1 (SMf_fr f82.1.1 f82.1.2.1 (by decide +kernel) (by decide +kernel))
  refine ⟨(LVk_tr lv10 (LVk_tr lv15 (LVk_tr lv19 (LVk_tr lv29 (LVk_tr lv38 (LVk_tr lv47 (LVk_tr lv52 (LVk_tr lv57 (LVk_tr lv67 (LVk_tr lv68 (LVk_tr lv76 (LVk_tr lv79 lv82)))))))))))), fun w => absurd ⟨ks1, ⟨kk0, kk1, k3⟩, a1_, a2_, a3_, by omega, by omega⟩ w, fun _ D sl fb d0 R rl gr => ?_⟩
  have sl0 : SHL H0 (n5).toNat D := by
    rw [ks2]
    exact sl
  have gd : hV H3 (n5).toNat 0 = hV H0 (hV H0 9 (n3).toNat).toNat 0 := by
    rw [show hV H3 (n5).toNat 0 = hV H0 (n5).toNat 0 from (f19.1.2.1.2.2 _ 6 (kLe f15.1.1 (kLe f10.1.1 ks3 rfl) rfl) rfl 0 (by decide +kernel)).trans ((f15.1.2.1.2.2 _ 6 (kLe f10.1.1 ks3 rfl) rfl 0 (by decide +kernel)).trans (f10.1.2.1.2.2 _ 6 ks3 rfl 0 (by decide +kernel))), ks2]
  have m3 := (MTc mt).2.2.1
  have g25 : hV H3 25 = hV H0 25 := (fRow f19.1.2.1 25 (by decide +kernel)).trans ((fRow f15.1.2.1 25 (by decide +kernel)).trans (fRow f10.1.2.1 25 (by decide +kernel)))
  have qf := f29.2.2
  unfold nb_143 at qf
  rw [gd, g25, show hV H3 20 = hV H0 20 from (fRow f19.1.2.1 20 (by decide +kernel)).trans ((fRow f15.1.2.1 20 (by decide +kernel)).trans (fRow f10.1.2.1 20 (by decide +kernel))), show hV H3 22 = hV H0 22 from (fRow f19.1.2.1 22 (by decide +kernel)).trans ((fRow f15.1.2.1 22 (by decide +kernel)).trans (fRow f10.1.2.1 22 (by decide +kernel)))] at qf
  have qf := qf E D (SNC_fr f19.1.1 f19.1.2.1 (by decide +kernel) (SNC_fr f15.1.1 f15.1.2.1 (by decide +kernel) (SNC_fr f10.1.1 f10.1.2.1 (by decide +kernel) z))) (K25_le f19.1.1 (K25_le f15.1.1 (K25_le f10.1.1 k25))) (KR_le f19.1.1 (KR_le f15.1.1 (KR_le f10.1.1 kr))) (KM_le f19.1.1 (KM_le f15.1.1 (KM_le f10.1.1 km))) (by rw [show mC H3 = mC H0 from (mC_fr f19.1.2.1 (by decide +kernel)).trans ((mC_fr f15.1.2.1 (by decide +kernel)).trans (mC_fr f10.1.2.1 (by decide +kernel)))]; exact mt) (SHL_keep (SHL_keep (SHL_keep sl0 (SHo_fr f10.1.1 f10.1.2.1 (by decide +kernel)) (RWo_fr f10.1.1 f10.1.2.1 (by decide +kernel)) (CUo_fr f10.1.1 f10.1.2.1 (by decide +kernel))) (SHo_fr f15.1.1 f15.1.2.1 (by decide +kernel)) (RWo_fr f15.1.1 f15.1.2.1 (by decide +kernel)) (CUo_fr f15.1.1 f15.1.2.1 (by decide +kernel))) (SHo_fr f19.1.1 f19.1.2.1 (by decide +kernel)) (RWo_fr f19.1.1 f19.1.2.1 (by decide +kernel)) (CUo_fr f19.1.1 f19.1.2.1 (by decide +kernel))) a0_ fb kk0 kk1 k3 d0 a3_ (by omega)
  have ql := f67.2.2
  unfold nb_142 at ql
  rw [show hV H8 25 = hV H0 25 from (fRow f57.1.2.1 25 (by decide +kernel)).trans ((fRow f52.1.2.1 25 (by decide +kernel)).trans ((fRow f47.1.2.1 25 (by decide +kernel)).trans ((fRow f38.1.2.1 25 (by decide +kernel)).trans ((fRow f29.1.2.1 25 (by decide +kernel)).trans ((fRow f19.1.2.1 25 (by decide +kernel)).trans ((fRow f15.1.2.1 25 (by decide +kernel)).trans (fRow f10.1.2.1 25 (by decide +kernel))))))))] at ql
  have ql := ql E D (SNC_fr f57.1.1 f57.1.2.1 (by decide +kernel) (SNC_fr f52.1.1 f52.1.2.1 (by decide +kernel) (SNC_fr f47.1.1 f47.1.2.1 (by decide +kernel) (SNC_fr f38.1.1 f38.1.2.1 (by decide +kernel) (SNC_fr f29.1.1 f29.1.2.1 (by decide +kernel) (SNC_fr f19.1.1 f19.1.2.1 (by decide +kernel) (SNC_fr f15.1.1 f15.1.2.1 (by decide +kernel) (SNC_fr f10.1.1 f10.1.2.1 (by decide +kernel) z)))))))) (K25_le f57.1.1 (K25_le f52.1.1 (K25_le f47.1.1 (K25_le f38.1.1 (K25_le f29.1.1 (K25_le f19.1.1 (K25_le f15.1.1 (K25_le f10.1.1 k25)))))))) (SHL_keep (SHL_keep (SHL_keep (SHL_keep (SHL_keep (SHL_keep (SHL_keep (SHL_keep sl0 (SHo_fr f10.1.1 f10.1.2.1 (by decide +kernel)) (RWo_fr f10.1.1 f10.1.2.1 (by decide +kernel)) (CUo_fr f10.1.1 f10.1.2.1 (by decide +kernel))) (SHo_fr f15.1.1 f15.1.2.1 (by decide +kernel)) (RWo_fr f15.1.1 f15.1.2.1 (by decide +kernel)) (CUo_fr f15.1.1 f15.1.2.1 (by decide +kernel))) (SHo_fr f19.1.1 f19.1.2.1 (by decide +kernel)) (RWo_fr f19.1.1 f19.1.2.1 (by decide +kernel)) (CUo_fr f19.1.1 f19.1.2.1 (by decide +kernel))) (SHo_fr f29.1.1 f29.1.2.1 (by decide +kernel)) (RWo_fr f29.1.1 f29.1.2.1 (by decide +kernel)) (CUo_fr f29.1.1 f29.1.2.1 (by decide +kernel))) (SHo_fr f38.1.1 f38.1.2.1 (by decide +kernel)) (RWo_fr f38.1.1 f38.1.2.1 (by decide +kernel)) (CUo_fr f38.1.1 f38.1.2.1 (by decide +kernel))) (SHo_fr f47.1.1 f47.1.2.1 (by decide +kernel)) (RWo_fr f47.1.1 f47.1.2.1 (by decide +kernel)) (CUo_fr f47.1.1 f47.1.2.1 (by decide +kernel))) (SHo_fr f52.1.1 f52.1.2.1 (by decide +kernel)) (RWo_fr f52.1.1 f52.1.2.1 (by decide +kernel)) (CUo_fr f52.1.1 f52.1.2.1 (by decide +kernel))) (SHo_fr f57.1.1 f57.1.2.1 (by decide +kernel)) (RWo_fr f57.1.1 f57.1.2.1 (by decide +kernel)) (CUo_fr f57.1.1 f57.1.2.1 (by decide +kernel))) a0_ kk0 kk1 k3
  have ow : n21 = E.2.2.2.1 (n2).toNat := by
    have u := f46.trans ((f38.1.2.1.2.2 _ 7 (kLe f29.1.1 (kLe f19.1.1 (kLe f15.1.1 kk.2.2.2.2.2 rfl) rfl) rfl) rfl 1 (by decide +kernel)).trans ((f29.1.2.1.2.2 _ 7 (kLe f19.1.1 (kLe f15.1.1 kk.2.2.2.2.2 rfl) rfl) rfl 1 (by decide +kernel)).trans ((f19.1.2.1.2.2 _ 7 (kLe f15.1.1 kk.2.2.2.2.2 rfl) rfl 1 (by decide +kernel)).trans (f15.1.2.1.2.2 _ 7 kk.2.2.2.2.2 rfl 1 (by decide +kernel)))))
    rw [kk.2.2.2.1] at u
    exact u.trans yk.2.2.2.1
  have wd := f37
  rw [f36] at wd
  have wa := f35
  rw [f34] at wa
  rw [wa, qf] at wd
  have vv : ∀ i : Int, 0 ≤ i → i ≤ 4 → VA H10 (hV H0 7 5) i = (OVv (SNDf E (D.map (lrW (hV H0 25))) n2 (hV H0 20 (hV H0 (hV H0 9 (n3).toNat).toNat 0).toNat) (hV H0 22) (hV H0 (hV H0 9 (n3).toNat).toNat 0) n1 (hV H0 20 (n1).toNat)) (E.2.2.2.1 (n2).toNat) n0 (cntL E n2 (D.map (lrW (hV H0 25))))) i := fun i i0 i4 => by
    rcases (show i = 0 ∨ i = 1 ∨ i = 2 ∨ i = 3 ∨ i = 4 by omega) with w | w | w | w | w <;> subst w
    · rw [va68 (by rw [f61]; decide) (by rw [f61]; decide), if_neg (by rw [f61]; decide), VA_eq ev67, va57 (by rw [f56]; decide) (by rw [f56]; decide), if_neg (by rw [f56]; decide), va52 (by rw [f51]; decide) (by rw [f51]; decide), if_neg (by rw [f51]; decide), va47 (by rw [f42]; decide) (by rw [f42]; decide), if_neg (by rw [f42]; decide), va38 (by rw [f33]; decide) (by rw [f33]; decide), if_pos (by rw [f33]; rfl)]
      exact wd
    · rw [va68 (by rw [f61]; decide) (by rw [f61]; decide), if_neg (by rw [f61]; decide), VA_eq ev67, va57 (by rw [f56]; decide) (by rw [f56]; decide), if_neg (by rw [f56]; decide), va52 (by rw [f51]; decide) (by rw [f51]; decide), if_neg (by rw [f51]; decide), va47 (by rw [f42]; decide) (by rw [f42]; decide), if_pos (by rw [f42]; rfl)]
      exact ow
    · rw [va68 (by rw [f61]; decide) (by rw [f61]; decide), if_neg (by rw [f61]; decide), VA_eq ev67, va57 (by rw [f56]; decide) (by rw [f56]; decide), if_neg (by rw [f56]; decide), va52 (by rw [f51]; decide) (by rw [f51]; decide), if_pos (by rw [f51]; rfl)]
      rfl
    · rw [va68 (by rw [f61]; decide) (by rw [f61]; decide), if_neg (by rw [f61]; decide), VA_eq ev67, va57 (by rw [f56]; decide) (by rw [f56]; decide), if_pos (by rw [f56]; rfl)]
      exact qf
    · rw [va68 (by rw [f61]; decide) (by rw [f61]; decide), if_pos (by rw [f61]; rfl)]
      exact ql
  have fq := fq R (lv68 R (lv67 R (lv57 R (lv52 R (lv47 R (lv38 R (lv29 R (lv19 R (lv15 R (lv10 R rl)))))))))) gr
  rw [oV_va vv gr] at fq
  have q1 := f79.2
  unfold postb_319 at q1
  have q2 := f82.2
  unfold postb_317 at q2
  rw [← fq]
  exact clO_mm (y := n34) (by omega) (by omega)
def g_190w_s_3 : vG := ([(1317, [35, 30, 34], [12, 13], 0), (90, [35], [], -2147483648), (91, [35], [], 2147483647), (1319, [34, 31, 33], [11, 12], 0), (90, [34], [], -2147483648), (91, [34], [], 2147483647), (1107, [33, 32], [10, 11], 0), (90, [33], [], -2147483648), (91, [33], [], 2147483647), (20, [32, 0], [10], 5), (23, [0], [10], 11), (51, [32], [], 0), (0, [31], [], 999999), (0, [30], [], 0), (1106, [26, 27, 29], [9, 10], 0), (1142, [29, 28, 5, 2], [8, 9], 0), (90, [29], [], -2147483648), (91, [29], [], 2147483647), (20, [28, 0], [8], 10), (23, [0], [8], 11), (0, [28], [], 281), (0, [27], [], 49), (20, [26, 0], [8], 5), (23, [0], [8], 11), (51, [26], [], 0), (1106, [24, 25, 12], [7, 8], 0), (0, [25], [], 48), (20, [24, 0], [7], 5), (23, [0], [7], 11), (51, [24], [], 0), (1106, [22, 23, 4], [6, 7], 0), (0, [23], [], 47), (20, [22, 0], [6], 5), (23, [0], [6], 11), (51, [22], [], 0), (1106, [19, 20, 21], [5, 6], 0), (20, [21, 8], [5], 1), (23, [8], [5], 7), (90, [21], [], -2147483648), (91, [21], [], 2147483647), (0, [20], [], 46), (20, [19, 0], [5], 5), (23, [0], [5], 11), (51, [19], [], 0), (1106, [13, 14, 18], [4, 5], 0), (11, [18, 16, 17], [], 0), (0, [17], [], 24), (1, [16, 12, 15], [], 0), (0, [15], [], 23), (0, [14], [], 45), (20, [13, 0], [4], 5), (23, [0], [4], 11), (51, [13], [], 0), (1143, [12, 11, 5, 2, 3], [3, 4], 0), (90, [12], [], -2147483648), (91, [12], [], 2147483647), (20, [11, 0], [3], 10), (23, [0], [3], 11), (0, [11], [], 281), (45, [4, 10], [], 0), (0, [10], [], 9), (33, [4], [], 0), (31, [9], [], 0), (1196, [9, 0, 5, 3], [2, 3], 0), (90, [9], [], 0), (91, [9], [], 1), (51, [8], [], 0), (1003, [8, 6, 2, 7], [1, 2], 0), (0, [7], [], 3), (20, [6, 0], [1], 7), (23, [0], [1], 11), (0, [6], [], 23), (1194, [5, 0, 1], [0, 1], 0), (6000, [0, 1, 2, 3, 4], [0], 0), (0, [0], [], 7), (90, [1], [], -2147483648), (91, [1], [], 2147483647), (90, [2], [], -2147483648), (91, [2], [], 2147483647), (90, [3], [], -2147483648), (91, [3], [], 2147483647), (90, [4], [], -2147483648), (91, [4], [], 2147483647)], (3000, [35], [13], 149))
theorem c_190w_s_3 : vOkm T0 (eN e_190 L_190w A_190 mu_190 n_190 B_190 none) 5 g_190w_s_3 := vOk_inI fun ρ η f0 f1 f2 f3 f4 f5 f6 f7 f8 f9 f10 f11 f12 f13 f14 f15 f16 f17 f18 f19 f20 f21 f22 f23 f24 f25 f26 f27 f28 f29 f30 f31 f32 f33 f34 f35 f36 f37 f38 f39 f40 f41 f42 f43 f44 f45 f46 f47 f48 f49 f50 f51 f52 f53 f54 f55 f56 f57 f58 f59 f60 f61 f62 f63 f64 f65 f66 f67 f68 f69 f70 f71 f72 f73 f74 f75 f76 f77 f78 f79 f80 f81 f82 => q_190w_3 (n0 := ρ 4) (n1 := ρ 3) (n2 := ρ 2) (n3 := ρ 1) (n4 := ρ 0) (n5 := ρ 5) (n6 := ρ 6) (n7 := ρ 7) (n8 := ρ 8) (n9 := ρ 9) (n10 := ρ 10) (n11 := ρ 11) (n12 := ρ 12) (n13 := ρ 13) (n14 := ρ 14) (n15 := ρ 15) (n16 := ρ 16) (n17 := ρ 17) (n18 := ρ 18) (n19 := ρ 19) (n20 := ρ 20) (n21 := ρ 21) (n22 := ρ 22) (n23 := ρ 23) (n24 := ρ 24) (n25 := ρ 25) (n26 := ρ 26) (n27 := ρ 27) (n28 := ρ 28) (n29 := ρ 29) (n30 := ρ 30) (n31 := ρ 31) (n32 := ρ 32) (n33 := ρ 33) (n34 := ρ 34) (n35 := ρ 35) (H0 := η 0) (H1 := η 1) (H2 := η 2) (H3 := η 3) (H4 := η 4) (H5 := η 5) (H6 := η 6) (H7 := η 7) (H8 := η 8) (H9 := η 9) (H10 := η 10) (H11 := η 11) (H12 := η 12) (H13 := η 13) f82 f81 f80 f79 f78 f77 f76 f75 f74 f73 f72 f71 f70 f69 f68 f67 f66 f65 f64 f63 f62 f61 f60 f59 f58 f57 f56 f55 f54 f53 f52 f51 f50 f49 f48 f47 f46 f45 f44 f43 f42 f41 f40 f39 f38 f37 f36 f35 f34 f33 f32 f31 f30 f29 f28 f27 f26 f25 f24 f23 f22 f21 f20 f19 f18 f17 f16 f15 f14 f13 f12 f11 f10 f9 f8 f7 f6 f5 f4 f3 f2 f1 f0
theorem q_190w_4 {n0 n1 n2 n3 n4 n5 n6 n7 n8 n9 n10 n11 : Int} {H0 H1 H2 H3 : gH} (f0 : n0 ≤ 2147483647) (f1 : (-2147483648) ≤ n0) (f2 : n1 ≤ 2147483647) (f3 : (-2147483648) ≤ n1) (f4 : n2 ≤ 2147483647) (f5 : (-2147483648) ≤ n2) (f6 : n3 ≤ 2147483647) (f7 : (-2147483648) ≤ n3) (f8 : n4 = 7) (f9 : hWt T0 H0 ∧ True) (f10 : (hLe T0 H0 H1 ∧ hFr s_194.2.2.2.2 H0 H1 ∧ ((0 : Int) = 0 → H1.length = H0.length) ∧ hWt T0 H1) ∧ postb_194y n5 n4 n3 H0 H1) (f11 : n6 = 23) (f12 : hK H1 (n4).toNat = 11) (f13 : n6 = hV H1 (n4).toNat 7) (f14 : n7 = 3) (f15 : (hLe T0 H1 H2 ∧ hFr s_3.2.2.2.2 H1 H2 ∧ ((0 : Int) = 0 → H2.length = H1.length) ∧ hWt T0 H2) ∧ postb_3v n8 n6 n2 n7 H1 H2) (f16 : 0 ≤ n8) (f17 : n9 ≤ 1) (f18 : 0 ≤ n9) (f19 : (hLe T0 H2 H3 ∧ hFr s_196.2.2.2.2 H2 H3 ∧ ((0 : Int) = 0 → H3.length = H2.length) ∧ hWt T0 H3) ∧ (postb_196 n9 n4 n5 n1 H2 H3 ∧ nb_196 n9 n4 n5 n1 H2 H3)) (f20 : n9 ≠ 0) (f21 : 0 ≤ n0) (f22 : n10 = 9) (f23 : n10 < n0) (f24 : n11 = (-1)) : nb_190 n11 n4 n3 n2 n1 n0 H0 H3 := by
  unfold nb_190
  intro E z k25 kr km mt k79 s9 rx
  have zl := (RX_l rx).1
  have qs := f10.2
  unfold postb_194y at qs
  obtain ⟨qs1, qs2⟩ := qs k79
  have ks : 0 ≤ n5 → (0 ≤ n3 ∧ n3 < hV H0 7 4) ∧ n5 = hV H0 9 (n3).toNat ∧ hK H0 (n5).toNat = 6 := fun w => by
    have v : 0 ≤ n3 ∧ n3 < hV H0 7 4 := Classical.byContradiction fun v => by have := qs2 v; omega
    have e := qs1 v.1 v.2
    exact ⟨v, e, by rw [e]; exact (s9 _ (by omega)).2⟩
  have zk := (SNC_fr f10.1.1 f10.1.2.1 (by decide +kernel) z)
  have qk := f15.2
  unfold postb_3v at qk
  rw [f14] at qk
  unfold KV at qk
  rw [zk.1] at qk
  have kk := qk.resolve_right (fun w => by omega)
  have yk := zk.2.2.1 (n2).toNat (by have := kk.2.1; have := kk.1; omega)
  have k3 : E.2.1 (n2).toNat = 3 := yk.2.2.1.symm.trans kk.2.2.2.2.1
  have kk0 := kk.1
  have kk1 := kk.2.1
  have qr := f19.2.2
  unfold nb_196 at qr
  have qr := qr (fun w => (kLe f15.1.1 (kLe f10.1.1 (ks w).2.2 rfl) rfl))
  rw [show hV H2 19 3 = hV H0 19 3 from (f15.1.2.1.1 19 3 (by decide +kernel)).trans (f10.1.2.1.1 19 3 (by decide +kernel))] at qr
  have g0 : 0 ≤ n5 → hV H2 (n5).toNat 0 = hV H0 (n5).toNat 0 := fun w => (f15.1.2.1.2.2 _ 6 (kLe f10.1.1 (ks w).2.2 rfl) rfl 0 (by decide +kernel)).trans (f10.1.2.1.2.2 _ 6 (ks w).2.2 rfl 0 (by decide +kernel))
  refine ⟨LVk_sm zl (SMf_tr (SMf_fr f10.1.1 f10.1.2.1 (by decide +kernel) (by decide +kernel)) (SMf_tr (SMf_fr f15.1.1 f15.1.2.1 (by decide +kernel) (by decide +kernel)) (SMf_fr f19.1.1 f19.1.2.1 (by decide +kernel) (by decide +kernel)))), fun _ => by omega, fun w => ?_⟩
  exfalso
  obtain ⟨_, _, _, _, _, w6, w7⟩ := w
  omega
def g_190w_s_4 : vG := ([(0, [11], [], -1), (44, [4, 10], [], 0), (0, [10], [], 9), (33, [4], [], 0), (31, [9], [], 0), (1196, [9, 0, 5, 3], [2, 3], 0), (90, [9], [], 0), (91, [9], [], 1), (51, [8], [], 0), (1003, [8, 6, 2, 7], [1, 2], 0), (0, [7], [], 3), (20, [6, 0], [1], 7), (23, [0], [1], 11), (0, [6], [], 23), (1194, [5, 0, 1], [0, 1], 0), (6000, [0, 1, 2, 3, 4], [0], 0), (0, [0], [], 7), (90, [1], [], -2147483648), (91, [1], [], 2147483647), (90, [2], [], -2147483648), (91, [2], [], 2147483647), (90, [3], [], -2147483648), (91, [3], [], 2147483647), (90, [4], [], -2147483648), (91, [4], [], 2147483647)], (3000, [11], [3], 46))
theorem c_190w_s_4 : vOkm T0 (eN e_190 L_190w A_190 mu_190 n_190 B_190 none) 5 g_190w_s_4 := vOk_inI fun ρ η f0 f1 f2 f3 f4 f5 f6 f7 f8 f9 f10 f11 f12 f13 f14 f15 f16 f17 f18 f19 f20 f21 f22 f23 f24 => q_190w_4 (n0 := ρ 4) (n1 := ρ 3) (n2 := ρ 2) (n3 := ρ 1) (n4 := ρ 0) (n5 := ρ 5) (n6 := ρ 6) (n7 := ρ 7) (n8 := ρ 8) (n9 := ρ 9) (n10 := ρ 10) (n11 := ρ 11) (H0 := η 0) (H1 := η 1) (H2 := η 2) (H3 := η 3) f24 f23 f22 f21 f20 f19 f18 f17 f16 f15 f14 f13 f12 f11 f10 f9 f8 f7 f6 f5 f4 f3 f2 f1 f0
def p_190w_s : List vG := [g_190w_s_0,
  g_190w_s_1,
  g_190w_s_2,
  g_190w_s_3,
  g_190w_s_4]
theorem r_190w_s : vCovBO (eR0 e_190 L_190 cs_190 2000) p_190w_s = true := by decide +kernel
theorem m_190w (d : Nat) : eC e_190w (d + 7) := eC_ref (e := e_190) (L := L_190) (L' := L_190w) (cs := cs_190) (n := 2000) (d := d + 6) (A := A_190) (μ := mu_190) (tp := true) (p0 := p_190_s) (p1 := p_190w_s) (N := n_190) (B := B_190) rfl ⟨m_3v (d + 4), ⟨m_106w (d + 4), ⟨m_107w (d + 1), ⟨m_142w (d + 1), ⟨m_143w d, ⟨m_194y (d + 5), ⟨m_196w (d + 4), ⟨m_317 (d + 5), ⟨m_319 (d + 5), trivial⟩⟩⟩⟩⟩⟩⟩⟩⟩ rfl (.inr pre0_ok) (by decide +kernel) (fun _ => post0_ok) r_190_s (allC c_190_s_0 (allC c_190_s_1 allN)) allN ⟨⟨rfl, rfl, rfl, fun _ _ _ _ => trivial⟩, (sub1 (sub1 (sub1 (sub1 ⟨⟨rfl, rfl, rfl, fun _ _ _ _ => trivial⟩, (sub1 (sub0 (sub0 trivial)))⟩))))⟩ r_190w_s (allC c_190w_s_0 (allC c_190w_s_1 (allC c_190w_s_2 (allC c_190w_s_3 (allC c_190w_s_4 allN))))) allN
