/- MixStageModel.fail (I)V, more fully -/
def nb_217 (a0 a1 : Int) (h0 h : gH) : Prop := RI h0 → RI h ∧ absR h = pfail (vwR h0) a1 (absR h0)
def n_217 : List Int → gH → gH → Prop := fun xs h0 h => match xs with
  | [a0, a1] => nb_217 a0 a1 h0 h
  | _ => True
noncomputable def e_217w : vE := eV e_217 n_217
noncomputable def L_217w : List vE := []
def B_217 : Int → List Int → gH → gH → Prop := fun c xs h0 h => True
theorem q_217w_0 {n0 n1 n2 n3 n4 n5 n6 n7 : Int} {H0 H1 H2 : gH} (f0 : n0 ≤ 2) (f1 : 1 ≤ n0) (f2 : n1 = 285) (f3 : n2 ≤ 2) (f4 : 0 ≤ n2) (f5 : n2 = hV H0 (n1).toNat 13) (f6 : n2 ≤ 0) (f7 : n3 = 13) (f8 : hUpd H1 H0 n1 n3 n0) (f9 : n4 = 289) (f10 : n5 ≤ 500) (f11 : 0 ≤ n5) (f12 : n5 = hV H1 (n1).toNat 11) (f13 : n6 ≤ 2000) (f14 : 0 ≤ n6) (f15 : n6 = hV H1 (n4).toNat (n5).toNat) (f16 : n7 = 14) (f17 : hUpd H2 H1 n1 n7 n6) : nb_217 n1 n0 H0 H2 := by
  unfold nb_217
  intro z
  have d7 := rdS (q := 285) f5 f2
  have d18 := rdS (q := 285) f12 f2
  have d21 := rdW (q := 289) f15 f9
  rw [show hV H1 285 11 = hV H0 285 11 from uSlot f8 285 11 (by rw [f7]; decide)] at d18
  rw [show hV H1 289 = hV H0 289 from uRowNe f8 289 (by rw [f2]; decide)] at d21
  have w11 : hV H2 285 11 = hV H0 285 11 := (uSlot f17 285 11 (by rw [f16]; decide)).trans (uSlot f8 285 11 (by rw [f7]; decide))
  have w13 : hV H2 285 13 = n0 := (uSlot f17 285 13 (by rw [f16]; decide)).trans (uSame f8 285 13 (by rw [f2]; rfl) (by rw [f7]; rfl))
  have w14 : hV H2 285 14 = n6 := uSame f17 285 14 (by rw [f2]; rfl) (by rw [f16]; rfl)
  have w15 : hV H2 285 15 = hV H0 285 15 := (uSlot f17 285 15 (by rw [f16]; decide)).trans (uSlot f8 285 15 (by rw [f7]; decide))
  have w16 : hV H2 285 16 = hV H0 285 16 := (uSlot f17 285 16 (by rw [f16]; decide)).trans (uSlot f8 285 16 (by rw [f7]; decide))
  rw [d18] at d21
  exact failR_on z (by omega) (by omega) w11 w13 (w14.trans d21) w15 w16 (TRs.trans (TRs_slot (s := 13) f8 f2 f7 (by decide)) (TRs_slot (s := 14) f17 f2 f16 (by decide)))
def g_217w_s_0 : vG := ([(80, [0, 7, 6], [2, 1], 0), (0, [7], [], 14), (22, [6, 4, 5], [1], 0), (90, [6], [], 0), (91, [6], [], 2000), (20, [5, 0], [1], 11), (90, [5], [], 0), (91, [5], [], 500), (0, [4], [], 289), (80, [0, 3, 1], [1, 0], 0), (0, [3], [], 13), (35, [2], [], 0), (20, [2, 0], [0], 13), (90, [2], [], 0), (91, [2], [], 2), (0, [0], [], 285), (90, [1], [], 1), (91, [1], [], 2)], (3000, [], [2], 26))
theorem c_217w_s_0 : vOkm T0 (eN e_217 L_217w A_217 mu_217 n_217 B_217 none) 2 g_217w_s_0 := vOk_inI fun ρ η f0 f1 f2 f3 f4 f5 f6 f7 f8 f9 f10 f11 f12 f13 f14 f15 f16 f17 => q_217w_0 (n0 := ρ 1) (n1 := ρ 0) (n2 := ρ 2) (n3 := ρ 3) (n4 := ρ 4) (n5 := ρ 5) (n6 := ρ 6) (n7 := ρ 7) (H0 := η 0) (H1 := η 1) (H2 := η 2) f17 f16 f15 f14 f13 f12 f11 f10 f9 f8 f7 f6 f5 f4 f3 f2 f1 f0
theorem q_217w_1 {n0 n1 n2 : Int} {H0 : gH} (f0 : n0 ≤ 2) (f1 : 1 ≤ n0) (f2 : n1 = 285) (f3 : n2 ≤ 2) (f4 : 0 ≤ n2) (f5 : n2 = hV H0 (n1).toNat 13) (f6 : 0 < n2) : nb_217 n1 n0 H0 H0 := by
  unfold nb_217
  intro z
  have d7 := rdS (q := 285) f5 f2
  exact failR_off z (by omega) (PRs_rfl z)
def g_217w_s_1 : vG := ([(34, [2], [], 0), (20, [2, 0], [0], 13), (90, [2], [], 0), (91, [2], [], 2), (0, [0], [], 285), (90, [1], [], 1), (91, [1], [], 2)], (3000, [], [0], 7))
theorem c_217w_s_1 : vOkm T0 (eN e_217 L_217w A_217 mu_217 n_217 B_217 none) 2 g_217w_s_1 := vOk_inI fun ρ η f0 f1 f2 f3 f4 f5 f6 => q_217w_1 (n0 := ρ 1) (n1 := ρ 0) (n2 := ρ 2) (H0 := η 0) f6 f5 f4 f3 f2 f1 f0
def p_217w_s : List vG := [g_217w_s_0,
  g_217w_s_1]
theorem r_217w_s : vCovBO (eR0 e_217 L_217 cs_217 2000) p_217w_s = true := by decide +kernel
theorem m_217w (d : Nat) : eC e_217w (d + 1) := eC_ref (e := e_217) (L := L_217) (L' := L_217w) (cs := cs_217) (n := 2000) (d := d + 0) (A := A_217) (μ := mu_217) (tp := false) (p0 := p_217_s) (p1 := p_217w_s) (N := n_217) (B := B_217) rfl trivial rfl (.inr pre0_ok) (by decide +kernel) (fun z => nomatch z) r_217_s (allC c_217_s_0 (allC c_217_s_1 allN)) allN trivial r_217w_s (allC c_217w_s_0 (allC c_217w_s_1 allN)) allN
/- MixStageModel.next ()V, more fully -/
def nb_219 (a0 : Int) (h0 h : gH) : Prop := RI h0 → ¬ (vwR h0).1 (absR h0).1 = 0 → RI h ∧ absR h = ptk (vwR h0) ((vwR h0).1 (absR h0).1) (absR h0)
def n_219 : List Int → gH → gH → Prop := fun xs h0 h => match xs with
  | [a0] => nb_219 a0 h0 h
  | _ => True
noncomputable def e_219w : vE := eV e_219 n_219
noncomputable def L_219w : List vE := [e_217w]
def B_219 : Int → List Int → gH → gH → Prop := fun c xs h0 h => True
theorem q_219w_0 {n0 n1 n2 n3 n4 n5 n6 : Int} {H0 H1 : gH} (f0 : n0 = 285) (f1 : n1 ≤ 500) (f2 : 0 ≤ n1) (f3 : n1 = hV H0 (n0).toNat 11) (f4 : n2 = 500) (f5 : n1 ≠ n2) (f6 : n3 ≤ 500) (f7 : 0 ≤ n3) (f8 : n3 = hV H0 (n0).toNat 11) (f9 : n4 = 1) (f10 : n5 = w32 (n3 + n4)) (f11 : n6 = 11) (f12 : hUpd H1 H0 n0 n6 n5) : nb_219 n0 H0 H1 := by
  unfold nb_219
  intro z nk
  have d5 := rdS (q := 285) f3 f0
  have d11 := rdS (q := 285) f8 f0
  have aw := f10
  rw [f9] at aw
  unfold w32 at aw
  have lo := z.2.1
  have hi := z.2.2.1
  have w11 : hV H1 285 11 = n5 := uSame f12 285 11 (by rw [f0]; rfl) (by rw [f11]; rfl)
  have w13 : hV H1 285 13 = hV H0 285 13 := uSlot f12 285 13 (by rw [f11]; decide)
  have w14 : hV H1 285 14 = hV H0 285 14 := uSlot f12 285 14 (by rw [f11]; decide)
  have w15 : hV H1 285 15 = hV H0 285 15 := uSlot f12 285 15 (by rw [f11]; decide)
  have w16 : hV H1 285 16 = hV H0 285 16 := uSlot f12 285 16 (by rw [f11]; decide)
  by_cases hf : hV H0 285 13 = 0
  · exact nextR_on z hf (fun e => nk (by rw [kindR_at z hf, e]; rfl)) (by omega) rfl (by omega) (w13.trans hf) w14 w15 w16 (TRs_slot (s := 11) f12 f0 f11 (by decide))
  · exact nextR_off z hf (.inr ⟨by omega, by omega⟩) w13 w14 w15 w16 (TRs_slot (s := 11) f12 f0 f11 (by decide))
def g_219w_s_0 : vG := ([(80, [0, 6, 5], [1, 0], 0), (0, [6], [], 11), (1, [5, 3, 4], [], 0), (0, [4], [], 1), (20, [3, 0], [0], 11), (90, [3], [], 0), (91, [3], [], 500), (41, [1, 2], [], 0), (0, [2], [], 500), (20, [1, 0], [0], 11), (90, [1], [], 0), (91, [1], [], 500), (0, [0], [], 285)], (3000, [], [1], 28))
theorem c_219w_s_0 : vOkm T0 (eN e_219 L_219w A_219 mu_219 n_219 B_219 none) 1 g_219w_s_0 := vOk_inI fun ρ η f0 f1 f2 f3 f4 f5 f6 f7 f8 f9 f10 f11 f12 => q_219w_0 (n0 := ρ 0) (n1 := ρ 1) (n2 := ρ 2) (n3 := ρ 3) (n4 := ρ 4) (n5 := ρ 5) (n6 := ρ 6) (H0 := η 0) (H1 := η 1) f12 f11 f10 f9 f8 f7 f6 f5 f4 f3 f2 f1 f0
theorem q_219w_1 {n0 n1 n2 n3 : Int} {H0 H1 : gH} (f0 : n0 = 285) (f1 : n1 ≤ 500) (f2 : 0 ≤ n1) (f3 : n1 = hV H0 (n0).toNat 11) (f4 : n2 = 500) (f5 : n1 = n2) (f6 : n3 = 2) (f7 : (hLe T0 H0 H1 ∧ hFr s_217.2.2.2.2 H0 H1 ∧ ((0 : Int) = 0 → H1.length = H0.length) ∧ hWt T0 H1) ∧ (postb_217 n0 n3 H0 H1 ∧ nb_217 n0 n3 H0 H1)) : nb_219 n0 H0 H1 := by
  unfold nb_219
  intro z nk
  have d5 := rdS (q := 285) f3 f0
  have c := f7.2.2 z
  rw [f6] at c
  by_cases hf : hV H0 285 13 = 0
  · exact ⟨c.1, nextR_full z hf (by omega) rfl c.2⟩
  · have hn := absR_neg z hf
    rw [pfail_neg hn (absR_ok z)] at c
    exact ⟨c.1, c.2.trans (ptk_neg hn (absR_ok z)).symm⟩
def g_219w_s_1 : vG := ([(1217, [0, 3], [0, 1], 0), (0, [3], [], 2), (40, [1, 2], [], 0), (0, [2], [], 500), (20, [1, 0], [0], 11), (90, [1], [], 0), (91, [1], [], 500), (0, [0], [], 285)], (3000, [], [1], 28))
theorem c_219w_s_1 : vOkm T0 (eN e_219 L_219w A_219 mu_219 n_219 B_219 none) 1 g_219w_s_1 := vOk_inI fun ρ η f0 f1 f2 f3 f4 f5 f6 f7 => q_219w_1 (n0 := ρ 0) (n1 := ρ 1) (n2 := ρ 2) (n3 := ρ 3) (H0 := η 0) (H1 := η 1) f7 f6 f5 f4 f3 f2 f1 f0
def p_219w_s : List vG := [g_219w_s_0,
  g_219w_s_1]
theorem r_219w_s : vCovBO (eR0 e_219 L_219 cs_219 2000) p_219w_s = true := by decide +kernel
theorem m_219w (d : Nat) : eC e_219w (d + 2) := eC_ref (e := e_219) (L := L_219) (L' := L_219w) (cs := cs_219) (n := 2000) (d := d + 1) (A := A_219) (μ := mu_219) (tp := false) (p0 := p_219_s) (p1 := p_219w_s) (N := n_219) (B := B_219) rfl ⟨m_217w d, trivial⟩ rfl (.inr pre0_ok) (by decide +kernel) (fun z => nomatch z) r_219_s (allC c_219_s_0 (allC c_219_s_1 (allC c_219_s_2 (allC c_219_s_3 allN)))) allN (sub1 trivial) r_219w_s (allC c_219w_s_0 (allC c_219w_s_1 allN)) allN
/- MixStageModel.wrong (II)V, more fully -/
def nb_218 (a0 a1 a2 : Int) (h0 h : gH) : Prop := WRs a1 a2 h0 h
def n_218 : List Int → gH → gH → Prop := fun xs h0 h => match xs with
  | [a0, a1, a2] => nb_218 a0 a1 a2 h0 h
  | _ => True
noncomputable def e_218w : vE := eV e_218 n_218
noncomputable def L_218w : List vE := []
def B_218 : Int → List Int → gH → gH → Prop := fun c xs h0 h => True
theorem q_218w_0 {n0 n1 n2 n3 n4 n5 : Int} {H0 : gH} (f0 : n0 ≤ 502) (f1 : 0 ≤ n0) (f2 : n1 ≤ 6) (f3 : 1 ≤ n1) (f4 : n2 = 285) (f5 : hWt T0 H0 ∧ True) (f6 : n3 = 289) (f7 : n4 ≤ 2000) (f8 : 0 ≤ n4) (f9 : n4 = hV H0 (n3).toNat (n0).toNat) (f10 : n5 ≤ 2) (f11 : 0 ≤ n5) (f12 : n5 = hV H0 (n2).toNat 13) (f13 : 0 < n5) : nb_218 n2 n1 n0 H0 H0 := by
  unfold nb_218 WRs
  have d11 := rdW (q := 289) f9 f6
  have d15 := rdS (q := 285) f12 f4
  have b13 := f5.1 285 13 _ _ rW_13
  have b15 := f5.1 285 15 _ _ rW_15
  have w11 : hV H0 285 11 = hV H0 285 11 := rfl
  have w13 : hV H0 285 13 = hV H0 285 13 := rfl
  have w14 : hV H0 285 14 = hV H0 285 14 := rfl
  have w15 : hV H0 285 15 = hV H0 285 15 := rfl
  have w16 : hV H0 285 16 = hV H0 285 16 := rfl
  have c16 := f13
  exact ⟨w11, w13, w14, (TRs.refl _), .inr ⟨by omega, w15, w16⟩⟩
def g_218w_s_0 : vG := ([(34, [5], [], 0), (20, [5, 0], [0], 13), (90, [5], [], 0), (91, [5], [], 2), (22, [4, 3, 2], [0], 0), (90, [4], [], 0), (91, [4], [], 2000), (0, [3], [], 289), (6000, [0, 1, 2], [0], 0), (0, [0], [], 285), (90, [1], [], 1), (91, [1], [], 6), (90, [2], [], 0), (91, [2], [], 502)], (3000, [], [0], 45))
theorem c_218w_s_0 : vOkm T0 (eN e_218 L_218w A_218 mu_218 n_218 B_218 none) 3 g_218w_s_0 := vOk_inI fun ρ η f0 f1 f2 f3 f4 f5 f6 f7 f8 f9 f10 f11 f12 f13 => q_218w_0 (n0 := ρ 2) (n1 := ρ 1) (n2 := ρ 0) (n3 := ρ 3) (n4 := ρ 4) (n5 := ρ 5) (H0 := η 0) f13 f12 f11 f10 f9 f8 f7 f6 f5 f4 f3 f2 f1 f0
theorem q_218w_1 {n0 n1 n2 n3 n4 n5 n6 n7 n8 : Int} {H0 H1 H2 : gH} (f0 : n0 ≤ 502) (f1 : 0 ≤ n0) (f2 : n1 ≤ 6) (f3 : 1 ≤ n1) (f4 : n2 = 285) (f5 : hWt T0 H0 ∧ True) (f6 : n3 = 289) (f7 : n4 ≤ 2000) (f8 : 0 ≤ n4) (f9 : n4 = hV H0 (n3).toNat (n0).toNat) (f10 : n5 ≤ 2) (f11 : 0 ≤ n5) (f12 : n5 = hV H0 (n2).toNat 13) (f13 : n5 ≤ 0) (f14 : n6 ≤ 6) (f15 : 0 ≤ n6) (f16 : n6 = hV H0 (n2).toNat 15) (f17 : n6 = 0) (f18 : n7 = 15) (f19 : hUpd H1 H0 n2 n7 n1) (f20 : n8 = 16) (f21 : hUpd H2 H1 n2 n8 n4) : nb_218 n2 n1 n0 H0 H2 := by
  unfold nb_218 WRs
  have d11 := rdW (q := 289) f9 f6
  have d15 := rdS (q := 285) f12 f4
  have d20 := rdS (q := 285) f16 f4
  have b13 := f5.1 285 13 _ _ rW_13
  have b15 := f5.1 285 15 _ _ rW_15
  have w11 : hV H2 285 11 = hV H0 285 11 := (uSlot f21 285 11 (by rw [f20]; decide)).trans (uSlot f19 285 11 (by rw [f18]; decide))
  have w13 : hV H2 285 13 = hV H0 285 13 := (uSlot f21 285 13 (by rw [f20]; decide)).trans (uSlot f19 285 13 (by rw [f18]; decide))
  have w14 : hV H2 285 14 = hV H0 285 14 := (uSlot f21 285 14 (by rw [f20]; decide)).trans (uSlot f19 285 14 (by rw [f18]; decide))
  have w15 : hV H2 285 15 = n1 := (uSlot f21 285 15 (by rw [f20]; decide)).trans (uSame f19 285 15 (by rw [f4]; rfl) (by rw [f18]; rfl))
  have w16 : hV H2 285 16 = n4 := uSame f21 285 16 (by rw [f4]; rfl) (by rw [f20]; rfl)
  have c16 := f13
  have c21 := f17
  exact ⟨w11, w13, w14, (TRs.trans (TRs_slot (s := 15) f19 f4 f18 (by decide)) (TRs_slot (s := 16) f21 f4 f20 (by decide))), .inl ⟨by omega, by omega, w15, w16.trans d11⟩⟩
def g_218w_s_1 : vG := ([(80, [0, 8, 4], [2, 1], 0), (0, [8], [], 16), (80, [0, 7, 1], [1, 0], 0), (0, [7], [], 15), (30, [6], [], 0), (20, [6, 0], [0], 15), (90, [6], [], 0), (91, [6], [], 6), (35, [5], [], 0), (20, [5, 0], [0], 13), (90, [5], [], 0), (91, [5], [], 2), (22, [4, 3, 2], [0], 0), (90, [4], [], 0), (91, [4], [], 2000), (0, [3], [], 289), (6000, [0, 1, 2], [0], 0), (0, [0], [], 285), (90, [1], [], 1), (91, [1], [], 6), (90, [2], [], 0), (91, [2], [], 502)], (3000, [], [2], 56))
theorem c_218w_s_1 : vOkm T0 (eN e_218 L_218w A_218 mu_218 n_218 B_218 none) 3 g_218w_s_1 := vOk_inI fun ρ η f0 f1 f2 f3 f4 f5 f6 f7 f8 f9 f10 f11 f12 f13 f14 f15 f16 f17 f18 f19 f20 f21 => q_218w_1 (n0 := ρ 2) (n1 := ρ 1) (n2 := ρ 0) (n3 := ρ 3) (n4 := ρ 4) (n5 := ρ 5) (n6 := ρ 6) (n7 := ρ 7) (n8 := ρ 8) (H0 := η 0) (H1 := η 1) (H2 := η 2) f21 f20 f19 f18 f17 f16 f15 f14 f13 f12 f11 f10 f9 f8 f7 f6 f5 f4 f3 f2 f1 f0
theorem q_218w_2 {n0 n1 n2 n3 n4 n5 n6 n7 : Int} {H0 : gH} (f0 : n0 ≤ 502) (f1 : 0 ≤ n0) (f2 : n1 ≤ 6) (f3 : 1 ≤ n1) (f4 : n2 = 285) (f5 : hWt T0 H0 ∧ True) (f6 : n3 = 289) (f7 : n4 ≤ 2000) (f8 : 0 ≤ n4) (f9 : n4 = hV H0 (n3).toNat (n0).toNat) (f10 : n5 ≤ 2) (f11 : 0 ≤ n5) (f12 : n5 = hV H0 (n2).toNat 13) (f13 : n5 ≤ 0) (f14 : n6 ≤ 6) (f15 : 0 ≤ n6) (f16 : n6 = hV H0 (n2).toNat 15) (f17 : n6 ≠ 0) (f18 : n7 ≤ 2000) (f19 : 0 ≤ n7) (f20 : n7 = hV H0 (n2).toNat 16) (f21 : n7 < n4) : nb_218 n2 n1 n0 H0 H0 := by
  unfold nb_218 WRs
  have d11 := rdW (q := 289) f9 f6
  have d15 := rdS (q := 285) f12 f4
  have d20 := rdS (q := 285) f16 f4
  have d25 := rdS (q := 285) f20 f4
  have b13 := f5.1 285 13 _ _ rW_13
  have b15 := f5.1 285 15 _ _ rW_15
  have w11 : hV H0 285 11 = hV H0 285 11 := rfl
  have w13 : hV H0 285 13 = hV H0 285 13 := rfl
  have w14 : hV H0 285 14 = hV H0 285 14 := rfl
  have w15 : hV H0 285 15 = hV H0 285 15 := rfl
  have w16 : hV H0 285 16 = hV H0 285 16 := rfl
  have c16 := f13
  have c21 := f17
  have c26 := f21
  exact ⟨w11, w13, w14, (TRs.refl _), .inr ⟨by omega, w15, w16⟩⟩
def g_218w_s_2 : vG := ([(44, [4, 7], [], 0), (20, [7, 0], [0], 16), (90, [7], [], 0), (91, [7], [], 2000), (31, [6], [], 0), (20, [6, 0], [0], 15), (90, [6], [], 0), (91, [6], [], 6), (35, [5], [], 0), (20, [5, 0], [0], 13), (90, [5], [], 0), (91, [5], [], 2), (22, [4, 3, 2], [0], 0), (90, [4], [], 0), (91, [4], [], 2000), (0, [3], [], 289), (6000, [0, 1, 2], [0], 0), (0, [0], [], 285), (90, [1], [], 1), (91, [1], [], 6), (90, [2], [], 0), (91, [2], [], 502)], (3000, [], [0], 45))
theorem c_218w_s_2 : vOkm T0 (eN e_218 L_218w A_218 mu_218 n_218 B_218 none) 3 g_218w_s_2 := vOk_inI fun ρ η f0 f1 f2 f3 f4 f5 f6 f7 f8 f9 f10 f11 f12 f13 f14 f15 f16 f17 f18 f19 f20 f21 => q_218w_2 (n0 := ρ 2) (n1 := ρ 1) (n2 := ρ 0) (n3 := ρ 3) (n4 := ρ 4) (n5 := ρ 5) (n6 := ρ 6) (n7 := ρ 7) (H0 := η 0) f21 f20 f19 f18 f17 f16 f15 f14 f13 f12 f11 f10 f9 f8 f7 f6 f5 f4 f3 f2 f1 f0
theorem q_218w_3 {n0 n1 n2 n3 n4 n5 n6 n7 n8 n9 n10 : Int} {H0 H1 H2 : gH} (f0 : n0 ≤ 502) (f1 : 0 ≤ n0) (f2 : n1 ≤ 6) (f3 : 1 ≤ n1) (f4 : n2 = 285) (f5 : hWt T0 H0 ∧ True) (f6 : n3 = 289) (f7 : n4 ≤ 2000) (f8 : 0 ≤ n4) (f9 : n4 = hV H0 (n3).toNat (n0).toNat) (f10 : n5 ≤ 2) (f11 : 0 ≤ n5) (f12 : n5 = hV H0 (n2).toNat 13) (f13 : n5 ≤ 0) (f14 : n6 ≤ 6) (f15 : 0 ≤ n6) (f16 : n6 = hV H0 (n2).toNat 15) (f17 : n6 ≠ 0) (f18 : n7 ≤ 2000) (f19 : 0 ≤ n7) (f20 : n7 = hV H0 (n2).toNat 16) (f21 : n4 ≤ n7) (f22 : n8 ≤ 2000) (f23 : 0 ≤ n8) (f24 : n8 = hV H0 (n2).toNat 16) (f25 : n4 ≠ n8) (f26 : n9 = 15) (f27 : hUpd H1 H0 n2 n9 n1) (f28 : n10 = 16) (f29 : hUpd H2 H1 n2 n10 n4) : nb_218 n2 n1 n0 H0 H2 := by
  unfold nb_218 WRs
  have d11 := rdW (q := 289) f9 f6
  have d15 := rdS (q := 285) f12 f4
  have d20 := rdS (q := 285) f16 f4
  have d25 := rdS (q := 285) f20 f4
  have d30 := rdS (q := 285) f24 f4
  have b13 := f5.1 285 13 _ _ rW_13
  have b15 := f5.1 285 15 _ _ rW_15
  have w11 : hV H2 285 11 = hV H0 285 11 := (uSlot f29 285 11 (by rw [f28]; decide)).trans (uSlot f27 285 11 (by rw [f26]; decide))
  have w13 : hV H2 285 13 = hV H0 285 13 := (uSlot f29 285 13 (by rw [f28]; decide)).trans (uSlot f27 285 13 (by rw [f26]; decide))
  have w14 : hV H2 285 14 = hV H0 285 14 := (uSlot f29 285 14 (by rw [f28]; decide)).trans (uSlot f27 285 14 (by rw [f26]; decide))
  have w15 : hV H2 285 15 = n1 := (uSlot f29 285 15 (by rw [f28]; decide)).trans (uSame f27 285 15 (by rw [f4]; rfl) (by rw [f26]; rfl))
  have w16 : hV H2 285 16 = n4 := uSame f29 285 16 (by rw [f4]; rfl) (by rw [f28]; rfl)
  have c16 := f13
  have c21 := f17
  have c26 := f21
  have c31 := f25
  exact ⟨w11, w13, w14, (TRs.trans (TRs_slot (s := 15) f27 f4 f26 (by decide)) (TRs_slot (s := 16) f29 f4 f28 (by decide))), .inl ⟨by omega, by omega, w15, w16.trans d11⟩⟩
def g_218w_s_3 : vG := ([(80, [0, 10, 4], [2, 1], 0), (0, [10], [], 16), (80, [0, 9, 1], [1, 0], 0), (0, [9], [], 15), (41, [4, 8], [], 0), (20, [8, 0], [0], 16), (90, [8], [], 0), (91, [8], [], 2000), (45, [4, 7], [], 0), (20, [7, 0], [0], 16), (90, [7], [], 0), (91, [7], [], 2000), (31, [6], [], 0), (20, [6, 0], [0], 15), (90, [6], [], 0), (91, [6], [], 6), (35, [5], [], 0), (20, [5, 0], [0], 13), (90, [5], [], 0), (91, [5], [], 2), (22, [4, 3, 2], [0], 0), (90, [4], [], 0), (91, [4], [], 2000), (0, [3], [], 289), (6000, [0, 1, 2], [0], 0), (0, [0], [], 285), (90, [1], [], 1), (91, [1], [], 6), (90, [2], [], 0), (91, [2], [], 502)], (3000, [], [2], 56))
theorem c_218w_s_3 : vOkm T0 (eN e_218 L_218w A_218 mu_218 n_218 B_218 none) 3 g_218w_s_3 := vOk_inI fun ρ η f0 f1 f2 f3 f4 f5 f6 f7 f8 f9 f10 f11 f12 f13 f14 f15 f16 f17 f18 f19 f20 f21 f22 f23 f24 f25 f26 f27 f28 f29 => q_218w_3 (n0 := ρ 2) (n1 := ρ 1) (n2 := ρ 0) (n3 := ρ 3) (n4 := ρ 4) (n5 := ρ 5) (n6 := ρ 6) (n7 := ρ 7) (n8 := ρ 8) (n9 := ρ 9) (n10 := ρ 10) (H0 := η 0) (H1 := η 1) (H2 := η 2) f29 f28 f27 f26 f25 f24 f23 f22 f21 f20 f19 f18 f17 f16 f15 f14 f13 f12 f11 f10 f9 f8 f7 f6 f5 f4 f3 f2 f1 f0
theorem q_218w_4 {n0 n1 n2 n3 n4 n5 n6 n7 n8 n9 n10 n11 : Int} {H0 H1 H2 : gH} (f0 : n0 ≤ 502) (f1 : 0 ≤ n0) (f2 : n1 ≤ 6) (f3 : 1 ≤ n1) (f4 : n2 = 285) (f5 : hWt T0 H0 ∧ True) (f6 : n3 = 289) (f7 : n4 ≤ 2000) (f8 : 0 ≤ n4) (f9 : n4 = hV H0 (n3).toNat (n0).toNat) (f10 : n5 ≤ 2) (f11 : 0 ≤ n5) (f12 : n5 = hV H0 (n2).toNat 13) (f13 : n5 ≤ 0) (f14 : n6 ≤ 6) (f15 : 0 ≤ n6) (f16 : n6 = hV H0 (n2).toNat 15) (f17 : n6 ≠ 0) (f18 : n7 ≤ 2000) (f19 : 0 ≤ n7) (f20 : n7 = hV H0 (n2).toNat 16) (f21 : n4 ≤ n7) (f22 : n8 ≤ 2000) (f23 : 0 ≤ n8) (f24 : n8 = hV H0 (n2).toNat 16) (f25 : n4 = n8) (f26 : n9 ≤ 6) (f27 : 0 ≤ n9) (f28 : n9 = hV H0 (n2).toNat 15) (f29 : n1 < n9) (f30 : n10 = 15) (f31 : hUpd H1 H0 n2 n10 n1) (f32 : n11 = 16) (f33 : hUpd H2 H1 n2 n11 n4) : nb_218 n2 n1 n0 H0 H2 := by
  unfold nb_218 WRs
  have d11 := rdW (q := 289) f9 f6
  have d15 := rdS (q := 285) f12 f4
  have d20 := rdS (q := 285) f16 f4
  have d25 := rdS (q := 285) f20 f4
  have d30 := rdS (q := 285) f24 f4
  have d35 := rdS (q := 285) f28 f4
  have b13 := f5.1 285 13 _ _ rW_13
  have b15 := f5.1 285 15 _ _ rW_15
  have w11 : hV H2 285 11 = hV H0 285 11 := (uSlot f33 285 11 (by rw [f32]; decide)).trans (uSlot f31 285 11 (by rw [f30]; decide))
  have w13 : hV H2 285 13 = hV H0 285 13 := (uSlot f33 285 13 (by rw [f32]; decide)).trans (uSlot f31 285 13 (by rw [f30]; decide))
  have w14 : hV H2 285 14 = hV H0 285 14 := (uSlot f33 285 14 (by rw [f32]; decide)).trans (uSlot f31 285 14 (by rw [f30]; decide))
  have w15 : hV H2 285 15 = n1 := (uSlot f33 285 15 (by rw [f32]; decide)).trans (uSame f31 285 15 (by rw [f4]; rfl) (by rw [f30]; rfl))
  have w16 : hV H2 285 16 = n4 := uSame f33 285 16 (by rw [f4]; rfl) (by rw [f32]; rfl)
  have c16 := f13
  have c21 := f17
  have c26 := f21
  have c31 := f25
  have c36 := f29
  exact ⟨w11, w13, w14, (TRs.trans (TRs_slot (s := 15) f31 f4 f30 (by decide)) (TRs_slot (s := 16) f33 f4 f32 (by decide))), .inl ⟨by omega, by omega, w15, w16.trans d11⟩⟩
def g_218w_s_4 : vG := ([(80, [0, 11, 4], [2, 1], 0), (0, [11], [], 16), (80, [0, 10, 1], [1, 0], 0), (0, [10], [], 15), (42, [1, 9], [], 0), (20, [9, 0], [0], 15), (90, [9], [], 0), (91, [9], [], 6), (40, [4, 8], [], 0), (20, [8, 0], [0], 16), (90, [8], [], 0), (91, [8], [], 2000), (45, [4, 7], [], 0), (20, [7, 0], [0], 16), (90, [7], [], 0), (91, [7], [], 2000), (31, [6], [], 0), (20, [6, 0], [0], 15), (90, [6], [], 0), (91, [6], [], 6), (35, [5], [], 0), (20, [5, 0], [0], 13), (90, [5], [], 0), (91, [5], [], 2), (22, [4, 3, 2], [0], 0), (90, [4], [], 0), (91, [4], [], 2000), (0, [3], [], 289), (6000, [0, 1, 2], [0], 0), (0, [0], [], 285), (90, [1], [], 1), (91, [1], [], 6), (90, [2], [], 0), (91, [2], [], 502)], (3000, [], [2], 56))
theorem c_218w_s_4 : vOkm T0 (eN e_218 L_218w A_218 mu_218 n_218 B_218 none) 3 g_218w_s_4 := vOk_inI fun ρ η f0 f1 f2 f3 f4 f5 f6 f7 f8 f9 f10 f11 f12 f13 f14 f15 f16 f17 f18 f19 f20 f21 f22 f23 f24 f25 f26 f27 f28 f29 f30 f31 f32 f33 => q_218w_4 (n0 := ρ 2) (n1 := ρ 1) (n2 := ρ 0) (n3 := ρ 3) (n4 := ρ 4) (n5 := ρ 5) (n6 := ρ 6) (n7 := ρ 7) (n8 := ρ 8) (n9 := ρ 9) (n10 := ρ 10) (n11 := ρ 11) (H0 := η 0) (H1 := η 1) (H2 := η 2) f33 f32 f31 f30 f29 f28 f27 f26 f25 f24 f23 f22 f21 f20 f19 f18 f17 f16 f15 f14 f13 f12 f11 f10 f9 f8 f7 f6 f5 f4 f3 f2 f1 f0
theorem q_218w_5 {n0 n1 n2 n3 n4 n5 n6 n7 n8 n9 : Int} {H0 : gH} (f0 : n0 ≤ 502) (f1 : 0 ≤ n0) (f2 : n1 ≤ 6) (f3 : 1 ≤ n1) (f4 : n2 = 285) (f5 : hWt T0 H0 ∧ True) (f6 : n3 = 289) (f7 : n4 ≤ 2000) (f8 : 0 ≤ n4) (f9 : n4 = hV H0 (n3).toNat (n0).toNat) (f10 : n5 ≤ 2) (f11 : 0 ≤ n5) (f12 : n5 = hV H0 (n2).toNat 13) (f13 : n5 ≤ 0) (f14 : n6 ≤ 6) (f15 : 0 ≤ n6) (f16 : n6 = hV H0 (n2).toNat 15) (f17 : n6 ≠ 0) (f18 : n7 ≤ 2000) (f19 : 0 ≤ n7) (f20 : n7 = hV H0 (n2).toNat 16) (f21 : n4 ≤ n7) (f22 : n8 ≤ 2000) (f23 : 0 ≤ n8) (f24 : n8 = hV H0 (n2).toNat 16) (f25 : n4 = n8) (f26 : n9 ≤ 6) (f27 : 0 ≤ n9) (f28 : n9 = hV H0 (n2).toNat 15) (f29 : n9 ≤ n1) : nb_218 n2 n1 n0 H0 H0 := by
  unfold nb_218 WRs
  have d11 := rdW (q := 289) f9 f6
  have d15 := rdS (q := 285) f12 f4
  have d20 := rdS (q := 285) f16 f4
  have d25 := rdS (q := 285) f20 f4
  have d30 := rdS (q := 285) f24 f4
  have d35 := rdS (q := 285) f28 f4
  have b13 := f5.1 285 13 _ _ rW_13
  have b15 := f5.1 285 15 _ _ rW_15
  have w11 : hV H0 285 11 = hV H0 285 11 := rfl
  have w13 : hV H0 285 13 = hV H0 285 13 := rfl
  have w14 : hV H0 285 14 = hV H0 285 14 := rfl
  have w15 : hV H0 285 15 = hV H0 285 15 := rfl
  have w16 : hV H0 285 16 = hV H0 285 16 := rfl
  have c16 := f13
  have c21 := f17
  have c26 := f21
  have c31 := f25
  have c36 := f29
  exact ⟨w11, w13, w14, (TRs.refl _), .inr ⟨by omega, w15, w16⟩⟩
def g_218w_s_5 : vG := ([(43, [1, 9], [], 0), (20, [9, 0], [0], 15), (90, [9], [], 0), (91, [9], [], 6), (40, [4, 8], [], 0), (20, [8, 0], [0], 16), (90, [8], [], 0), (91, [8], [], 2000), (45, [4, 7], [], 0), (20, [7, 0], [0], 16), (90, [7], [], 0), (91, [7], [], 2000), (31, [6], [], 0), (20, [6, 0], [0], 15), (90, [6], [], 0), (91, [6], [], 6), (35, [5], [], 0), (20, [5, 0], [0], 13), (90, [5], [], 0), (91, [5], [], 2), (22, [4, 3, 2], [0], 0), (90, [4], [], 0), (91, [4], [], 2000), (0, [3], [], 289), (6000, [0, 1, 2], [0], 0), (0, [0], [], 285), (90, [1], [], 1), (91, [1], [], 6), (90, [2], [], 0), (91, [2], [], 502)], (3000, [], [0], 45))
theorem c_218w_s_5 : vOkm T0 (eN e_218 L_218w A_218 mu_218 n_218 B_218 none) 3 g_218w_s_5 := vOk_inI fun ρ η f0 f1 f2 f3 f4 f5 f6 f7 f8 f9 f10 f11 f12 f13 f14 f15 f16 f17 f18 f19 f20 f21 f22 f23 f24 f25 f26 f27 f28 f29 => q_218w_5 (n0 := ρ 2) (n1 := ρ 1) (n2 := ρ 0) (n3 := ρ 3) (n4 := ρ 4) (n5 := ρ 5) (n6 := ρ 6) (n7 := ρ 7) (n8 := ρ 8) (n9 := ρ 9) (H0 := η 0) f29 f28 f27 f26 f25 f24 f23 f22 f21 f20 f19 f18 f17 f16 f15 f14 f13 f12 f11 f10 f9 f8 f7 f6 f5 f4 f3 f2 f1 f0
def p_218w_s : List vG := [g_218w_s_0,
  g_218w_s_1,
  g_218w_s_2,
  g_218w_s_3,
  g_218w_s_4,
  g_218w_s_5]
theorem r_218w_s : vCovBO (eR0 e_218 L_218 cs_218 2000) p_218w_s = true := by decide +kernel
theorem m_218w (d : Nat) : eC e_218w (d + 1) := eC_ref (e := e_218) (L := L_218) (L' := L_218w) (cs := cs_218) (n := 2000) (d := d + 0) (A := A_218) (μ := mu_218) (tp := false) (p0 := p_218_s) (p1 := p_218w_s) (N := n_218) (B := B_218) rfl trivial rfl (.inr pre0_ok) (by decide +kernel) (fun z => nomatch z) r_218_s (allC c_218_s_0 (allC c_218_s_1 (allC c_218_s_2 (allC c_218_s_3 (allC c_218_s_4 (allC c_218_s_5 allN)))))) allN trivial r_218w_s (allC c_218w_s_0 (allC c_218w_s_1 (allC c_218w_s_2 (allC c_218w_s_3 (allC c_218w_s_4 (allC c_218w_s_5 allN)))))) allN
/- MixStageModel.must (I)V, more fully -/
def nb_220 (a0 a1 : Int) (h0 h : gH) : Prop := RI h0 → 0 < a1 → RI h ∧ absR h = ptk (vwR h0) (km a1) (absR h0)
def n_220 : List Int → gH → gH → Prop := fun xs h0 h => match xs with
  | [a0, a1] => nb_220 a0 a1 h0 h
  | _ => True
noncomputable def e_220w : vE := eV e_220 n_220
noncomputable def L_220w : List vE := [e_216, e_217w, e_219w]
def B_220 : Int → List Int → gH → gH → Prop := fun c xs h0 h => True
theorem q_220w_0 {n0 n1 n2 n3 : Int} {H0 H1 H2 : gH} (f0 : n0 ≤ 2147483647) (f1 : (-2147483648) ≤ n0) (f2 : n2 ≤ 1) (f3 : 0 ≤ n2) (f4 : (hLe T0 H0 H1 ∧ hFr s_216.2.2.2.2 H0 H1 ∧ ((0 : Int) = 0 → H1.length = H0.length) ∧ hWt T0 H1) ∧ postb_216 n2 n1 n0 H0 H1) (f5 : n2 = 0) (f6 : n3 = 1) (f7 : (hLe T0 H1 H2 ∧ hFr s_217.2.2.2.2 H1 H2 ∧ ((0 : Int) = 0 → H2.length = H1.length) ∧ hWt T0 H2) ∧ (postb_217 n1 n3 H1 H2 ∧ nb_217 n1 n3 H1 H2)) : nb_220 n1 n0 H0 H2 := by
  unfold nb_220
  intro z k0
  have p := PR_fr f4.1.2.1 (by decide +kernel) z
  have q := f4.2
  unfold postb_216 at q
  have b1 := f4.1.2.2.2 285 13 _ _ rW_13
  have cm := f5
  have no := isR_no (k := n0) p.2.2.1 (by omega) (by omega)
  rw [p.1, p.2.1] at no
  have c := f7.2.2 p.2.2.1
  rw [f6, p.1, p.2.1] at c
  exact ⟨c.1, c.2.trans (mustR_no (vwR_ok H0) (absR_ok z) no).symm⟩
def g_220w_s_0 : vG := ([(1217, [0, 3], [1, 2], 0), (0, [3], [], 1), (30, [2], [], 0), (1216, [2, 0, 1], [0, 1], 0), (90, [2], [], 0), (91, [2], [], 1), (90, [1], [], -2147483648), (91, [1], [], 2147483647)], (3000, [], [2], 20))
theorem c_220w_s_0 : vOkm T0 (eN e_220 L_220w A_220 mu_220 n_220 B_220 none) 2 g_220w_s_0 := vOk_inI fun ρ η f0 f1 f2 f3 f4 f5 f6 f7 => q_220w_0 (n0 := ρ 1) (n1 := ρ 0) (n2 := ρ 2) (n3 := ρ 3) (H0 := η 0) (H1 := η 1) (H2 := η 2) f7 f6 f5 f4 f3 f2 f1 f0
theorem q_220w_1 {n0 n1 n2 : Int} {H0 H1 H2 : gH} (f0 : n0 ≤ 2147483647) (f1 : (-2147483648) ≤ n0) (f2 : n2 ≤ 1) (f3 : 0 ≤ n2) (f4 : (hLe T0 H0 H1 ∧ hFr s_216.2.2.2.2 H0 H1 ∧ ((0 : Int) = 0 → H1.length = H0.length) ∧ hWt T0 H1) ∧ postb_216 n2 n1 n0 H0 H1) (f5 : n2 ≠ 0) (f6 : (hLe T0 H1 H2 ∧ hFr s_219.2.2.2.2 H1 H2 ∧ ((0 : Int) = 0 → H2.length = H1.length) ∧ hWt T0 H2) ∧ (postb_219 n1 H1 H2 ∧ nb_219 n1 H1 H2)) : nb_220 n1 n0 H0 H2 := by
  unfold nb_220
  intro z k0
  have p := PR_fr f4.1.2.1 (by decide +kernel) z
  have q := f4.2
  unfold postb_216 at q
  have b1 := f4.1.2.2.2 285 13 _ _ rW_13
  have cm := f5
  have ye := isR_yes (k := n0) p.2.2.1 (by omega) (by omega)
  have kk := km_big k0
  have c := f6.2.2 p.2.2.1 (by omega)
  rw [ye, p.1, p.2.1] at c
  exact c
def g_220w_s_1 : vG := ([(1219, [0], [1, 2], 0), (31, [2], [], 0), (1216, [2, 0, 1], [0, 1], 0), (90, [2], [], 0), (91, [2], [], 1), (90, [1], [], -2147483648), (91, [1], [], 2147483647)], (3000, [], [2], 20))
theorem c_220w_s_1 : vOkm T0 (eN e_220 L_220w A_220 mu_220 n_220 B_220 none) 2 g_220w_s_1 := vOk_inI fun ρ η f0 f1 f2 f3 f4 f5 f6 => q_220w_1 (n0 := ρ 1) (n1 := ρ 0) (n2 := ρ 2) (H0 := η 0) (H1 := η 1) (H2 := η 2) f6 f5 f4 f3 f2 f1 f0
def p_220w_s : List vG := [g_220w_s_0,
  g_220w_s_1]
theorem r_220w_s : vCovBO (eR0 e_220 L_220 cs_220 2000) p_220w_s = true := by decide +kernel
theorem m_220w (d : Nat) : eC e_220w (d + 3) := eC_ref (e := e_220) (L := L_220) (L' := L_220w) (cs := cs_220) (n := 2000) (d := d + 2) (A := A_220) (μ := mu_220) (tp := false) (p0 := p_220_s) (p1 := p_220w_s) (N := n_220) (B := B_220) rfl ⟨m_216 (d + 1), ⟨m_217w (d + 1), ⟨m_219w d, trivial⟩⟩⟩ rfl (.inr pre0_ok) (by decide +kernel) (fun z => nomatch z) r_220_s (allC c_220_s_0 (allC c_220_s_1 allN)) allN (sub0 (sub1 (sub1 trivial))) r_220w_s (allC c_220w_s_0 (allC c_220w_s_1 allN)) allN
/- MixStageModel.number (II)I, more fully -/
def nb_223 (r a0 a1 a2 : Int) (h0 h : gH) : Prop := RI h0 → RI h ∧ absR h = pnm (vwR h0) a1 a2 (absR h0)
def n_223 : List Int → gH → gH → Prop := fun xs h0 h => match xs with
  | [r, a0, a1, a2] => nb_223 r a0 a1 a2 h0 h
  | _ => True
noncomputable def e_223w : vE := eV e_223 n_223
noncomputable def L_223w : List vE := [e_216, e_218w, e_220w]
def B_223 : Int → List Int → gH → gH → Prop := fun c xs h0 h => True
theorem q_223w_0 {n0 n1 n2 n3 n4 n5 n6 n7 n8 : Int} {H0 H1 H2 : gH} (f0 : n0 ≤ 9999) (f1 : 0 ≤ n0) (f2 : n1 ≤ 9999) (f3 : 0 ≤ n1) (f4 : n2 = 285) (f5 : n3 ≤ 500) (f6 : 0 ≤ n3) (f7 : n3 = hV H0 (n2).toNat 11) (f8 : n4 = 2) (f9 : n5 ≤ 1) (f10 : 0 ≤ n5) (f11 : (hLe T0 H0 H1 ∧ hFr s_216.2.2.2.2 H0 H1 ∧ ((0 : Int) = 0 → H1.length = H0.length) ∧ hWt T0 H1) ∧ postb_216 n5 n2 n4 H0 H1) (f12 : n5 = 0) (f13 : n7 = 2) (f14 : (hLe T0 H1 H2 ∧ hFr s_220.2.2.2.2 H1 H2 ∧ ((0 : Int) = 0 → H2.length = H1.length) ∧ hWt T0 H2) ∧ (postb_220 n2 n7 H1 H2 ∧ nb_220 n2 n7 H1 H2)) (f15 : n8 ≤ 2) (f16 : 0 ≤ n8) (f17 : n8 = hV H2 (n2).toNat 13) (f18 : n8 ≠ 0) : nb_223 n6 n2 n1 n0 H0 H2 := by
  unfold nb_223
  intro z
  have d9 := rdS (q := 285) f7 f4
  have d21 := rdS (q := 285) f17 f4
  have p := PR_fr f11.1.2.1 (by decide +kernel) z
  have q := f11.2
  unfold postb_216 at q
  have b1 := f11.1.2.2.2 285 13 _ _ rW_13
  rw [f8] at q
  have cm := f12
  have no := isR_no (k := 2) p.2.2.1 (by decide) (by omega)
  rw [p.1, p.2.1] at no
  have c := f14.2.2 p.2.2.1 (by rw [f13]; decide)
  rw [f13, p.1, p.2.1, kmc_2] at c
  have e22 := f18
  have hn := absR_neg c.1 (by omega)
  refine ⟨c.1, ?_⟩
  rw [c.2] at hn ⊢
  exact (pnm_off hn).symm
def g_223w_s_0 : vG := ([(31, [8], [], 0), (20, [8, 0], [2], 13), (90, [8], [], 0), (91, [8], [], 2), (1220, [0, 7], [1, 2], 0), (0, [7], [], 2), (30, [5], [], 0), (1216, [5, 0, 4], [0, 1], 0), (90, [5], [], 0), (91, [5], [], 1), (0, [4], [], 2), (20, [3, 0], [0], 11), (90, [3], [], 0), (91, [3], [], 500), (0, [0], [], 285), (90, [1], [], 0), (91, [1], [], 9999), (90, [2], [], 0), (91, [2], [], 9999)], (3000, [6], [2], 60))
theorem c_223w_s_0 : vOkm T0 (eN e_223 L_223w A_223 mu_223 n_223 B_223 none) 3 g_223w_s_0 := vOk_inI fun ρ η f0 f1 f2 f3 f4 f5 f6 f7 f8 f9 f10 f11 f12 f13 f14 f15 f16 f17 f18 => q_223w_0 (n0 := ρ 2) (n1 := ρ 1) (n2 := ρ 0) (n3 := ρ 3) (n4 := ρ 4) (n5 := ρ 5) (n6 := ρ 6) (n7 := ρ 7) (n8 := ρ 8) (H0 := η 0) (H1 := η 1) (H2 := η 2) f18 f17 f16 f15 f14 f13 f12 f11 f10 f9 f8 f7 f6 f5 f4 f3 f2 f1 f0
theorem q_223w_1 {n0 n1 n2 n3 n4 n5 n6 n7 n8 : Int} {H0 H1 H2 H3 : gH} (f0 : n0 ≤ 9999) (f1 : 0 ≤ n0) (f2 : n1 ≤ 9999) (f3 : 0 ≤ n1) (f4 : n2 = 285) (f5 : n3 ≤ 500) (f6 : 0 ≤ n3) (f7 : n3 = hV H0 (n2).toNat 11) (f8 : n4 = 2) (f9 : n5 ≤ 1) (f10 : 0 ≤ n5) (f11 : (hLe T0 H0 H1 ∧ hFr s_216.2.2.2.2 H0 H1 ∧ ((0 : Int) = 0 → H1.length = H0.length) ∧ hWt T0 H1) ∧ postb_216 n5 n2 n4 H0 H1) (f12 : n5 = 0) (f13 : n6 = 0) (f14 : n7 = 2) (f15 : (hLe T0 H1 H2 ∧ hFr s_220.2.2.2.2 H1 H2 ∧ ((0 : Int) = 0 → H2.length = H1.length) ∧ hWt T0 H2) ∧ (postb_220 n2 n7 H1 H2 ∧ nb_220 n2 n7 H1 H2)) (f16 : n8 ≤ 2) (f17 : 0 ≤ n8) (f18 : n8 = hV H2 (n2).toNat 13) (f19 : n8 = 0) (f20 : n6 < n1) : nb_223 n6 n2 n1 n0 H0 H3 := by
  unfold nb_223
  intro z
  have d9 := rdS (q := 285) f7 f4
  have d21 := rdS (q := 285) f18 f4
  have p := PR_fr f11.1.2.1 (by decide +kernel) z
  have q := f11.2
  unfold postb_216 at q
  have b1 := f11.1.2.2.2 285 13 _ _ rW_13
  rw [f8] at q
  have cm := f12
  have no := isR_no (k := 2) p.2.2.1 (by decide) (by omega)
  rw [p.1, p.2.1] at no
  have c := f15.2.2 p.2.2.1 (by rw [f14]; decide)
  rw [f14, p.1, p.2.1, kmc_2] at c
  have e22 := f19
  have e23 := f20
  exfalso
  have hp := absR_pos c.1 (by omega)
  rw [c.2] at hp
  exact no (pt1R_kind z hp.2).2
def g_223w_s_1 : vG := ([(42, [6, 1], [], 0), (30, [8], [], 0), (20, [8, 0], [2], 13), (90, [8], [], 0), (91, [8], [], 2), (1220, [0, 7], [1, 2], 0), (0, [7], [], 2), (0, [6], [], 0), (30, [5], [], 0), (1216, [5, 0, 4], [0, 1], 0), (90, [5], [], 0), (91, [5], [], 1), (0, [4], [], 2), (20, [3, 0], [0], 11), (90, [3], [], 0), (91, [3], [], 500), (0, [0], [], 285), (90, [1], [], 0), (91, [1], [], 9999), (90, [2], [], 0), (91, [2], [], 9999)], (3000, [6], [3], 60))
theorem c_223w_s_1 : vOkm T0 (eN e_223 L_223w A_223 mu_223 n_223 B_223 none) 3 g_223w_s_1 := vOk_inI fun ρ η f0 f1 f2 f3 f4 f5 f6 f7 f8 f9 f10 f11 f12 f13 f14 f15 f16 f17 f18 f19 f20 => q_223w_1 (n0 := ρ 2) (n1 := ρ 1) (n2 := ρ 0) (n3 := ρ 3) (n4 := ρ 4) (n5 := ρ 5) (n6 := ρ 6) (n7 := ρ 7) (n8 := ρ 8) (H0 := η 0) (H1 := η 1) (H2 := η 2) (H3 := η 3) f20 f19 f18 f17 f16 f15 f14 f13 f12 f11 f10 f9 f8 f7 f6 f5 f4 f3 f2 f1 f0
theorem q_223w_2 {n0 n1 n2 n3 n4 n5 n6 n7 n8 : Int} {H0 H1 H2 : gH} (f0 : n0 ≤ 9999) (f1 : 0 ≤ n0) (f2 : n1 ≤ 9999) (f3 : 0 ≤ n1) (f4 : n2 = 285) (f5 : n3 ≤ 500) (f6 : 0 ≤ n3) (f7 : n3 = hV H0 (n2).toNat 11) (f8 : n4 = 2) (f9 : n5 ≤ 1) (f10 : 0 ≤ n5) (f11 : (hLe T0 H0 H1 ∧ hFr s_216.2.2.2.2 H0 H1 ∧ ((0 : Int) = 0 → H1.length = H0.length) ∧ hWt T0 H1) ∧ postb_216 n5 n2 n4 H0 H1) (f12 : n5 = 0) (f13 : n6 = 0) (f14 : n7 = 2) (f15 : (hLe T0 H1 H2 ∧ hFr s_220.2.2.2.2 H1 H2 ∧ ((0 : Int) = 0 → H2.length = H1.length) ∧ hWt T0 H2) ∧ (postb_220 n2 n7 H1 H2 ∧ nb_220 n2 n7 H1 H2)) (f16 : n8 ≤ 2) (f17 : 0 ≤ n8) (f18 : n8 = hV H2 (n2).toNat 13) (f19 : n8 = 0) (f20 : n1 ≤ n6) (f21 : n6 ≤ n0) : nb_223 n6 n2 n1 n0 H0 H2 := by
  unfold nb_223
  intro z
  have d9 := rdS (q := 285) f7 f4
  have d21 := rdS (q := 285) f18 f4
  have p := PR_fr f11.1.2.1 (by decide +kernel) z
  have q := f11.2
  unfold postb_216 at q
  have b1 := f11.1.2.2.2 285 13 _ _ rW_13
  rw [f8] at q
  have cm := f12
  have no := isR_no (k := 2) p.2.2.1 (by decide) (by omega)
  rw [p.1, p.2.1] at no
  have c := f15.2.2 p.2.2.1 (by rw [f14]; decide)
  rw [f14, p.1, p.2.1, kmc_2] at c
  have e22 := f19
  have e23 := f20
  have e24 := f21
  exfalso
  have hp := absR_pos c.1 (by omega)
  rw [c.2] at hp
  exact no (pt1R_kind z hp.2).2
def g_223w_s_2 : vG := ([(45, [6, 2], [], 0), (43, [6, 1], [], 0), (30, [8], [], 0), (20, [8, 0], [2], 13), (90, [8], [], 0), (91, [8], [], 2), (1220, [0, 7], [1, 2], 0), (0, [7], [], 2), (0, [6], [], 0), (30, [5], [], 0), (1216, [5, 0, 4], [0, 1], 0), (90, [5], [], 0), (91, [5], [], 1), (0, [4], [], 2), (20, [3, 0], [0], 11), (90, [3], [], 0), (91, [3], [], 500), (0, [0], [], 285), (90, [1], [], 0), (91, [1], [], 9999), (90, [2], [], 0), (91, [2], [], 9999)], (3000, [6], [2], 60))
theorem c_223w_s_2 : vOkm T0 (eN e_223 L_223w A_223 mu_223 n_223 B_223 none) 3 g_223w_s_2 := vOk_inI fun ρ η f0 f1 f2 f3 f4 f5 f6 f7 f8 f9 f10 f11 f12 f13 f14 f15 f16 f17 f18 f19 f20 f21 => q_223w_2 (n0 := ρ 2) (n1 := ρ 1) (n2 := ρ 0) (n3 := ρ 3) (n4 := ρ 4) (n5 := ρ 5) (n6 := ρ 6) (n7 := ρ 7) (n8 := ρ 8) (H0 := η 0) (H1 := η 1) (H2 := η 2) f21 f20 f19 f18 f17 f16 f15 f14 f13 f12 f11 f10 f9 f8 f7 f6 f5 f4 f3 f2 f1 f0
theorem q_223w_3 {n0 n1 n2 n3 n4 n5 n6 n7 n8 : Int} {H0 H1 H2 H3 : gH} (f0 : n0 ≤ 9999) (f1 : 0 ≤ n0) (f2 : n1 ≤ 9999) (f3 : 0 ≤ n1) (f4 : n2 = 285) (f5 : n3 ≤ 500) (f6 : 0 ≤ n3) (f7 : n3 = hV H0 (n2).toNat 11) (f8 : n4 = 2) (f9 : n5 ≤ 1) (f10 : 0 ≤ n5) (f11 : (hLe T0 H0 H1 ∧ hFr s_216.2.2.2.2 H0 H1 ∧ ((0 : Int) = 0 → H1.length = H0.length) ∧ hWt T0 H1) ∧ postb_216 n5 n2 n4 H0 H1) (f12 : n5 = 0) (f13 : n6 = 0) (f14 : n7 = 2) (f15 : (hLe T0 H1 H2 ∧ hFr s_220.2.2.2.2 H1 H2 ∧ ((0 : Int) = 0 → H2.length = H1.length) ∧ hWt T0 H2) ∧ (postb_220 n2 n7 H1 H2 ∧ nb_220 n2 n7 H1 H2)) (f16 : n8 ≤ 2) (f17 : 0 ≤ n8) (f18 : n8 = hV H2 (n2).toNat 13) (f19 : n8 = 0) (f20 : n1 ≤ n6) (f21 : n0 < n6) : nb_223 n6 n2 n1 n0 H0 H3 := by
  exfalso
  clear f0 f2 f3 f4 f5 f6 f7 f8 f9 f10 f11 f12 f14 f15 f16 f17 f18 f19 f20
  omega
def g_223w_s_3 : vG := ([(44, [6, 2], [], 0), (43, [6, 1], [], 0), (30, [8], [], 0), (20, [8, 0], [2], 13), (90, [8], [], 0), (91, [8], [], 2), (1220, [0, 7], [1, 2], 0), (0, [7], [], 2), (0, [6], [], 0), (30, [5], [], 0), (1216, [5, 0, 4], [0, 1], 0), (90, [5], [], 0), (91, [5], [], 1), (0, [4], [], 2), (20, [3, 0], [0], 11), (90, [3], [], 0), (91, [3], [], 500), (0, [0], [], 285), (90, [1], [], 0), (91, [1], [], 9999), (90, [2], [], 0), (91, [2], [], 9999)], (3000, [6], [3], 60))
theorem c_223w_s_3 : vOkm T0 (eN e_223 L_223w A_223 mu_223 n_223 B_223 none) 3 g_223w_s_3 := vOk_inI fun ρ η f0 f1 f2 f3 f4 f5 f6 f7 f8 f9 f10 f11 f12 f13 f14 f15 f16 f17 f18 f19 f20 f21 => q_223w_3 (n0 := ρ 2) (n1 := ρ 1) (n2 := ρ 0) (n3 := ρ 3) (n4 := ρ 4) (n5 := ρ 5) (n6 := ρ 6) (n7 := ρ 7) (n8 := ρ 8) (H0 := η 0) (H1 := η 1) (H2 := η 2) (H3 := η 3) f21 f20 f19 f18 f17 f16 f15 f14 f13 f12 f11 f10 f9 f8 f7 f6 f5 f4 f3 f2 f1 f0
theorem q_223w_4 {n0 n1 n2 n3 n4 n5 n6 n7 n8 n9 n10 : Int} {H0 H1 H2 : gH} (f0 : n0 ≤ 9999) (f1 : 0 ≤ n0) (f2 : n1 ≤ 9999) (f3 : 0 ≤ n1) (f4 : n2 = 285) (f5 : n3 ≤ 500) (f6 : 0 ≤ n3) (f7 : n3 = hV H0 (n2).toNat 11) (f8 : n4 = 2) (f9 : n5 ≤ 1) (f10 : 0 ≤ n5) (f11 : (hLe T0 H0 H1 ∧ hFr s_216.2.2.2.2 H0 H1 ∧ ((0 : Int) = 0 → H1.length = H0.length) ∧ hWt T0 H1) ∧ postb_216 n5 n2 n4 H0 H1) (f12 : n5 ≠ 0) (f13 : n6 = 290) (f14 : n7 ≤ 500) (f15 : 0 ≤ n7) (f16 : n7 = hV H1 (n2).toNat 11) (f17 : n8 ≤ 9999) (f18 : 0 ≤ n8) (f19 : n8 = hV H1 (n6).toNat (n7).toNat) (f20 : n9 = 2) (f21 : (hLe T0 H1 H2 ∧ hFr s_220.2.2.2.2 H1 H2 ∧ ((0 : Int) = 0 → H2.length = H1.length) ∧ hWt T0 H2) ∧ (postb_220 n2 n9 H1 H2 ∧ nb_220 n2 n9 H1 H2)) (f22 : n10 ≤ 2) (f23 : 0 ≤ n10) (f24 : n10 = hV H2 (n2).toNat 13) (f25 : n10 ≠ 0) : nb_223 n8 n2 n1 n0 H0 H2 := by
  unfold nb_223
  intro z
  have d9 := rdS (q := 285) f7 f4
  have d21 := rdS (q := 285) f16 f4
  have d24 := rdW (q := 290) f19 f13
  have d30 := rdS (q := 285) f24 f4
  have p := PR_fr f11.1.2.1 (by decide +kernel) z
  have q := f11.2
  unfold postb_216 at q
  have b1 := f11.1.2.2.2 285 13 _ _ rW_13
  rw [f8] at q
  have cm := f12
  have ye := isR_yes (k := 2) p.2.2.1 (by omega) (by omega)
  have vv := valueR_at p.2.2.1 (by omega) (by omega)
  rw [p.1, p.2.1] at ye vv
  have c := f21.2.2 p.2.2.1 (by rw [f20]; decide)
  rw [f20, p.1, p.2.1, kmc_2] at c
  have e31 := f25
  have hn := absR_neg c.1 (by omega)
  refine ⟨c.1, ?_⟩
  rw [c.2] at hn ⊢
  exact (pnm_off hn).symm
def g_223w_s_4 : vG := ([(31, [10], [], 0), (20, [10, 0], [2], 13), (90, [10], [], 0), (91, [10], [], 2), (1220, [0, 9], [1, 2], 0), (0, [9], [], 2), (22, [8, 6, 7], [1], 0), (90, [8], [], 0), (91, [8], [], 9999), (20, [7, 0], [1], 11), (90, [7], [], 0), (91, [7], [], 500), (0, [6], [], 290), (31, [5], [], 0), (1216, [5, 0, 4], [0, 1], 0), (90, [5], [], 0), (91, [5], [], 1), (0, [4], [], 2), (20, [3, 0], [0], 11), (90, [3], [], 0), (91, [3], [], 500), (0, [0], [], 285), (90, [1], [], 0), (91, [1], [], 9999), (90, [2], [], 0), (91, [2], [], 9999)], (3000, [8], [2], 60))
theorem c_223w_s_4 : vOkm T0 (eN e_223 L_223w A_223 mu_223 n_223 B_223 none) 3 g_223w_s_4 := vOk_inI fun ρ η f0 f1 f2 f3 f4 f5 f6 f7 f8 f9 f10 f11 f12 f13 f14 f15 f16 f17 f18 f19 f20 f21 f22 f23 f24 f25 => q_223w_4 (n0 := ρ 2) (n1 := ρ 1) (n2 := ρ 0) (n3 := ρ 3) (n4 := ρ 4) (n5 := ρ 5) (n6 := ρ 6) (n7 := ρ 7) (n8 := ρ 8) (n9 := ρ 9) (n10 := ρ 10) (H0 := η 0) (H1 := η 1) (H2 := η 2) f25 f24 f23 f22 f21 f20 f19 f18 f17 f16 f15 f14 f13 f12 f11 f10 f9 f8 f7 f6 f5 f4 f3 f2 f1 f0
theorem q_223w_5 {n0 n1 n2 n3 n4 n5 n6 n7 n8 n9 n10 n11 : Int} {H0 H1 H2 H3 : gH} (f0 : n0 ≤ 9999) (f1 : 0 ≤ n0) (f2 : n1 ≤ 9999) (f3 : 0 ≤ n1) (f4 : n2 = 285) (f5 : n3 ≤ 500) (f6 : 0 ≤ n3) (f7 : n3 = hV H0 (n2).toNat 11) (f8 : n4 = 2) (f9 : n5 ≤ 1) (f10 : 0 ≤ n5) (f11 : (hLe T0 H0 H1 ∧ hFr s_216.2.2.2.2 H0 H1 ∧ ((0 : Int) = 0 → H1.length = H0.length) ∧ hWt T0 H1) ∧ postb_216 n5 n2 n4 H0 H1) (f12 : n5 ≠ 0) (f13 : n6 = 290) (f14 : n7 ≤ 500) (f15 : 0 ≤ n7) (f16 : n7 = hV H1 (n2).toNat 11) (f17 : n8 ≤ 9999) (f18 : 0 ≤ n8) (f19 : n8 = hV H1 (n6).toNat (n7).toNat) (f20 : n9 = 2) (f21 : (hLe T0 H1 H2 ∧ hFr s_220.2.2.2.2 H1 H2 ∧ ((0 : Int) = 0 → H2.length = H1.length) ∧ hWt T0 H2) ∧ (postb_220 n2 n9 H1 H2 ∧ nb_220 n2 n9 H1 H2)) (f22 : n10 ≤ 2) (f23 : 0 ≤ n10) (f24 : n10 = hV H2 (n2).toNat 13) (f25 : n10 = 0) (f26 : n8 < n1) (f27 : n11 = 5) (f28 : (hLe T0 H2 H3 ∧ hFr s_218.2.2.2.2 H2 H3 ∧ ((0 : Int) = 0 → H3.length = H2.length) ∧ hWt T0 H3) ∧ (postb_218 n2 n11 n3 H2 H3 ∧ nb_218 n2 n11 n3 H2 H3)) : nb_223 n8 n2 n1 n0 H0 H3 := by
  unfold nb_223
  intro z
  have d9 := rdS (q := 285) f7 f4
  have d21 := rdS (q := 285) f16 f4
  have d24 := rdW (q := 290) f19 f13
  have d30 := rdS (q := 285) f24 f4
  have p := PR_fr f11.1.2.1 (by decide +kernel) z
  have q := f11.2
  unfold postb_216 at q
  have b1 := f11.1.2.2.2 285 13 _ _ rW_13
  rw [f8] at q
  have cm := f12
  have ye := isR_yes (k := 2) p.2.2.1 (by omega) (by omega)
  have vv := valueR_at p.2.2.1 (by omega) (by omega)
  rw [p.1, p.2.1] at ye vv
  have c := f21.2.2 p.2.2.1 (by rw [f20]; decide)
  rw [f20, p.1, p.2.1, kmc_2] at c
  have e31 := f25
  have e32 := f26
  have hp := absR_pos c.1 (by omega)
  rw [d21, ← vv] at d24
  have w := f28.2.2
  unfold nb_218 at w
  rw [f27] at w
  have hz := faultR_no z (pt1R_kind z (by rw [c.2] at hp; exact hp.2)).1
  have tb := f21.2.1
  unfold postb_220 at tb
  have w15 := f21.1.2.1.1 285 15 (by decide +kernel)
  have w16 := f21.1.2.1.1 285 16 (by decide +kernel)
  have w289 := fRow f21.1.2.1 289 (by decide +kernel)
  have x15 := f11.1.2.1.1 285 15 (by decide +kernel)
  have x16 := f11.1.2.1.1 285 16 (by decide +kernel)
  have x289 := fRow f11.1.2.1 289 (by decide +kernel)
  have x11 := f11.1.2.1.1 285 11 (by decide +kernel)
  have hw := z.2.2.2.2.2.2.2.2.2.2 hz
  have w2 := wrong_on c.1 (by omega) (by have := z.2.1; omega) (by omega) (by decide) (fun h => by rw [w16, x16, w289, x289, d9]; exact hw (by rw [← x15, ← w15]; exact h)) w
  rw [w289, x289, d9, ← placeR_at z hz] at w2
  refine ⟨w2.1, w2.2.trans ?_⟩
  rw [c.2] at hp ⊢
  exact (pnm_out hp.2 (by omega)).symm
def g_223w_s_5 : vG := ([(1218, [0, 11, 3], [2, 3], 0), (0, [11], [], 5), (42, [8, 1], [], 0), (30, [10], [], 0), (20, [10, 0], [2], 13), (90, [10], [], 0), (91, [10], [], 2), (1220, [0, 9], [1, 2], 0), (0, [9], [], 2), (22, [8, 6, 7], [1], 0), (90, [8], [], 0), (91, [8], [], 9999), (20, [7, 0], [1], 11), (90, [7], [], 0), (91, [7], [], 500), (0, [6], [], 290), (31, [5], [], 0), (1216, [5, 0, 4], [0, 1], 0), (90, [5], [], 0), (91, [5], [], 1), (0, [4], [], 2), (20, [3, 0], [0], 11), (90, [3], [], 0), (91, [3], [], 500), (0, [0], [], 285), (90, [1], [], 0), (91, [1], [], 9999), (90, [2], [], 0), (91, [2], [], 9999)], (3000, [8], [3], 60))
theorem c_223w_s_5 : vOkm T0 (eN e_223 L_223w A_223 mu_223 n_223 B_223 none) 3 g_223w_s_5 := vOk_inI fun ρ η f0 f1 f2 f3 f4 f5 f6 f7 f8 f9 f10 f11 f12 f13 f14 f15 f16 f17 f18 f19 f20 f21 f22 f23 f24 f25 f26 f27 f28 => q_223w_5 (n0 := ρ 2) (n1 := ρ 1) (n2 := ρ 0) (n3 := ρ 3) (n4 := ρ 4) (n5 := ρ 5) (n6 := ρ 6) (n7 := ρ 7) (n8 := ρ 8) (n9 := ρ 9) (n10 := ρ 10) (n11 := ρ 11) (H0 := η 0) (H1 := η 1) (H2 := η 2) (H3 := η 3) f28 f27 f26 f25 f24 f23 f22 f21 f20 f19 f18 f17 f16 f15 f14 f13 f12 f11 f10 f9 f8 f7 f6 f5 f4 f3 f2 f1 f0
theorem q_223w_6 {n0 n1 n2 n3 n4 n5 n6 n7 n8 n9 n10 : Int} {H0 H1 H2 : gH} (f0 : n0 ≤ 9999) (f1 : 0 ≤ n0) (f2 : n1 ≤ 9999) (f3 : 0 ≤ n1) (f4 : n2 = 285) (f5 : n3 ≤ 500) (f6 : 0 ≤ n3) (f7 : n3 = hV H0 (n2).toNat 11) (f8 : n4 = 2) (f9 : n5 ≤ 1) (f10 : 0 ≤ n5) (f11 : (hLe T0 H0 H1 ∧ hFr s_216.2.2.2.2 H0 H1 ∧ ((0 : Int) = 0 → H1.length = H0.length) ∧ hWt T0 H1) ∧ postb_216 n5 n2 n4 H0 H1) (f12 : n5 ≠ 0) (f13 : n6 = 290) (f14 : n7 ≤ 500) (f15 : 0 ≤ n7) (f16 : n7 = hV H1 (n2).toNat 11) (f17 : n8 ≤ 9999) (f18 : 0 ≤ n8) (f19 : n8 = hV H1 (n6).toNat (n7).toNat) (f20 : n9 = 2) (f21 : (hLe T0 H1 H2 ∧ hFr s_220.2.2.2.2 H1 H2 ∧ ((0 : Int) = 0 → H2.length = H1.length) ∧ hWt T0 H2) ∧ (postb_220 n2 n9 H1 H2 ∧ nb_220 n2 n9 H1 H2)) (f22 : n10 ≤ 2) (f23 : 0 ≤ n10) (f24 : n10 = hV H2 (n2).toNat 13) (f25 : n10 = 0) (f26 : n1 ≤ n8) (f27 : n8 ≤ n0) : nb_223 n8 n2 n1 n0 H0 H2 := by
  unfold nb_223
  intro z
  have d9 := rdS (q := 285) f7 f4
  have d21 := rdS (q := 285) f16 f4
  have d24 := rdW (q := 290) f19 f13
  have d30 := rdS (q := 285) f24 f4
  have p := PR_fr f11.1.2.1 (by decide +kernel) z
  have q := f11.2
  unfold postb_216 at q
  have b1 := f11.1.2.2.2 285 13 _ _ rW_13
  rw [f8] at q
  have cm := f12
  have ye := isR_yes (k := 2) p.2.2.1 (by omega) (by omega)
  have vv := valueR_at p.2.2.1 (by omega) (by omega)
  rw [p.1, p.2.1] at ye vv
  have c := f21.2.2 p.2.2.1 (by rw [f20]; decide)
  rw [f20, p.1, p.2.1, kmc_2] at c
  have e31 := f25
  have e32 := f26
  have e33 := f27
  have hp := absR_pos c.1 (by omega)
  rw [d21, ← vv] at d24
  refine ⟨c.1, c.2.trans ?_⟩
  exact (pnm_in (by omega) (by omega)).symm
def g_223w_s_6 : vG := ([(45, [8, 2], [], 0), (43, [8, 1], [], 0), (30, [10], [], 0), (20, [10, 0], [2], 13), (90, [10], [], 0), (91, [10], [], 2), (1220, [0, 9], [1, 2], 0), (0, [9], [], 2), (22, [8, 6, 7], [1], 0), (90, [8], [], 0), (91, [8], [], 9999), (20, [7, 0], [1], 11), (90, [7], [], 0), (91, [7], [], 500), (0, [6], [], 290), (31, [5], [], 0), (1216, [5, 0, 4], [0, 1], 0), (90, [5], [], 0), (91, [5], [], 1), (0, [4], [], 2), (20, [3, 0], [0], 11), (90, [3], [], 0), (91, [3], [], 500), (0, [0], [], 285), (90, [1], [], 0), (91, [1], [], 9999), (90, [2], [], 0), (91, [2], [], 9999)], (3000, [8], [2], 60))
theorem c_223w_s_6 : vOkm T0 (eN e_223 L_223w A_223 mu_223 n_223 B_223 none) 3 g_223w_s_6 := vOk_inI fun ρ η f0 f1 f2 f3 f4 f5 f6 f7 f8 f9 f10 f11 f12 f13 f14 f15 f16 f17 f18 f19 f20 f21 f22 f23 f24 f25 f26 f27 => q_223w_6 (n0 := ρ 2) (n1 := ρ 1) (n2 := ρ 0) (n3 := ρ 3) (n4 := ρ 4) (n5 := ρ 5) (n6 := ρ 6) (n7 := ρ 7) (n8 := ρ 8) (n9 := ρ 9) (n10 := ρ 10) (H0 := η 0) (H1 := η 1) (H2 := η 2) f27 f26 f25 f24 f23 f22 f21 f20 f19 f18 f17 f16 f15 f14 f13 f12 f11 f10 f9 f8 f7 f6 f5 f4 f3 f2 f1 f0
theorem q_223w_7 {n0 n1 n2 n3 n4 n5 n6 n7 n8 n9 n10 n11 : Int} {H0 H1 H2 H3 : gH} (f0 : n0 ≤ 9999) (f1 : 0 ≤ n0) (f2 : n1 ≤ 9999) (f3 : 0 ≤ n1) (f4 : n2 = 285) (f5 : n3 ≤ 500) (f6 : 0 ≤ n3) (f7 : n3 = hV H0 (n2).toNat 11) (f8 : n4 = 2) (f9 : n5 ≤ 1) (f10 : 0 ≤ n5) (f11 : (hLe T0 H0 H1 ∧ hFr s_216.2.2.2.2 H0 H1 ∧ ((0 : Int) = 0 → H1.length = H0.length) ∧ hWt T0 H1) ∧ postb_216 n5 n2 n4 H0 H1) (f12 : n5 ≠ 0) (f13 : n6 = 290) (f14 : n7 ≤ 500) (f15 : 0 ≤ n7) (f16 : n7 = hV H1 (n2).toNat 11) (f17 : n8 ≤ 9999) (f18 : 0 ≤ n8) (f19 : n8 = hV H1 (n6).toNat (n7).toNat) (f20 : n9 = 2) (f21 : (hLe T0 H1 H2 ∧ hFr s_220.2.2.2.2 H1 H2 ∧ ((0 : Int) = 0 → H2.length = H1.length) ∧ hWt T0 H2) ∧ (postb_220 n2 n9 H1 H2 ∧ nb_220 n2 n9 H1 H2)) (f22 : n10 ≤ 2) (f23 : 0 ≤ n10) (f24 : n10 = hV H2 (n2).toNat 13) (f25 : n10 = 0) (f26 : n1 ≤ n8) (f27 : n0 < n8) (f28 : n11 = 5) (f29 : (hLe T0 H2 H3 ∧ hFr s_218.2.2.2.2 H2 H3 ∧ ((0 : Int) = 0 → H3.length = H2.length) ∧ hWt T0 H3) ∧ (postb_218 n2 n11 n3 H2 H3 ∧ nb_218 n2 n11 n3 H2 H3)) : nb_223 n8 n2 n1 n0 H0 H3 := by
  unfold nb_223
  intro z
  have d9 := rdS (q := 285) f7 f4
  have d21 := rdS (q := 285) f16 f4
  have d24 := rdW (q := 290) f19 f13
  have d30 := rdS (q := 285) f24 f4
  have p := PR_fr f11.1.2.1 (by decide +kernel) z
  have q := f11.2
  unfold postb_216 at q
  have b1 := f11.1.2.2.2 285 13 _ _ rW_13
  rw [f8] at q
  have cm := f12
  have ye := isR_yes (k := 2) p.2.2.1 (by omega) (by omega)
  have vv := valueR_at p.2.2.1 (by omega) (by omega)
  rw [p.1, p.2.1] at ye vv
  have c := f21.2.2 p.2.2.1 (by rw [f20]; decide)
  rw [f20, p.1, p.2.1, kmc_2] at c
  have e31 := f25
  have e32 := f26
  have e33 := f27
  have hp := absR_pos c.1 (by omega)
  rw [d21, ← vv] at d24
  have w := f29.2.2
  unfold nb_218 at w
  rw [f28] at w
  have hz := faultR_no z (pt1R_kind z (by rw [c.2] at hp; exact hp.2)).1
  have tb := f21.2.1
  unfold postb_220 at tb
  have w15 := f21.1.2.1.1 285 15 (by decide +kernel)
  have w16 := f21.1.2.1.1 285 16 (by decide +kernel)
  have w289 := fRow f21.1.2.1 289 (by decide +kernel)
  have x15 := f11.1.2.1.1 285 15 (by decide +kernel)
  have x16 := f11.1.2.1.1 285 16 (by decide +kernel)
  have x289 := fRow f11.1.2.1 289 (by decide +kernel)
  have x11 := f11.1.2.1.1 285 11 (by decide +kernel)
  have hw := z.2.2.2.2.2.2.2.2.2.2 hz
  have w2 := wrong_on c.1 (by omega) (by have := z.2.1; omega) (by omega) (by decide) (fun h => by rw [w16, x16, w289, x289, d9]; exact hw (by rw [← x15, ← w15]; exact h)) w
  rw [w289, x289, d9, ← placeR_at z hz] at w2
  refine ⟨w2.1, w2.2.trans ?_⟩
  rw [c.2] at hp ⊢
  exact (pnm_out hp.2 (by omega)).symm
def g_223w_s_7 : vG := ([(1218, [0, 11, 3], [2, 3], 0), (0, [11], [], 5), (44, [8, 2], [], 0), (43, [8, 1], [], 0), (30, [10], [], 0), (20, [10, 0], [2], 13), (90, [10], [], 0), (91, [10], [], 2), (1220, [0, 9], [1, 2], 0), (0, [9], [], 2), (22, [8, 6, 7], [1], 0), (90, [8], [], 0), (91, [8], [], 9999), (20, [7, 0], [1], 11), (90, [7], [], 0), (91, [7], [], 500), (0, [6], [], 290), (31, [5], [], 0), (1216, [5, 0, 4], [0, 1], 0), (90, [5], [], 0), (91, [5], [], 1), (0, [4], [], 2), (20, [3, 0], [0], 11), (90, [3], [], 0), (91, [3], [], 500), (0, [0], [], 285), (90, [1], [], 0), (91, [1], [], 9999), (90, [2], [], 0), (91, [2], [], 9999)], (3000, [8], [3], 60))
theorem c_223w_s_7 : vOkm T0 (eN e_223 L_223w A_223 mu_223 n_223 B_223 none) 3 g_223w_s_7 := vOk_inI fun ρ η f0 f1 f2 f3 f4 f5 f6 f7 f8 f9 f10 f11 f12 f13 f14 f15 f16 f17 f18 f19 f20 f21 f22 f23 f24 f25 f26 f27 f28 f29 => q_223w_7 (n0 := ρ 2) (n1 := ρ 1) (n2 := ρ 0) (n3 := ρ 3) (n4 := ρ 4) (n5 := ρ 5) (n6 := ρ 6) (n7 := ρ 7) (n8 := ρ 8) (n9 := ρ 9) (n10 := ρ 10) (n11 := ρ 11) (H0 := η 0) (H1 := η 1) (H2 := η 2) (H3 := η 3) f29 f28 f27 f26 f25 f24 f23 f22 f21 f20 f19 f18 f17 f16 f15 f14 f13 f12 f11 f10 f9 f8 f7 f6 f5 f4 f3 f2 f1 f0
def p_223w_s : List vG := [g_223w_s_0,
  g_223w_s_1,
  g_223w_s_2,
  g_223w_s_3,
  g_223w_s_4,
  g_223w_s_5,
  g_223w_s_6,
  g_223w_s_7]
theorem r_223w_s : vCovBO (eR0 e_223 L_223 cs_223 2000) p_223w_s = true := by decide +kernel
theorem m_223w (d : Nat) : eC e_223w (d + 4) := eC_ref (e := e_223) (L := L_223) (L' := L_223w) (cs := cs_223) (n := 2000) (d := d + 3) (A := A_223) (μ := mu_223) (tp := false) (p0 := p_223_s) (p1 := p_223w_s) (N := n_223) (B := B_223) rfl ⟨m_216 (d + 2), ⟨m_218w (d + 2), ⟨m_220w d, trivial⟩⟩⟩ rfl (.inr pre0_ok) (by decide +kernel) (fun z => nomatch z) r_223_s (allC c_223_s_0 (allC c_223_s_1 (allC c_223_s_2 (allC c_223_s_3 (allC c_223_s_4 (allC c_223_s_5 (allC c_223_s_6 (allC c_223_s_7 allN)))))))) allN (sub0 (sub1 (sub1 trivial))) r_223w_s (allC c_223w_s_0 (allC c_223w_s_1 (allC c_223w_s_2 (allC c_223w_s_3 (allC c_223w_s_4 (allC c_223w_s_5 (allC c_223w_s_6 (allC c_223w_s_7 allN)))))))) allN
/- MixStageModel.tellTime (IZ)V, more fully -/
def nb_229 (a0 a1 a2 : Int) (h0 h : gH) : Prop := RI h0 → RI h ∧ absR h = pTime (vwR h0) (absR h0)
def n_229 : List Int → gH → gH → Prop := fun xs h0 h => match xs with
  | [a0, a1, a2] => nb_229 a0 a1 a2 h0 h
  | _ => True
noncomputable def e_229w : vE := eV e_229 n_229
noncomputable def L_229w : List vE := [e_216, e_219w, e_223w]
def Bb_229_88 (a0 a1 a2 x0 x1 x2 x3 x4 : Int) (h0 h : gH) : Prop := RI h0 → RI h ∧ absR h = pTime (vwR h0) (absR h0)
def B_229 : Int → List Int → gH → gH → Prop := fun c xs h0 h => match c.toNat with
  | 88 => (match xs with
    | [a0, a1, a2, x0, x1, x2, x3, x4] => Bb_229_88 a0 a1 a2 x0 x1 x2 x3 x4 h0 h
    | _ => False)
  | _ => True
theorem q_229w_0 {n0 n1 n2 n3 n5 n6 n7 n8 n9 : Int} {H0 H1 H2 : gH} (f0 : n5 = 41) (f1 : (hLe T0 H0 H1 ∧ hFr s_216.2.2.2.2 H0 H1 ∧ ((0 : Int) = 0 → H1.length = H0.length) ∧ hWt T0 H1) ∧ postb_216 n6 n2 n5 H0 H1) (f2 : n6 = 0) (f3 : n7 = 0) (f4 : n8 = 60) (f5 : (hLe T0 H1 H2 ∧ hFr s_223.2.2.2.2 H1 H2 ∧ ((0 : Int) = 0 → H2.length = H1.length) ∧ hWt T0 H2) ∧ (postb_223 n9 n2 n7 n8 H1 H2 ∧ nb_223 n9 n2 n7 n8 H1 H2)) : Bb_229_88 n2 n1 n0 n2 n1 n0 n3 n9 H0 H2 := by
  unfold Bb_229_88
  intro z
  have p0 := PR_fr f1.1.2.1 (by decide +kernel) z
  have v0 : vwR H1 = vwR H0 := p0.2.1
  have ah0 : absR H1 = (absR H0) := p0.1
  have i0 := f1.2
  unfold postb_216 at i0
  rw [f0] at i0
  have cm0 := f2
  have b0 := (isR_or (k := 41) p0.2.2.1 (by decide) i0).resolve_left (fun w => absurd (w.1.symm.trans cm0) (by decide))
  replace b0 := b0.2
  rw [v0, ah0, kmc_41] at b0
  have c1 := f5.2.2 p0.2.2.1
  try rw [f3] at c1
  try rw [f4] at c1
  rw [v0, ah0] at c1
  have v1 : vwR H2 = vwR H0 := (vwR_fr f5.1.2.1 (by decide +kernel)).trans v0
  refine ⟨c1.1, ?_⟩
  rw [c1.2]
  unfold pTime
  try rw [if_neg b0]
  all_goals rfl
def g_229w_s_0 : vG := ([(1223, [9, 0, 7, 8], [1, 2], 0), (0, [8], [], 60), (0, [7], [], 0), (30, [6], [], 0), (1216, [6, 0, 5], [0, 1], 0), (0, [5], [], 41)], (4000, [0, 1, 2, 3, 9], [2], 88))
theorem c_229w_s_0 : vOkm T0 (eN e_229 L_229w A_229 mu_229 n_229 B_229 none) 3 g_229w_s_0 := vOk_inI fun ρ η f0 f1 f2 f3 f4 f5 => q_229w_0 (n0 := ρ 2) (n1 := ρ 1) (n2 := ρ 0) (n3 := ρ 3) (n5 := ρ 5) (n6 := ρ 6) (n7 := ρ 7) (n8 := ρ 8) (n9 := ρ 9) (H0 := η 0) (H1 := η 1) (H2 := η 2) f5 f4 f3 f2 f1 f0
theorem q_229w_1 {n0 n1 n2 n5 n6 n7 n8 n9 n10 n11 n13 n14 n15 n16 n17 n18 : Int} {H0 H1 H2 H3 H4 H5 H6 H7 : gH} (f0 : n5 = 41) (f1 : (hLe T0 H0 H1 ∧ hFr s_216.2.2.2.2 H0 H1 ∧ ((0 : Int) = 0 → H1.length = H0.length) ∧ hWt T0 H1) ∧ postb_216 n6 n2 n5 H0 H1) (f2 : n6 ≠ 0) (f3 : (hLe T0 H1 H2 ∧ hFr s_219.2.2.2.2 H1 H2 ∧ ((0 : Int) = 0 → H2.length = H1.length) ∧ hWt T0 H2) ∧ (postb_219 n2 H1 H2 ∧ nb_219 n2 H1 H2)) (f4 : n7 = 0) (f5 : n8 = 7) (f6 : (hLe T0 H2 H3 ∧ hFr s_223.2.2.2.2 H2 H3 ∧ ((0 : Int) = 0 → H3.length = H2.length) ∧ hWt T0 H3) ∧ (postb_223 n9 n2 n7 n8 H2 H3 ∧ nb_223 n9 n2 n7 n8 H2 H3)) (f7 : n10 = 9) (f8 : (hLe T0 H3 H4 ∧ hFr s_216.2.2.2.2 H3 H4 ∧ ((0 : Int) = 0 → H4.length = H3.length) ∧ hWt T0 H4) ∧ postb_216 n11 n2 n10 H3 H4) (f9 : n11 = 0) (f10 : n13 = 8) (f11 : (hLe T0 H4 H5 ∧ hFr s_216.2.2.2.2 H4 H5 ∧ ((0 : Int) = 0 → H5.length = H4.length) ∧ hWt T0 H5) ∧ postb_216 n14 n2 n13 H4 H5) (f12 : n14 ≠ 0) (f13 : (hLe T0 H5 H6 ∧ hFr s_219.2.2.2.2 H5 H6 ∧ ((0 : Int) = 0 → H6.length = H5.length) ∧ hWt T0 H6) ∧ (postb_219 n2 H5 H6 ∧ nb_219 n2 H5 H6)) (f14 : n15 = 0) (f15 : n16 = 60) (f16 : (hLe T0 H6 H7 ∧ hFr s_223.2.2.2.2 H6 H7 ∧ ((0 : Int) = 0 → H7.length = H6.length) ∧ hWt T0 H7) ∧ (postb_223 n17 n2 n15 n16 H6 H7 ∧ nb_223 n17 n2 n15 n16 H6 H7)) : Bb_229_88 n2 n1 n0 n2 n1 n0 n9 n18 H0 H7 := by
  unfold Bb_229_88
  intro z
  have p0 := PR_fr f1.1.2.1 (by decide +kernel) z
  have v0 : vwR H1 = vwR H0 := p0.2.1
  have ah0 : absR H1 = (absR H0) := p0.1
  have i0 := f1.2
  unfold postb_216 at i0
  rw [f0] at i0
  have cm0 := f2
  have b0 := (isR_or (k := 41) p0.2.2.1 (by decide) i0).resolve_right (fun w => cm0 w.1)
  replace b0 := b0.2
  rw [v0, ah0, kmc_41] at b0
  have c1 := f3.2.2 p0.2.2.1 (by rw [v0, ah0]; rw [b0]; decide)
  rw [v0, ah0, b0] at c1
  have v1 : vwR H2 = vwR H0 := (vwR_fr f3.1.2.1 (by decide +kernel)).trans v0
  have c2 := f6.2.2 c1.1
  try rw [f4] at c2
  try rw [f5] at c2
  rw [v1, c1.2] at c2
  have v2 : vwR H3 = vwR H0 := (vwR_fr f6.1.2.1 (by decide +kernel)).trans v1
  have p3 := PR_fr f8.1.2.1 (by decide +kernel) c2.1
  have v3 : vwR H4 = vwR H0 := p3.2.1.trans v2
  have ah3 : absR H4 = (pnm (vwR H0) 0 7 (ptk (vwR H0) 37 (absR H0))) := p3.1.trans c2.2
  have i3 := f8.2
  unfold postb_216 at i3
  rw [f7] at i3
  have cm3 := f9
  have b3 := (isR_or (k := 9) p3.2.2.1 (by decide) i3).resolve_left (fun w => absurd (w.1.symm.trans cm3) (by decide))
  replace b3 := b3.2
  rw [v3, ah3, kmc_9] at b3
  have p4 := PR_fr f11.1.2.1 (by decide +kernel) p3.2.2.1
  have v4 : vwR H5 = vwR H0 := p4.2.1.trans v3
  have ah4 : absR H5 = (pnm (vwR H0) 0 7 (ptk (vwR H0) 37 (absR H0))) := p4.1.trans ah3
  have i4 := f11.2
  unfold postb_216 at i4
  rw [f10] at i4
  have cm4 := f12
  have b4 := (isR_or (k := 8) p4.2.2.1 (by decide) i4).resolve_right (fun w => cm4 w.1)
  replace b4 := b4.2
  rw [v4, ah4, kmc_8] at b4
  have c5 := f13.2.2 p4.2.2.1 (by rw [v4, ah4]; rw [b4]; decide)
  rw [v4, ah4, b4] at c5
  have v5 : vwR H6 = vwR H0 := (vwR_fr f13.1.2.1 (by decide +kernel)).trans v4
  have c6 := f16.2.2 c5.1
  try rw [f14] at c6
  try rw [f15] at c6
  rw [v5, c5.2] at c6
  have v6 : vwR H7 = vwR H0 := (vwR_fr f16.1.2.1 (by decide +kernel)).trans v5
  refine ⟨c6.1, ?_⟩
  rw [c6.2]
  unfold pTime
  try rw [if_pos b0]
  try rw [if_neg b3]
  try rw [if_pos b4]
  all_goals rfl
def g_229w_s_1 : vG := ([(1223, [17, 0, 15, 16], [6, 7], 0), (0, [16], [], 60), (0, [15], [], 0), (1219, [0], [5, 6], 0), (31, [14], [], 0), (1216, [14, 0, 13], [4, 5], 0), (0, [13], [], 8), (30, [11], [], 0), (1216, [11, 0, 10], [3, 4], 0), (0, [10], [], 9), (1223, [9, 0, 7, 8], [2, 3], 0), (0, [8], [], 7), (0, [7], [], 0), (1219, [0], [1, 2], 0), (31, [6], [], 0), (1216, [6, 0, 5], [0, 1], 0), (0, [5], [], 41)], (4000, [0, 1, 2, 9, 18], [7], 88))
theorem c_229w_s_1 : vOkm T0 (eN e_229 L_229w A_229 mu_229 n_229 B_229 none) 3 g_229w_s_1 := vOk_inI fun ρ η f0 f1 f2 f3 f4 f5 f6 f7 f8 f9 f10 f11 f12 f13 f14 f15 f16 => q_229w_1 (n0 := ρ 2) (n1 := ρ 1) (n2 := ρ 0) (n5 := ρ 5) (n6 := ρ 6) (n7 := ρ 7) (n8 := ρ 8) (n9 := ρ 9) (n10 := ρ 10) (n11 := ρ 11) (n13 := ρ 13) (n14 := ρ 14) (n15 := ρ 15) (n16 := ρ 16) (n17 := ρ 17) (n18 := ρ 18) (H0 := η 0) (H1 := η 1) (H2 := η 2) (H3 := η 3) (H4 := η 4) (H5 := η 5) (H6 := η 6) (H7 := η 7) f16 f15 f14 f13 f12 f11 f10 f9 f8 f7 f6 f5 f4 f3 f2 f1 f0
theorem q_229w_2 {n0 n1 n2 n4 n5 n6 n7 n8 n9 n10 n11 n13 n14 n15 n16 : Int} {H0 H1 H2 H3 H4 H5 H6 : gH} (f0 : n5 = 41) (f1 : (hLe T0 H0 H1 ∧ hFr s_216.2.2.2.2 H0 H1 ∧ ((0 : Int) = 0 → H1.length = H0.length) ∧ hWt T0 H1) ∧ postb_216 n6 n2 n5 H0 H1) (f2 : n6 ≠ 0) (f3 : (hLe T0 H1 H2 ∧ hFr s_219.2.2.2.2 H1 H2 ∧ ((0 : Int) = 0 → H2.length = H1.length) ∧ hWt T0 H2) ∧ (postb_219 n2 H1 H2 ∧ nb_219 n2 H1 H2)) (f4 : n7 = 0) (f5 : n8 = 7) (f6 : (hLe T0 H2 H3 ∧ hFr s_223.2.2.2.2 H2 H3 ∧ ((0 : Int) = 0 → H3.length = H2.length) ∧ hWt T0 H3) ∧ (postb_223 n9 n2 n7 n8 H2 H3 ∧ nb_223 n9 n2 n7 n8 H2 H3)) (f7 : n10 = 9) (f8 : (hLe T0 H3 H4 ∧ hFr s_216.2.2.2.2 H3 H4 ∧ ((0 : Int) = 0 → H4.length = H3.length) ∧ hWt T0 H4) ∧ postb_216 n11 n2 n10 H3 H4) (f9 : n11 = 0) (f10 : n13 = 8) (f11 : (hLe T0 H4 H5 ∧ hFr s_216.2.2.2.2 H4 H5 ∧ ((0 : Int) = 0 → H5.length = H4.length) ∧ hWt T0 H5) ∧ postb_216 n14 n2 n13 H4 H5) (f12 : n14 = 0) (f13 : n15 = 9) (f14 : (hLe T0 H5 H6 ∧ hFr s_216.2.2.2.2 H5 H6 ∧ ((0 : Int) = 0 → H6.length = H5.length) ∧ hWt T0 H6) ∧ postb_216 n16 n2 n15 H5 H6) (f15 : n16 = 0) : Bb_229_88 n2 n1 n0 n2 n1 n0 n9 n4 H0 H6 := by
  unfold Bb_229_88
  intro z
  have p0 := PR_fr f1.1.2.1 (by decide +kernel) z
  have v0 : vwR H1 = vwR H0 := p0.2.1
  have ah0 : absR H1 = (absR H0) := p0.1
  have i0 := f1.2
  unfold postb_216 at i0
  rw [f0] at i0
  have cm0 := f2
  have b0 := (isR_or (k := 41) p0.2.2.1 (by decide) i0).resolve_right (fun w => cm0 w.1)
  replace b0 := b0.2
  rw [v0, ah0, kmc_41] at b0
  have c1 := f3.2.2 p0.2.2.1 (by rw [v0, ah0]; rw [b0]; decide)
  rw [v0, ah0, b0] at c1
  have v1 : vwR H2 = vwR H0 := (vwR_fr f3.1.2.1 (by decide +kernel)).trans v0
  have c2 := f6.2.2 c1.1
  try rw [f4] at c2
  try rw [f5] at c2
  rw [v1, c1.2] at c2
  have v2 : vwR H3 = vwR H0 := (vwR_fr f6.1.2.1 (by decide +kernel)).trans v1
  have p3 := PR_fr f8.1.2.1 (by decide +kernel) c2.1
  have v3 : vwR H4 = vwR H0 := p3.2.1.trans v2
  have ah3 : absR H4 = (pnm (vwR H0) 0 7 (ptk (vwR H0) 37 (absR H0))) := p3.1.trans c2.2
  have i3 := f8.2
  unfold postb_216 at i3
  rw [f7] at i3
  have cm3 := f9
  have b3 := (isR_or (k := 9) p3.2.2.1 (by decide) i3).resolve_left (fun w => absurd (w.1.symm.trans cm3) (by decide))
  replace b3 := b3.2
  rw [v3, ah3, kmc_9] at b3
  have p4 := PR_fr f11.1.2.1 (by decide +kernel) p3.2.2.1
  have v4 : vwR H5 = vwR H0 := p4.2.1.trans v3
  have ah4 : absR H5 = (pnm (vwR H0) 0 7 (ptk (vwR H0) 37 (absR H0))) := p4.1.trans ah3
  have i4 := f11.2
  unfold postb_216 at i4
  rw [f10] at i4
  have cm4 := f12
  have b4 := (isR_or (k := 8) p4.2.2.1 (by decide) i4).resolve_left (fun w => absurd (w.1.symm.trans cm4) (by decide))
  replace b4 := b4.2
  rw [v4, ah4, kmc_8] at b4
  have p5 := PR_fr f14.1.2.1 (by decide +kernel) p4.2.2.1
  have v5 : vwR H6 = vwR H0 := p5.2.1.trans v4
  have ah5 : absR H6 = (pnm (vwR H0) 0 7 (ptk (vwR H0) 37 (absR H0))) := p5.1.trans ah4
  have i5 := f14.2
  unfold postb_216 at i5
  rw [f13] at i5
  have cm5 := f15
  have b5 := (isR_or (k := 9) p5.2.2.1 (by decide) i5).resolve_left (fun w => absurd (w.1.symm.trans cm5) (by decide))
  replace b5 := b5.2
  rw [v5, ah5, kmc_9] at b5
  refine ⟨p5.2.2.1, ?_⟩
  rw [ah5]
  unfold pTime
  try rw [if_pos b0]
  try rw [if_neg b3]
  try rw [if_neg b4]
  try rw [if_neg b5]
  all_goals rfl
def g_229w_s_2 : vG := ([(30, [16], [], 0), (1216, [16, 0, 15], [5, 6], 0), (0, [15], [], 9), (30, [14], [], 0), (1216, [14, 0, 13], [4, 5], 0), (0, [13], [], 8), (30, [11], [], 0), (1216, [11, 0, 10], [3, 4], 0), (0, [10], [], 9), (1223, [9, 0, 7, 8], [2, 3], 0), (0, [8], [], 7), (0, [7], [], 0), (1219, [0], [1, 2], 0), (31, [6], [], 0), (1216, [6, 0, 5], [0, 1], 0), (0, [5], [], 41)], (4000, [0, 1, 2, 9, 4], [6], 88))
theorem c_229w_s_2 : vOkm T0 (eN e_229 L_229w A_229 mu_229 n_229 B_229 none) 3 g_229w_s_2 := vOk_inI fun ρ η f0 f1 f2 f3 f4 f5 f6 f7 f8 f9 f10 f11 f12 f13 f14 f15 => q_229w_2 (n0 := ρ 2) (n1 := ρ 1) (n2 := ρ 0) (n4 := ρ 4) (n5 := ρ 5) (n6 := ρ 6) (n7 := ρ 7) (n8 := ρ 8) (n9 := ρ 9) (n10 := ρ 10) (n11 := ρ 11) (n13 := ρ 13) (n14 := ρ 14) (n15 := ρ 15) (n16 := ρ 16) (H0 := η 0) (H1 := η 1) (H2 := η 2) (H3 := η 3) (H4 := η 4) (H5 := η 5) (H6 := η 6) f15 f14 f13 f12 f11 f10 f9 f8 f7 f6 f5 f4 f3 f2 f1 f0
theorem q_229w_3 {n0 n1 n2 n5 n6 n7 n8 n9 n10 n11 n13 n14 n15 n16 n17 n18 n19 n20 : Int} {H0 H1 H2 H3 H4 H5 H6 H7 H8 : gH} (f0 : n5 = 41) (f1 : (hLe T0 H0 H1 ∧ hFr s_216.2.2.2.2 H0 H1 ∧ ((0 : Int) = 0 → H1.length = H0.length) ∧ hWt T0 H1) ∧ postb_216 n6 n2 n5 H0 H1) (f2 : n6 ≠ 0) (f3 : (hLe T0 H1 H2 ∧ hFr s_219.2.2.2.2 H1 H2 ∧ ((0 : Int) = 0 → H2.length = H1.length) ∧ hWt T0 H2) ∧ (postb_219 n2 H1 H2 ∧ nb_219 n2 H1 H2)) (f4 : n7 = 0) (f5 : n8 = 7) (f6 : (hLe T0 H2 H3 ∧ hFr s_223.2.2.2.2 H2 H3 ∧ ((0 : Int) = 0 → H3.length = H2.length) ∧ hWt T0 H3) ∧ (postb_223 n9 n2 n7 n8 H2 H3 ∧ nb_223 n9 n2 n7 n8 H2 H3)) (f7 : n10 = 9) (f8 : (hLe T0 H3 H4 ∧ hFr s_216.2.2.2.2 H3 H4 ∧ ((0 : Int) = 0 → H4.length = H3.length) ∧ hWt T0 H4) ∧ postb_216 n11 n2 n10 H3 H4) (f9 : n11 = 0) (f10 : n13 = 8) (f11 : (hLe T0 H4 H5 ∧ hFr s_216.2.2.2.2 H4 H5 ∧ ((0 : Int) = 0 → H5.length = H4.length) ∧ hWt T0 H5) ∧ postb_216 n14 n2 n13 H4 H5) (f12 : n14 = 0) (f13 : n15 = 9) (f14 : (hLe T0 H5 H6 ∧ hFr s_216.2.2.2.2 H5 H6 ∧ ((0 : Int) = 0 → H6.length = H5.length) ∧ hWt T0 H6) ∧ postb_216 n16 n2 n15 H5 H6) (f15 : n16 ≠ 0) (f16 : (hLe T0 H6 H7 ∧ hFr s_219.2.2.2.2 H6 H7 ∧ ((0 : Int) = 0 → H7.length = H6.length) ∧ hWt T0 H7) ∧ (postb_219 n2 H6 H7 ∧ nb_219 n2 H6 H7)) (f17 : n17 = 0) (f18 : n18 = 60) (f19 : (hLe T0 H7 H8 ∧ hFr s_223.2.2.2.2 H7 H8 ∧ ((0 : Int) = 0 → H8.length = H7.length) ∧ hWt T0 H8) ∧ (postb_223 n19 n2 n17 n18 H7 H8 ∧ nb_223 n19 n2 n17 n18 H7 H8)) : Bb_229_88 n2 n1 n0 n2 n1 n0 n9 n20 H0 H8 := by
  unfold Bb_229_88
  intro z
  have p0 := PR_fr f1.1.2.1 (by decide +kernel) z
  have v0 : vwR H1 = vwR H0 := p0.2.1
  have ah0 : absR H1 = (absR H0) := p0.1
  have i0 := f1.2
  unfold postb_216 at i0
  rw [f0] at i0
  have cm0 := f2
  have b0 := (isR_or (k := 41) p0.2.2.1 (by decide) i0).resolve_right (fun w => cm0 w.1)
  replace b0 := b0.2
  rw [v0, ah0, kmc_41] at b0
  have c1 := f3.2.2 p0.2.2.1 (by rw [v0, ah0]; rw [b0]; decide)
  rw [v0, ah0, b0] at c1
  have v1 : vwR H2 = vwR H0 := (vwR_fr f3.1.2.1 (by decide +kernel)).trans v0
  have c2 := f6.2.2 c1.1
  try rw [f4] at c2
  try rw [f5] at c2
  rw [v1, c1.2] at c2
  have v2 : vwR H3 = vwR H0 := (vwR_fr f6.1.2.1 (by decide +kernel)).trans v1
  have p3 := PR_fr f8.1.2.1 (by decide +kernel) c2.1
  have v3 : vwR H4 = vwR H0 := p3.2.1.trans v2
  have ah3 : absR H4 = (pnm (vwR H0) 0 7 (ptk (vwR H0) 37 (absR H0))) := p3.1.trans c2.2
  have i3 := f8.2
  unfold postb_216 at i3
  rw [f7] at i3
  have cm3 := f9
  have b3 := (isR_or (k := 9) p3.2.2.1 (by decide) i3).resolve_left (fun w => absurd (w.1.symm.trans cm3) (by decide))
  replace b3 := b3.2
  rw [v3, ah3, kmc_9] at b3
  have p4 := PR_fr f11.1.2.1 (by decide +kernel) p3.2.2.1
  have v4 : vwR H5 = vwR H0 := p4.2.1.trans v3
  have ah4 : absR H5 = (pnm (vwR H0) 0 7 (ptk (vwR H0) 37 (absR H0))) := p4.1.trans ah3
  have i4 := f11.2
  unfold postb_216 at i4
  rw [f10] at i4
  have cm4 := f12
  have b4 := (isR_or (k := 8) p4.2.2.1 (by decide) i4).resolve_left (fun w => absurd (w.1.symm.trans cm4) (by decide))
  replace b4 := b4.2
  rw [v4, ah4, kmc_8] at b4
  have p5 := PR_fr f14.1.2.1 (by decide +kernel) p4.2.2.1
  have v5 : vwR H6 = vwR H0 := p5.2.1.trans v4
  have ah5 : absR H6 = (pnm (vwR H0) 0 7 (ptk (vwR H0) 37 (absR H0))) := p5.1.trans ah4
  have i5 := f14.2
  unfold postb_216 at i5
  rw [f13] at i5
  have cm5 := f15
  have b5 := (isR_or (k := 9) p5.2.2.1 (by decide) i5).resolve_right (fun w => cm5 w.1)
  replace b5 := b5.2
  rw [v5, ah5, kmc_9] at b5
  have c6 := f16.2.2 p5.2.2.1 (by rw [v5, ah5]; rw [b5]; decide)
  rw [v5, ah5, b5] at c6
  have v6 : vwR H7 = vwR H0 := (vwR_fr f16.1.2.1 (by decide +kernel)).trans v5
  have c7 := f19.2.2 c6.1
  try rw [f17] at c7
  try rw [f18] at c7
  rw [v6, c6.2] at c7
  have v7 : vwR H8 = vwR H0 := (vwR_fr f19.1.2.1 (by decide +kernel)).trans v6
  exact absurd b5 b3
def g_229w_s_3 : vG := ([(1223, [19, 0, 17, 18], [7, 8], 0), (0, [18], [], 60), (0, [17], [], 0), (1219, [0], [6, 7], 0), (31, [16], [], 0), (1216, [16, 0, 15], [5, 6], 0), (0, [15], [], 9), (30, [14], [], 0), (1216, [14, 0, 13], [4, 5], 0), (0, [13], [], 8), (30, [11], [], 0), (1216, [11, 0, 10], [3, 4], 0), (0, [10], [], 9), (1223, [9, 0, 7, 8], [2, 3], 0), (0, [8], [], 7), (0, [7], [], 0), (1219, [0], [1, 2], 0), (31, [6], [], 0), (1216, [6, 0, 5], [0, 1], 0), (0, [5], [], 41)], (4000, [0, 1, 2, 9, 20], [8], 88))
theorem c_229w_s_3 : vOkm T0 (eN e_229 L_229w A_229 mu_229 n_229 B_229 none) 3 g_229w_s_3 := vOk_inI fun ρ η f0 f1 f2 f3 f4 f5 f6 f7 f8 f9 f10 f11 f12 f13 f14 f15 f16 f17 f18 f19 => q_229w_3 (n0 := ρ 2) (n1 := ρ 1) (n2 := ρ 0) (n5 := ρ 5) (n6 := ρ 6) (n7 := ρ 7) (n8 := ρ 8) (n9 := ρ 9) (n10 := ρ 10) (n11 := ρ 11) (n13 := ρ 13) (n14 := ρ 14) (n15 := ρ 15) (n16 := ρ 16) (n17 := ρ 17) (n18 := ρ 18) (n19 := ρ 19) (n20 := ρ 20) (H0 := η 0) (H1 := η 1) (H2 := η 2) (H3 := η 3) (H4 := η 4) (H5 := η 5) (H6 := η 6) (H7 := η 7) (H8 := η 8) f19 f18 f17 f16 f15 f14 f13 f12 f11 f10 f9 f8 f7 f6 f5 f4 f3 f2 f1 f0
theorem q_229w_4 {n0 n1 n2 n5 n6 n7 n8 n9 n10 n11 n13 n14 n15 n16 n17 n18 : Int} {H0 H1 H2 H3 H4 H5 H6 H7 : gH} (f0 : n5 = 41) (f1 : (hLe T0 H0 H1 ∧ hFr s_216.2.2.2.2 H0 H1 ∧ ((0 : Int) = 0 → H1.length = H0.length) ∧ hWt T0 H1) ∧ postb_216 n6 n2 n5 H0 H1) (f2 : n6 ≠ 0) (f3 : (hLe T0 H1 H2 ∧ hFr s_219.2.2.2.2 H1 H2 ∧ ((0 : Int) = 0 → H2.length = H1.length) ∧ hWt T0 H2) ∧ (postb_219 n2 H1 H2 ∧ nb_219 n2 H1 H2)) (f4 : n7 = 0) (f5 : n8 = 7) (f6 : (hLe T0 H2 H3 ∧ hFr s_223.2.2.2.2 H2 H3 ∧ ((0 : Int) = 0 → H3.length = H2.length) ∧ hWt T0 H3) ∧ (postb_223 n9 n2 n7 n8 H2 H3 ∧ nb_223 n9 n2 n7 n8 H2 H3)) (f7 : n10 = 9) (f8 : (hLe T0 H3 H4 ∧ hFr s_216.2.2.2.2 H3 H4 ∧ ((0 : Int) = 0 → H4.length = H3.length) ∧ hWt T0 H4) ∧ postb_216 n11 n2 n10 H3 H4) (f9 : n11 ≠ 0) (f10 : n13 = 8) (f11 : (hLe T0 H4 H5 ∧ hFr s_216.2.2.2.2 H4 H5 ∧ ((0 : Int) = 0 → H5.length = H4.length) ∧ hWt T0 H5) ∧ postb_216 n14 n2 n13 H4 H5) (f12 : n14 ≠ 0) (f13 : (hLe T0 H5 H6 ∧ hFr s_219.2.2.2.2 H5 H6 ∧ ((0 : Int) = 0 → H6.length = H5.length) ∧ hWt T0 H6) ∧ (postb_219 n2 H5 H6 ∧ nb_219 n2 H5 H6)) (f14 : n15 = 0) (f15 : n16 = 60) (f16 : (hLe T0 H6 H7 ∧ hFr s_223.2.2.2.2 H6 H7 ∧ ((0 : Int) = 0 → H7.length = H6.length) ∧ hWt T0 H7) ∧ (postb_223 n17 n2 n15 n16 H6 H7 ∧ nb_223 n17 n2 n15 n16 H6 H7)) : Bb_229_88 n2 n1 n0 n2 n1 n0 n9 n18 H0 H7 := by
  unfold Bb_229_88
  intro z
  have p0 := PR_fr f1.1.2.1 (by decide +kernel) z
  have v0 : vwR H1 = vwR H0 := p0.2.1
  have ah0 : absR H1 = (absR H0) := p0.1
  have i0 := f1.2
  unfold postb_216 at i0
  rw [f0] at i0
  have cm0 := f2
  have b0 := (isR_or (k := 41) p0.2.2.1 (by decide) i0).resolve_right (fun w => cm0 w.1)
  replace b0 := b0.2
  rw [v0, ah0, kmc_41] at b0
  have c1 := f3.2.2 p0.2.2.1 (by rw [v0, ah0]; rw [b0]; decide)
  rw [v0, ah0, b0] at c1
  have v1 : vwR H2 = vwR H0 := (vwR_fr f3.1.2.1 (by decide +kernel)).trans v0
  have c2 := f6.2.2 c1.1
  try rw [f4] at c2
  try rw [f5] at c2
  rw [v1, c1.2] at c2
  have v2 : vwR H3 = vwR H0 := (vwR_fr f6.1.2.1 (by decide +kernel)).trans v1
  have p3 := PR_fr f8.1.2.1 (by decide +kernel) c2.1
  have v3 : vwR H4 = vwR H0 := p3.2.1.trans v2
  have ah3 : absR H4 = (pnm (vwR H0) 0 7 (ptk (vwR H0) 37 (absR H0))) := p3.1.trans c2.2
  have i3 := f8.2
  unfold postb_216 at i3
  rw [f7] at i3
  have cm3 := f9
  have b3 := (isR_or (k := 9) p3.2.2.1 (by decide) i3).resolve_right (fun w => cm3 w.1)
  replace b3 := b3.2
  rw [v3, ah3, kmc_9] at b3
  have p4 := PR_fr f11.1.2.1 (by decide +kernel) p3.2.2.1
  have v4 : vwR H5 = vwR H0 := p4.2.1.trans v3
  have ah4 : absR H5 = (pnm (vwR H0) 0 7 (ptk (vwR H0) 37 (absR H0))) := p4.1.trans ah3
  have i4 := f11.2
  unfold postb_216 at i4
  rw [f10] at i4
  have cm4 := f12
  have b4 := (isR_or (k := 8) p4.2.2.1 (by decide) i4).resolve_right (fun w => cm4 w.1)
  replace b4 := b4.2
  rw [v4, ah4, kmc_8] at b4
  have c5 := f13.2.2 p4.2.2.1 (by rw [v4, ah4]; rw [b4]; decide)
  rw [v4, ah4, b4] at c5
  have v5 : vwR H6 = vwR H0 := (vwR_fr f13.1.2.1 (by decide +kernel)).trans v4
  have c6 := f16.2.2 c5.1
  try rw [f14] at c6
  try rw [f15] at c6
  rw [v5, c5.2] at c6
  have v6 : vwR H7 = vwR H0 := (vwR_fr f16.1.2.1 (by decide +kernel)).trans v5
  exact absurd (b3.symm.trans b4) (by decide)
def g_229w_s_4 : vG := ([(1223, [17, 0, 15, 16], [6, 7], 0), (0, [16], [], 60), (0, [15], [], 0), (1219, [0], [5, 6], 0), (31, [14], [], 0), (1216, [14, 0, 13], [4, 5], 0), (0, [13], [], 8), (31, [11], [], 0), (1216, [11, 0, 10], [3, 4], 0), (0, [10], [], 9), (1223, [9, 0, 7, 8], [2, 3], 0), (0, [8], [], 7), (0, [7], [], 0), (1219, [0], [1, 2], 0), (31, [6], [], 0), (1216, [6, 0, 5], [0, 1], 0), (0, [5], [], 41)], (4000, [0, 1, 2, 9, 18], [7], 88))
theorem c_229w_s_4 : vOkm T0 (eN e_229 L_229w A_229 mu_229 n_229 B_229 none) 3 g_229w_s_4 := vOk_inI fun ρ η f0 f1 f2 f3 f4 f5 f6 f7 f8 f9 f10 f11 f12 f13 f14 f15 f16 => q_229w_4 (n0 := ρ 2) (n1 := ρ 1) (n2 := ρ 0) (n5 := ρ 5) (n6 := ρ 6) (n7 := ρ 7) (n8 := ρ 8) (n9 := ρ 9) (n10 := ρ 10) (n11 := ρ 11) (n13 := ρ 13) (n14 := ρ 14) (n15 := ρ 15) (n16 := ρ 16) (n17 := ρ 17) (n18 := ρ 18) (H0 := η 0) (H1 := η 1) (H2 := η 2) (H3 := η 3) (H4 := η 4) (H5 := η 5) (H6 := η 6) (H7 := η 7) f16 f15 f14 f13 f12 f11 f10 f9 f8 f7 f6 f5 f4 f3 f2 f1 f0
theorem q_229w_5 {n0 n1 n2 n4 n5 n6 n7 n8 n9 n10 n11 n13 n14 n15 n16 : Int} {H0 H1 H2 H3 H4 H5 H6 : gH} (f0 : n5 = 41) (f1 : (hLe T0 H0 H1 ∧ hFr s_216.2.2.2.2 H0 H1 ∧ ((0 : Int) = 0 → H1.length = H0.length) ∧ hWt T0 H1) ∧ postb_216 n6 n2 n5 H0 H1) (f2 : n6 ≠ 0) (f3 : (hLe T0 H1 H2 ∧ hFr s_219.2.2.2.2 H1 H2 ∧ ((0 : Int) = 0 → H2.length = H1.length) ∧ hWt T0 H2) ∧ (postb_219 n2 H1 H2 ∧ nb_219 n2 H1 H2)) (f4 : n7 = 0) (f5 : n8 = 7) (f6 : (hLe T0 H2 H3 ∧ hFr s_223.2.2.2.2 H2 H3 ∧ ((0 : Int) = 0 → H3.length = H2.length) ∧ hWt T0 H3) ∧ (postb_223 n9 n2 n7 n8 H2 H3 ∧ nb_223 n9 n2 n7 n8 H2 H3)) (f7 : n10 = 9) (f8 : (hLe T0 H3 H4 ∧ hFr s_216.2.2.2.2 H3 H4 ∧ ((0 : Int) = 0 → H4.length = H3.length) ∧ hWt T0 H4) ∧ postb_216 n11 n2 n10 H3 H4) (f9 : n11 ≠ 0) (f10 : n13 = 8) (f11 : (hLe T0 H4 H5 ∧ hFr s_216.2.2.2.2 H4 H5 ∧ ((0 : Int) = 0 → H5.length = H4.length) ∧ hWt T0 H5) ∧ postb_216 n14 n2 n13 H4 H5) (f12 : n14 = 0) (f13 : n15 = 9) (f14 : (hLe T0 H5 H6 ∧ hFr s_216.2.2.2.2 H5 H6 ∧ ((0 : Int) = 0 → H6.length = H5.length) ∧ hWt T0 H6) ∧ postb_216 n16 n2 n15 H5 H6) (f15 : n16 = 0) : Bb_229_88 n2 n1 n0 n2 n1 n0 n9 n4 H0 H6 := by
  unfold Bb_229_88
  intro z
  have p0 := PR_fr f1.1.2.1 (by decide +kernel) z
  have v0 : vwR H1 = vwR H0 := p0.2.1
  have ah0 : absR H1 = (absR H0) := p0.1
  have i0 := f1.2
  unfold postb_216 at i0
  rw [f0] at i0
  have cm0 := f2
  have b0 := (isR_or (k := 41) p0.2.2.1 (by decide) i0).resolve_right (fun w => cm0 w.1)
  replace b0 := b0.2
  rw [v0, ah0, kmc_41] at b0
  have c1 := f3.2.2 p0.2.2.1 (by rw [v0, ah0]; rw [b0]; decide)
  rw [v0, ah0, b0] at c1
  have v1 : vwR H2 = vwR H0 := (vwR_fr f3.1.2.1 (by decide +kernel)).trans v0
  have c2 := f6.2.2 c1.1
  try rw [f4] at c2
  try rw [f5] at c2
  rw [v1, c1.2] at c2
  have v2 : vwR H3 = vwR H0 := (vwR_fr f6.1.2.1 (by decide +kernel)).trans v1
  have p3 := PR_fr f8.1.2.1 (by decide +kernel) c2.1
  have v3 : vwR H4 = vwR H0 := p3.2.1.trans v2
  have ah3 : absR H4 = (pnm (vwR H0) 0 7 (ptk (vwR H0) 37 (absR H0))) := p3.1.trans c2.2
  have i3 := f8.2
  unfold postb_216 at i3
  rw [f7] at i3
  have cm3 := f9
  have b3 := (isR_or (k := 9) p3.2.2.1 (by decide) i3).resolve_right (fun w => cm3 w.1)
  replace b3 := b3.2
  rw [v3, ah3, kmc_9] at b3
  have p4 := PR_fr f11.1.2.1 (by decide +kernel) p3.2.2.1
  have v4 : vwR H5 = vwR H0 := p4.2.1.trans v3
  have ah4 : absR H5 = (pnm (vwR H0) 0 7 (ptk (vwR H0) 37 (absR H0))) := p4.1.trans ah3
  have i4 := f11.2
  unfold postb_216 at i4
  rw [f10] at i4
  have cm4 := f12
  have b4 := (isR_or (k := 8) p4.2.2.1 (by decide) i4).resolve_left (fun w => absurd (w.1.symm.trans cm4) (by decide))
  replace b4 := b4.2
  rw [v4, ah4, kmc_8] at b4
  have p5 := PR_fr f14.1.2.1 (by decide +kernel) p4.2.2.1
  have v5 : vwR H6 = vwR H0 := p5.2.1.trans v4
  have ah5 : absR H6 = (pnm (vwR H0) 0 7 (ptk (vwR H0) 37 (absR H0))) := p5.1.trans ah4
  have i5 := f14.2
  unfold postb_216 at i5
  rw [f13] at i5
  have cm5 := f15
  have b5 := (isR_or (k := 9) p5.2.2.1 (by decide) i5).resolve_left (fun w => absurd (w.1.symm.trans cm5) (by decide))
  replace b5 := b5.2
  rw [v5, ah5, kmc_9] at b5
  exact absurd b3 b5
def g_229w_s_5 : vG := ([(30, [16], [], 0), (1216, [16, 0, 15], [5, 6], 0), (0, [15], [], 9), (30, [14], [], 0), (1216, [14, 0, 13], [4, 5], 0), (0, [13], [], 8), (31, [11], [], 0), (1216, [11, 0, 10], [3, 4], 0), (0, [10], [], 9), (1223, [9, 0, 7, 8], [2, 3], 0), (0, [8], [], 7), (0, [7], [], 0), (1219, [0], [1, 2], 0), (31, [6], [], 0), (1216, [6, 0, 5], [0, 1], 0), (0, [5], [], 41)], (4000, [0, 1, 2, 9, 4], [6], 88))
theorem c_229w_s_5 : vOkm T0 (eN e_229 L_229w A_229 mu_229 n_229 B_229 none) 3 g_229w_s_5 := vOk_inI fun ρ η f0 f1 f2 f3 f4 f5 f6 f7 f8 f9 f10 f11 f12 f13 f14 f15 => q_229w_5 (n0 := ρ 2) (n1 := ρ 1) (n2 := ρ 0) (n4 := ρ 4) (n5 := ρ 5) (n6 := ρ 6) (n7 := ρ 7) (n8 := ρ 8) (n9 := ρ 9) (n10 := ρ 10) (n11 := ρ 11) (n13 := ρ 13) (n14 := ρ 14) (n15 := ρ 15) (n16 := ρ 16) (H0 := η 0) (H1 := η 1) (H2 := η 2) (H3 := η 3) (H4 := η 4) (H5 := η 5) (H6 := η 6) f15 f14 f13 f12 f11 f10 f9 f8 f7 f6 f5 f4 f3 f2 f1 f0
theorem q_229w_6 {n0 n1 n2 n5 n6 n7 n8 n9 n10 n11 n13 n14 n15 n16 n17 n18 n19 n20 : Int} {H0 H1 H2 H3 H4 H5 H6 H7 H8 : gH} (f0 : n5 = 41) (f1 : (hLe T0 H0 H1 ∧ hFr s_216.2.2.2.2 H0 H1 ∧ ((0 : Int) = 0 → H1.length = H0.length) ∧ hWt T0 H1) ∧ postb_216 n6 n2 n5 H0 H1) (f2 : n6 ≠ 0) (f3 : (hLe T0 H1 H2 ∧ hFr s_219.2.2.2.2 H1 H2 ∧ ((0 : Int) = 0 → H2.length = H1.length) ∧ hWt T0 H2) ∧ (postb_219 n2 H1 H2 ∧ nb_219 n2 H1 H2)) (f4 : n7 = 0) (f5 : n8 = 7) (f6 : (hLe T0 H2 H3 ∧ hFr s_223.2.2.2.2 H2 H3 ∧ ((0 : Int) = 0 → H3.length = H2.length) ∧ hWt T0 H3) ∧ (postb_223 n9 n2 n7 n8 H2 H3 ∧ nb_223 n9 n2 n7 n8 H2 H3)) (f7 : n10 = 9) (f8 : (hLe T0 H3 H4 ∧ hFr s_216.2.2.2.2 H3 H4 ∧ ((0 : Int) = 0 → H4.length = H3.length) ∧ hWt T0 H4) ∧ postb_216 n11 n2 n10 H3 H4) (f9 : n11 ≠ 0) (f10 : n13 = 8) (f11 : (hLe T0 H4 H5 ∧ hFr s_216.2.2.2.2 H4 H5 ∧ ((0 : Int) = 0 → H5.length = H4.length) ∧ hWt T0 H5) ∧ postb_216 n14 n2 n13 H4 H5) (f12 : n14 = 0) (f13 : n15 = 9) (f14 : (hLe T0 H5 H6 ∧ hFr s_216.2.2.2.2 H5 H6 ∧ ((0 : Int) = 0 → H6.length = H5.length) ∧ hWt T0 H6) ∧ postb_216 n16 n2 n15 H5 H6) (f15 : n16 ≠ 0) (f16 : (hLe T0 H6 H7 ∧ hFr s_219.2.2.2.2 H6 H7 ∧ ((0 : Int) = 0 → H7.length = H6.length) ∧ hWt T0 H7) ∧ (postb_219 n2 H6 H7 ∧ nb_219 n2 H6 H7)) (f17 : n17 = 0) (f18 : n18 = 60) (f19 : (hLe T0 H7 H8 ∧ hFr s_223.2.2.2.2 H7 H8 ∧ ((0 : Int) = 0 → H8.length = H7.length) ∧ hWt T0 H8) ∧ (postb_223 n19 n2 n17 n18 H7 H8 ∧ nb_223 n19 n2 n17 n18 H7 H8)) : Bb_229_88 n2 n1 n0 n2 n1 n0 n9 n20 H0 H8 := by
  unfold Bb_229_88
  intro z
  have p0 := PR_fr f1.1.2.1 (by decide +kernel) z
  have v0 : vwR H1 = vwR H0 := p0.2.1
  have ah0 : absR H1 = (absR H0) := p0.1
  have i0 := f1.2
  unfold postb_216 at i0
  rw [f0] at i0
  have cm0 := f2
  have b0 := (isR_or (k := 41) p0.2.2.1 (by decide) i0).resolve_right (fun w => cm0 w.1)
  replace b0 := b0.2
  rw [v0, ah0, kmc_41] at b0
  have c1 := f3.2.2 p0.2.2.1 (by rw [v0, ah0]; rw [b0]; decide)
  rw [v0, ah0, b0] at c1
  have v1 : vwR H2 = vwR H0 := (vwR_fr f3.1.2.1 (by decide +kernel)).trans v0
  have c2 := f6.2.2 c1.1
  try rw [f4] at c2
  try rw [f5] at c2
  rw [v1, c1.2] at c2
  have v2 : vwR H3 = vwR H0 := (vwR_fr f6.1.2.1 (by decide +kernel)).trans v1
  have p3 := PR_fr f8.1.2.1 (by decide +kernel) c2.1
  have v3 : vwR H4 = vwR H0 := p3.2.1.trans v2
  have ah3 : absR H4 = (pnm (vwR H0) 0 7 (ptk (vwR H0) 37 (absR H0))) := p3.1.trans c2.2
  have i3 := f8.2
  unfold postb_216 at i3
  rw [f7] at i3
  have cm3 := f9
  have b3 := (isR_or (k := 9) p3.2.2.1 (by decide) i3).resolve_right (fun w => cm3 w.1)
  replace b3 := b3.2
  rw [v3, ah3, kmc_9] at b3
  have p4 := PR_fr f11.1.2.1 (by decide +kernel) p3.2.2.1
  have v4 : vwR H5 = vwR H0 := p4.2.1.trans v3
  have ah4 : absR H5 = (pnm (vwR H0) 0 7 (ptk (vwR H0) 37 (absR H0))) := p4.1.trans ah3
  have i4 := f11.2
  unfold postb_216 at i4
  rw [f10] at i4
  have cm4 := f12
  have b4 := (isR_or (k := 8) p4.2.2.1 (by decide) i4).resolve_left (fun w => absurd (w.1.symm.trans cm4) (by decide))
  replace b4 := b4.2
  rw [v4, ah4, kmc_8] at b4
  have p5 := PR_fr f14.1.2.1 (by decide +kernel) p4.2.2.1
  have v5 : vwR H6 = vwR H0 := p5.2.1.trans v4
  have ah5 : absR H6 = (pnm (vwR H0) 0 7 (ptk (vwR H0) 37 (absR H0))) := p5.1.trans ah4
  have i5 := f14.2
  unfold postb_216 at i5
  rw [f13] at i5
  have cm5 := f15
  have b5 := (isR_or (k := 9) p5.2.2.1 (by decide) i5).resolve_right (fun w => cm5 w.1)
  replace b5 := b5.2
  rw [v5, ah5, kmc_9] at b5
  have c6 := f16.2.2 p5.2.2.1 (by rw [v5, ah5]; rw [b5]; decide)
  rw [v5, ah5, b5] at c6
  have v6 : vwR H7 = vwR H0 := (vwR_fr f16.1.2.1 (by decide +kernel)).trans v5
  have c7 := f19.2.2 c6.1
  try rw [f17] at c7
  try rw [f18] at c7
  rw [v6, c6.2] at c7
  have v7 : vwR H8 = vwR H0 := (vwR_fr f19.1.2.1 (by decide +kernel)).trans v6
  refine ⟨c7.1, ?_⟩
  rw [c7.2]
  unfold pTime
  try rw [if_pos b0]
  try rw [if_pos b3]
  try rw [if_neg b4]
  try rw [if_pos b5]
  all_goals rfl
def g_229w_s_6 : vG := ([(1223, [19, 0, 17, 18], [7, 8], 0), (0, [18], [], 60), (0, [17], [], 0), (1219, [0], [6, 7], 0), (31, [16], [], 0), (1216, [16, 0, 15], [5, 6], 0), (0, [15], [], 9), (30, [14], [], 0), (1216, [14, 0, 13], [4, 5], 0), (0, [13], [], 8), (31, [11], [], 0), (1216, [11, 0, 10], [3, 4], 0), (0, [10], [], 9), (1223, [9, 0, 7, 8], [2, 3], 0), (0, [8], [], 7), (0, [7], [], 0), (1219, [0], [1, 2], 0), (31, [6], [], 0), (1216, [6, 0, 5], [0, 1], 0), (0, [5], [], 41)], (4000, [0, 1, 2, 9, 20], [8], 88))
theorem c_229w_s_6 : vOkm T0 (eN e_229 L_229w A_229 mu_229 n_229 B_229 none) 3 g_229w_s_6 := vOk_inI fun ρ η f0 f1 f2 f3 f4 f5 f6 f7 f8 f9 f10 f11 f12 f13 f14 f15 f16 f17 f18 f19 => q_229w_6 (n0 := ρ 2) (n1 := ρ 1) (n2 := ρ 0) (n5 := ρ 5) (n6 := ρ 6) (n7 := ρ 7) (n8 := ρ 8) (n9 := ρ 9) (n10 := ρ 10) (n11 := ρ 11) (n13 := ρ 13) (n14 := ρ 14) (n15 := ρ 15) (n16 := ρ 16) (n17 := ρ 17) (n18 := ρ 18) (n19 := ρ 19) (n20 := ρ 20) (H0 := η 0) (H1 := η 1) (H2 := η 2) (H3 := η 3) (H4 := η 4) (H5 := η 5) (H6 := η 6) (H7 := η 7) (H8 := η 8) f19 f18 f17 f16 f15 f14 f13 f12 f11 f10 f9 f8 f7 f6 f5 f4 f3 f2 f1 f0
def p_229w_s : List vG := [g_229w_s_0,
  g_229w_s_1,
  g_229w_s_2,
  g_229w_s_3,
  g_229w_s_4,
  g_229w_s_5,
  g_229w_s_6]
theorem r_229w_s : vCovBO (eR0 e_229 L_229 cs_229 2000) p_229w_s = true := by decide +kernel
theorem q_229w_7 {q0 : Nat} {n0 n1 n2 n3 n4 n5 n6 n7 n8 n9 : Int} {H0 H1 H2 H3 : gH} (f0 : (hLe T0 H0 H1 ∧ hFr s_229.2.2.2.2 H0 H1 ∧ hWt T0 H1) ∧ ((Ab_229_88 n7 n6 n5 n4 n3 n2 n1 n0 H0 H1 ∧ Bb_229_88 n7 n6 n5 n4 n3 n2 n1 n0 H0 H1) ∧ preb_229 n7 n6 n5 H0) ∧ some q0 = some (mub_229_88 n7 n6 n5 n4 n3 n2 n1 n0 H0 H1)) (f1 : n8 = 301) (f2 : hUpd H2 H1 n8 n3 n1) (f3 : n9 = 302) (f4 : hUpd H3 H2 n9 n3 n0) : nb_229 n7 n6 n5 H0 H3 := by
  unfold nb_229
  intro z
  have ga := f0.2.1.1.2
  unfold Bb_229_88 at ga
  have gb := ga z
  have vz : vwR H1 = vwR H0 := vwR_fr f0.1.2.1 (by decide +kernel)
  have p0 := PR_row (q := 301) f2 f1 (by decide) gb.1
  have v0 : vwR H2 = vwR H0 := p0.2.1.trans vz
  have ah0 : absR H2 = (pTime (vwR H0) (absR H0)) := p0.1.trans gb.2
  have p1 := PR_row (q := 302) f4 f3 (by decide) p0.2.2.1
  have v1 : vwR H3 = vwR H0 := p1.2.1.trans v0
  have ah1 : absR H3 = (pTime (vwR H0) (absR H0)) := p1.1.trans ah0
  refine ⟨p1.2.2.1, ?_⟩
  rw [ah1]

def g_229w_88_0 : vG := ([(80, [9, 4, 7], [3, 2], 0), (0, [9], [], 302), (80, [8, 4, 6], [2, 1], 0), (0, [8], [], 301), (5000, [0, 1, 2, 3, 4, 5, 6, 7], [0, 1], 88)], (3000, [], [3], 125))
theorem c_229w_88_0 {q0 : Nat} : vOkm T0 (eN e_229 L_229w A_229 mu_229 n_229 B_229 (some q0)) 3 g_229w_88_0 := vOk_inI fun ρ η f0 f1 f2 f3 f4 => q_229w_7 (q0 := q0) (n0 := ρ 7) (n1 := ρ 6) (n2 := ρ 5) (n3 := ρ 4) (n4 := ρ 3) (n5 := ρ 2) (n6 := ρ 1) (n7 := ρ 0) (n8 := ρ 8) (n9 := ρ 9) (H0 := η 0) (H1 := η 1) (H2 := η 2) (H3 := η 3) f4 f3 f2 f1 f0
theorem q_229w_8 {q0 : Nat} {n0 n1 n2 n3 n4 n5 n6 n7 n8 n9 : Int} {H0 H1 H2 H3 : gH} (f0 : (hLe T0 H0 H1 ∧ hFr s_229.2.2.2.2 H0 H1 ∧ hWt T0 H1) ∧ ((Ab_229_88 n7 n6 n5 n4 n3 n2 n1 n0 H0 H1 ∧ Bb_229_88 n7 n6 n5 n4 n3 n2 n1 n0 H0 H1) ∧ preb_229 n7 n6 n5 H0) ∧ some q0 = some (mub_229_88 n7 n6 n5 n4 n3 n2 n1 n0 H0 H1)) (f1 : n8 = 303) (f2 : hUpd H2 H1 n8 n3 n1) (f3 : n9 = 304) (f4 : hUpd H3 H2 n9 n3 n0) : nb_229 n7 n6 n5 H0 H3 := by
  unfold nb_229
  intro z
  have ga := f0.2.1.1.2
  unfold Bb_229_88 at ga
  have gb := ga z
  have vz : vwR H1 = vwR H0 := vwR_fr f0.1.2.1 (by decide +kernel)
  have p0 := PR_row (q := 303) f2 f1 (by decide) gb.1
  have v0 : vwR H2 = vwR H0 := p0.2.1.trans vz
  have ah0 : absR H2 = (pTime (vwR H0) (absR H0)) := p0.1.trans gb.2
  have p1 := PR_row (q := 304) f4 f3 (by decide) p0.2.2.1
  have v1 : vwR H3 = vwR H0 := p1.2.1.trans v0
  have ah1 : absR H3 = (pTime (vwR H0) (absR H0)) := p1.1.trans ah0
  refine ⟨p1.2.2.1, ?_⟩
  rw [ah1]

def g_229w_88_1 : vG := ([(80, [9, 4, 7], [3, 2], 0), (0, [9], [], 304), (80, [8, 4, 6], [2, 1], 0), (0, [8], [], 303), (5000, [0, 1, 2, 3, 4, 5, 6, 7], [0, 1], 88)], (3000, [], [3], 125))
theorem c_229w_88_1 {q0 : Nat} : vOkm T0 (eN e_229 L_229w A_229 mu_229 n_229 B_229 (some q0)) 3 g_229w_88_1 := vOk_inI fun ρ η f0 f1 f2 f3 f4 => q_229w_8 (q0 := q0) (n0 := ρ 7) (n1 := ρ 6) (n2 := ρ 5) (n3 := ρ 4) (n4 := ρ 3) (n5 := ρ 2) (n6 := ρ 1) (n7 := ρ 0) (n8 := ρ 8) (n9 := ρ 9) (H0 := η 0) (H1 := η 1) (H2 := η 2) (H3 := η 3) f4 f3 f2 f1 f0
def p_229w_88 : List vG := [g_229w_88_0,
  g_229w_88_1]
theorem r_229w_88 : vCovBO (eRc e_229 L_229 cs_229 2000 (88, [(0, (3, 12, 285, 0)), (1, (0, 0, 1007, 0)), (2, (0, 0, 1, 0)), (3, (0, -1, 9999, 0)), (4, (0, -9999, 9999, 0))])) p_229w_88 = true := by decide +kernel
theorem m_229w (d : Nat) : eC e_229w (d + 5) := eC_ref (e := e_229) (L := L_229) (L' := L_229w) (cs := cs_229) (n := 2000) (d := d + 4) (A := A_229) (μ := mu_229) (tp := false) (p0 := p_229_s) (p1 := p_229w_s) (N := n_229) (B := B_229) rfl ⟨m_216 (d + 3), ⟨m_219w (d + 2), ⟨m_223w d, trivial⟩⟩⟩ rfl (.inl rfl) (by decide +kernel) (fun z => nomatch z) r_229_s (allC c_229_s_0 (allC c_229_s_1 (allC c_229_s_2 (allC c_229_s_3 (allC c_229_s_4 (allC c_229_s_5 (allC c_229_s_6 (allC c_229_s_7 (allC c_229_s_8 (allC c_229_s_9 (allC c_229_s_10 (allC c_229_s_11 (allC c_229_s_12 (allC c_229_s_13 (allC c_229_s_14 allN))))))))))))))) (allC (.inl ⟨p_229_88, r_229_88, fun q0 => (allC c_229_88_0 (allC c_229_88_1 allN))⟩) allN) (sub0 (sub1 (sub1 trivial))) r_229w_s (allC c_229w_s_0 (allC c_229w_s_1 (allC c_229w_s_2 (allC c_229w_s_3 (allC c_229w_s_4 (allC c_229w_s_5 (allC c_229w_s_6 allN))))))) (allC ⟨p_229w_88, r_229w_88, fun q0 => (allC c_229w_88_0 (allC c_229w_88_1 allN))⟩ allN)
