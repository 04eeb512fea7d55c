/- MixStageModel.place ()I, more fully -/
def nb_222 (r a0 : Int) (h0 h : gH) : Prop := r = (mR h0).2.2.1
def n_222 : List Int → gH → gH → Prop := fun xs h0 h => match xs with
  | [r, a0] => nb_222 r a0 h0 h
  | _ => True
noncomputable def e_222w : vE := eV e_222 n_222
noncomputable def L_222w : List vE := []
def B_222 : Int → List Int → gH → gH → Prop := fun c xs h0 h => True
theorem q_222w_0 {n0 n1 : Int} {H0 : gH} (f0 : n0 = 285) (f1 : hWt T0 H0 ∧ True) (f2 : n1 ≤ 2000) (f3 : (-1) ≤ n1) (f4 : hK H0 (n0).toNat = 12) (f5 : n1 = hV H0 (n0).toNat 17) : nb_222 n1 n0 H0 H0 := by
  have d5 := rdS (q := 285) f5 f0
  unfold nb_222
  show _ = hV H0 285 17
  omega
def g_222w_s_0 : vG := ([(20, [1, 0], [0], 17), (23, [0], [0], 12), (90, [1], [], -1), (91, [1], [], 2000), (6000, [0], [0], 0), (0, [0], [], 285)], (3000, [1], [0], 4))
theorem c_222w_s_0 : vOkm T0 (eN e_222 L_222w A_222 mu_222 n_222 B_222 none) 1 g_222w_s_0 := vOk_inI fun ρ η f0 f1 f2 f3 f4 f5 => q_222w_0 (n0 := ρ 0) (n1 := ρ 1) (H0 := η 0) f5 f4 f3 f2 f1 f0
def p_222w_s : List vG := [g_222w_s_0]
theorem r_222w_s : vCovBO (eR0 e_222 L_222 cs_222 2000) p_222w_s = true := by decide +kernel
theorem m_222w (d : Nat) : eC e_222w (d + 1) := eC_ref (e := e_222) (L := L_222) (L' := L_222w) (cs := cs_222) (n := 2000) (d := d + 0) (A := A_222) (μ := mu_222) (tp := true) (p0 := p_222_s) (p1 := p_222w_s) (N := n_222) (B := B_222) rfl trivial rfl (.inr pre0_ok) (by decide +kernel) (fun _ => post0_ok) r_222_s allN allN trivial r_222w_s (allC c_222w_s_0 allN) allN
/- MixStageModel.reel (I)Z, more fully -/
def nb_240 (r a0 a1 : Int) (h0 h : gH) : Prop := IRm h0 → MT (mR h0) → IRm h ∧ (mR h, r) = mReel a1 (mR h0)
def n_240 : List Int → gH → gH → Prop := fun xs h0 h => match xs with
  | [r, a0, a1] => nb_240 r a0 a1 h0 h
  | _ => True
noncomputable def e_240w : vE := eV e_240 n_240
noncomputable def L_240w : List vE := []
def B_240 : Int → List Int → gH → gH → Prop := fun c xs h0 h => True
theorem q_240w_0 {n0 n1 n2 n3 : Int} {H0 : gH} (f0 : n0 ≤ 2147483647) (f1 : (-2147483648) ≤ n0) (f2 : n1 = 285) (f3 : hWt T0 H0 ∧ True) (f4 : n2 = 1) (f5 : n0 < n2) (f6 : n3 = 0) : nb_240 n3 n1 n0 H0 H0 := by
  unfold nb_240
  intro ir mt
  obtain ⟨mf, ms, me, m5, m6, m7, mz⟩ := MTr mt
  refine ⟨ir, ?_⟩
  rw [show mReel n0 (mR H0) = _ from if_neg (by show ¬ (hV H0 285 18 = 0 ∧ hV H0 285 60 ≤ 1 ∧ 1 ≤ n0 ∧ n0 ≤ 60); omega), show n3 = 0 by omega]
def g_240w_s_0 : vG := ([(0, [3], [], 0), (42, [1, 2], [], 0), (0, [2], [], 1), (6000, [0, 1], [0], 0), (0, [0], [], 285), (90, [1], [], -2147483648), (91, [1], [], 2147483647)], (3000, [3], [0], 27))
theorem c_240w_s_0 : vOkm T0 (eN e_240 L_240w A_240 mu_240 n_240 B_240 none) 2 g_240w_s_0 := vOk_inI fun ρ η f0 f1 f2 f3 f4 f5 f6 => q_240w_0 (n0 := ρ 1) (n1 := ρ 0) (n2 := ρ 2) (n3 := ρ 3) (H0 := η 0) f6 f5 f4 f3 f2 f1 f0
theorem q_240w_1 {n0 n1 n2 n3 n4 : Int} {H0 : gH} (f0 : n0 ≤ 2147483647) (f1 : (-2147483648) ≤ n0) (f2 : n1 = 285) (f3 : hWt T0 H0 ∧ True) (f4 : n2 = 1) (f5 : n2 ≤ n0) (f6 : n3 = 60) (f7 : n3 < n0) (f8 : n4 = 0) : nb_240 n4 n1 n0 H0 H0 := by
  unfold nb_240
  intro ir mt
  obtain ⟨mf, ms, me, m5, m6, m7, mz⟩ := MTr mt
  refine ⟨ir, ?_⟩
  rw [show mReel n0 (mR H0) = _ from if_neg (by show ¬ (hV H0 285 18 = 0 ∧ hV H0 285 60 ≤ 1 ∧ 1 ≤ n0 ∧ n0 ≤ 60); omega), show n4 = 0 by omega]
def g_240w_s_1 : vG := ([(0, [4], [], 0), (44, [1, 3], [], 0), (0, [3], [], 60), (43, [1, 2], [], 0), (0, [2], [], 1), (6000, [0, 1], [0], 0), (0, [0], [], 285), (90, [1], [], -2147483648), (91, [1], [], 2147483647)], (3000, [4], [0], 27))
theorem c_240w_s_1 : vOkm T0 (eN e_240 L_240w A_240 mu_240 n_240 B_240 none) 2 g_240w_s_1 := vOk_inI fun ρ η f0 f1 f2 f3 f4 f5 f6 f7 f8 => q_240w_1 (n0 := ρ 1) (n1 := ρ 0) (n2 := ρ 2) (n3 := ρ 3) (n4 := ρ 4) (H0 := η 0) f8 f7 f6 f5 f4 f3 f2 f1 f0
theorem q_240w_2 {n0 n1 n2 n3 n4 n5 : Int} {H0 : gH} (f0 : n0 ≤ 2147483647) (f1 : (-2147483648) ≤ n0) (f2 : n1 = 285) (f3 : hWt T0 H0 ∧ True) (f4 : n2 = 1) (f5 : n2 ≤ n0) (f6 : n3 = 60) (f7 : n0 ≤ n3) (f8 : n4 ≤ 8) (f9 : 0 ≤ n4) (f10 : hK H0 (n1).toNat = 12) (f11 : n4 = hV H0 (n1).toNat 18) (f12 : 0 < n4) (f13 : n5 = 0) : nb_240 n5 n1 n0 H0 H0 := by
  unfold nb_240
  intro ir mt
  obtain ⟨mf, ms, me, m5, m6, m7, mz⟩ := MTr mt
  have d11 := rdS (q := 285) f11 f2
  refine ⟨ir, ?_⟩
  rw [show mReel n0 (mR H0) = _ from if_neg (by show ¬ (hV H0 285 18 = 0 ∧ hV H0 285 60 ≤ 1 ∧ 1 ≤ n0 ∧ n0 ≤ 60); omega), show n5 = 0 by omega]
def g_240w_s_2 : vG := ([(0, [5], [], 0), (34, [4], [], 0), (20, [4, 0], [0], 18), (23, [0], [0], 12), (90, [4], [], 0), (91, [4], [], 8), (45, [1, 3], [], 0), (0, [3], [], 60), (43, [1, 2], [], 0), (0, [2], [], 1), (6000, [0, 1], [0], 0), (0, [0], [], 285), (90, [1], [], -2147483648), (91, [1], [], 2147483647)], (3000, [5], [0], 27))
theorem c_240w_s_2 : vOkm T0 (eN e_240 L_240w A_240 mu_240 n_240 B_240 none) 2 g_240w_s_2 := vOk_inI fun ρ η f0 f1 f2 f3 f4 f5 f6 f7 f8 f9 f10 f11 f12 f13 => q_240w_2 (n0 := ρ 1) (n1 := ρ 0) (n2 := ρ 2) (n3 := ρ 3) (n4 := ρ 4) (n5 := ρ 5) (H0 := η 0) f13 f12 f11 f10 f9 f8 f7 f6 f5 f4 f3 f2 f1 f0
theorem q_240w_3 {n0 n1 n2 n3 n4 n5 n6 n7 n8 n9 : Int} {H0 H1 : gH} (f0 : n0 ≤ 2147483647) (f1 : (-2147483648) ≤ n0) (f2 : n1 = 285) (f3 : hWt T0 H0 ∧ True) (f4 : n2 = 1) (f5 : n2 ≤ n0) (f6 : n3 = 60) (f7 : n0 ≤ n3) (f8 : n4 ≤ 8) (f9 : 0 ≤ n4) (f10 : hK H0 (n1).toNat = 12) (f11 : n4 = hV H0 (n1).toNat 18) (f12 : n4 ≤ 0) (f13 : n5 ≤ 6) (f14 : 1 ≤ n5) (f15 : hK H0 (n1).toNat = 12) (f16 : n5 = hV H0 (n1).toNat 60) (f17 : n6 = 1) (f18 : n5 ≤ n6) (f19 : n7 = 325) (f20 : hK H0 (n1).toNat = 12) (f21 : n7 = hV H0 (n1).toNat 61) (f22 : n8 = 0) (f23 : hK H0 (n7).toNat = 428) (f24 : hUpd H1 H0 n7 n8 n0) (f25 : n9 = 1) : nb_240 n9 n1 n0 H0 H1 := by
  unfold nb_240
  intro ir mt
  obtain ⟨mf, ms, me, m5, m6, m7, mz⟩ := MTr mt
  have d11 := rdS (q := 285) f11 f2
  have d16 := rdS (q := 285) f16 f2
  have c2 : hV H1 285 2 = hV H0 285 2 := uPlace f24 285 2 (by rw [f19]; decide)
  have c17 : hV H1 285 17 = hV H0 285 17 := uPlace f24 285 17 (by rw [f19]; decide)
  have c18 : hV H1 285 18 = hV H0 285 18 := uPlace f24 285 18 (by rw [f19]; decide)
  have c60 : hV H1 285 60 = hV H0 285 60 := uPlace f24 285 60 (by rw [f19]; decide)
  have r286 : hV H1 286 = hV H0 286 := uRowNe f24 286 (by rw [f19]; decide)
  have r326 : hV H1 326 = hV H0 326 := uRowNe f24 326 (by rw [f19]; decide)
  have r327 : hV H1 327 = hV H0 327 := uRowNe f24 327 (by rw [f19]; decide)
  have r293 : hV H1 293 = hV H0 293 := uRowNe f24 293 (by rw [f19]; decide)
  have r325 := uRowQ f24 325 f19
  rw [f22] at r325
  refine ⟨IRm_same c18 c60 r293 ir, ?_⟩
  rw [mR_mk (a := H0) c2 (BT_same r286) c17 c18 c60 r325 r326 r327 (tdR_same c18 c60 r293), show mReel n0 (mR H0) = _ from if_pos (by show hV H0 285 18 = 0 ∧ hV H0 285 60 ≤ 1 ∧ 1 ≤ n0 ∧ n0 ≤ 60; omega), show n9 = 1 by omega]
  rfl
def g_240w_s_3 : vG := ([(0, [9], [], 1), (80, [7, 8, 1], [1, 0], 0), (23, [7], [0], 428), (0, [8], [], 0), (20, [7, 0], [0], 61), (23, [0], [0], 12), (0, [7], [], 325), (45, [5, 6], [], 0), (0, [6], [], 1), (20, [5, 0], [0], 60), (23, [0], [0], 12), (90, [5], [], 1), (91, [5], [], 6), (35, [4], [], 0), (20, [4, 0], [0], 18), (23, [0], [0], 12), (90, [4], [], 0), (91, [4], [], 8), (45, [1, 3], [], 0), (0, [3], [], 60), (43, [1, 2], [], 0), (0, [2], [], 1), (6000, [0, 1], [0], 0), (0, [0], [], 285), (90, [1], [], -2147483648), (91, [1], [], 2147483647)], (3000, [9], [1], 36))
theorem c_240w_s_3 : vOkm T0 (eN e_240 L_240w A_240 mu_240 n_240 B_240 none) 2 g_240w_s_3 := vOk_inI fun ρ η f0 f1 f2 f3 f4 f5 f6 f7 f8 f9 f10 f11 f12 f13 f14 f15 f16 f17 f18 f19 f20 f21 f22 f23 f24 f25 => q_240w_3 (n0 := ρ 1) (n1 := ρ 0) (n2 := ρ 2) (n3 := ρ 3) (n4 := ρ 4) (n5 := ρ 5) (n6 := ρ 6) (n7 := ρ 7) (n8 := ρ 8) (n9 := ρ 9) (H0 := η 0) (H1 := η 1) f25 f24 f23 f22 f21 f20 f19 f18 f17 f16 f15 f14 f13 f12 f11 f10 f9 f8 f7 f6 f5 f4 f3 f2 f1 f0
theorem q_240w_4 {n0 n1 n2 n3 n4 n5 n6 n7 : Int} {H0 : gH} (f0 : n0 ≤ 2147483647) (f1 : (-2147483648) ≤ n0) (f2 : n1 = 285) (f3 : hWt T0 H0 ∧ True) (f4 : n2 = 1) (f5 : n2 ≤ n0) (f6 : n3 = 60) (f7 : n0 ≤ n3) (f8 : n4 ≤ 8) (f9 : 0 ≤ n4) (f10 : hK H0 (n1).toNat = 12) (f11 : n4 = hV H0 (n1).toNat 18) (f12 : n4 ≤ 0) (f13 : n5 ≤ 6) (f14 : 1 ≤ n5) (f15 : hK H0 (n1).toNat = 12) (f16 : n5 = hV H0 (n1).toNat 60) (f17 : n6 = 1) (f18 : n6 < n5) (f19 : n7 = 0) : nb_240 n7 n1 n0 H0 H0 := by
  unfold nb_240
  intro ir mt
  obtain ⟨mf, ms, me, m5, m6, m7, mz⟩ := MTr mt
  have d11 := rdS (q := 285) f11 f2
  have d16 := rdS (q := 285) f16 f2
  refine ⟨ir, ?_⟩
  rw [show mReel n0 (mR H0) = _ from if_neg (by show ¬ (hV H0 285 18 = 0 ∧ hV H0 285 60 ≤ 1 ∧ 1 ≤ n0 ∧ n0 ≤ 60); omega), show n7 = 0 by omega]
def g_240w_s_4 : vG := ([(0, [7], [], 0), (44, [5, 6], [], 0), (0, [6], [], 1), (20, [5, 0], [0], 60), (23, [0], [0], 12), (90, [5], [], 1), (91, [5], [], 6), (35, [4], [], 0), (20, [4, 0], [0], 18), (23, [0], [0], 12), (90, [4], [], 0), (91, [4], [], 8), (45, [1, 3], [], 0), (0, [3], [], 60), (43, [1, 2], [], 0), (0, [2], [], 1), (6000, [0, 1], [0], 0), (0, [0], [], 285), (90, [1], [], -2147483648), (91, [1], [], 2147483647)], (3000, [7], [0], 27))
theorem c_240w_s_4 : vOkm T0 (eN e_240 L_240w A_240 mu_240 n_240 B_240 none) 2 g_240w_s_4 := vOk_inI fun ρ η f0 f1 f2 f3 f4 f5 f6 f7 f8 f9 f10 f11 f12 f13 f14 f15 f16 f17 f18 f19 => q_240w_4 (n0 := ρ 1) (n1 := ρ 0) (n2 := ρ 2) (n3 := ρ 3) (n4 := ρ 4) (n5 := ρ 5) (n6 := ρ 6) (n7 := ρ 7) (H0 := η 0) f19 f18 f17 f16 f15 f14 f13 f12 f11 f10 f9 f8 f7 f6 f5 f4 f3 f2 f1 f0
def p_240w_s : List vG := [g_240w_s_0,
  g_240w_s_1,
  g_240w_s_2,
  g_240w_s_3,
  g_240w_s_4]
theorem r_240w_s : vCovBO (eR0 e_240 L_240 cs_240 2000) p_240w_s = true := by decide +kernel
theorem m_240w (d : Nat) : eC e_240w (d + 1) := eC_ref (e := e_240) (L := L_240) (L' := L_240w) (cs := cs_240) (n := 2000) (d := d + 0) (A := A_240) (μ := mu_240) (tp := true) (p0 := p_240_s) (p1 := p_240w_s) (N := n_240) (B := B_240) rfl trivial rfl (.inr pre0_ok) (by decide +kernel) (fun _ => post0_ok) r_240_s (allC c_240_s_0 (allC c_240_s_1 allN)) allN trivial r_240w_s (allC c_240w_s_0 (allC c_240w_s_1 (allC c_240w_s_2 (allC c_240w_s_3 (allC c_240w_s_4 allN))))) allN
/- MixStageModel.edition ()I, more fully -/
def nb_241 (r a0 : Int) (h0 h : gH) : Prop := IRm h0 → MT (mR h0) → IRm h ∧ (mR h, r) = mBegin (mR h0)
def n_241 : List Int → gH → gH → Prop := fun xs h0 h => match xs with
  | [r, a0] => nb_241 r a0 h0 h
  | _ => True
noncomputable def e_241w : vE := eV e_241 n_241
noncomputable def L_241w : List vE := []
def B_241 : Int → List Int → gH → gH → Prop := fun c xs h0 h => True
theorem q_241w_0 {n0 n1 n2 n3 : Int} {H0 : gH} (f0 : n0 = 285) (f1 : hWt T0 H0 ∧ True) (f2 : n1 ≤ 6) (f3 : 1 ≤ n1) (f4 : hK H0 (n0).toNat = 12) (f5 : n1 = hV H0 (n0).toNat 60) (f6 : n2 = 6) (f7 : n1 = n2) (f8 : n3 = (-1)) : nb_241 n3 n0 H0 H0 := by
  unfold nb_241
  intro ir mt
  obtain ⟨mf, ms, me, m5, m6, m7, mz⟩ := MTr mt
  have d5 := rdS (q := 285) f5 f0
  refine ⟨ir, ?_⟩
  rw [show mBegin (mR H0) = _ from if_pos (by show 6 ≤ hV H0 285 60 ∨ hV H0 325 (hV H0 285 60 - 1).toNat = 0; omega), show n3 = -1 by omega]
def g_241w_s_0 : vG := ([(0, [3], [], -1), (40, [1, 2], [], 0), (0, [2], [], 6), (20, [1, 0], [0], 60), (23, [0], [0], 12), (90, [1], [], 1), (91, [1], [], 6), (6000, [0], [0], 0), (0, [0], [], 285)], (3000, [3], [0], 24))
theorem c_241w_s_0 : vOkm T0 (eN e_241 L_241w A_241 mu_241 n_241 B_241 none) 1 g_241w_s_0 := vOk_inI fun ρ η f0 f1 f2 f3 f4 f5 f6 f7 f8 => q_241w_0 (n0 := ρ 0) (n1 := ρ 1) (n2 := ρ 2) (n3 := ρ 3) (H0 := η 0) f8 f7 f6 f5 f4 f3 f2 f1 f0
theorem q_241w_1 {n0 n1 n2 n3 n4 n5 n6 n7 n8 n9 n10 n11 n12 n13 n14 n15 n16 n17 n18 n19 n20 : Int} {H0 H1 H2 H3 : gH} (f0 : n0 = 285) (f1 : hWt T0 H0 ∧ True) (f2 : n1 ≤ 6) (f3 : 1 ≤ n1) (f4 : hK H0 (n0).toNat = 12) (f5 : n1 = hV H0 (n0).toNat 60) (f6 : n2 = 6) (f7 : n1 ≠ n2) (f8 : n3 = 325) (f9 : hK H0 (n0).toNat = 12) (f10 : n3 = hV H0 (n0).toNat 61) (f11 : n4 ≤ 6) (f12 : 1 ≤ n4) (f13 : hK H0 (n0).toNat = 12) (f14 : n4 = hV H0 (n0).toNat 60) (f15 : n5 = 1) (f16 : n6 = w32 (n4 - n5)) (f17 : n7 ≤ 60) (f18 : 0 ≤ n7) (f19 : n7 = hV H0 (n3).toNat (n6).toNat) (f20 : n7 ≠ 0) (f21 : n8 = 325) (f22 : hK H0 (n0).toNat = 12) (f23 : n8 = hV H0 (n0).toNat 61) (f24 : n9 ≤ 6) (f25 : 1 ≤ n9) (f26 : hK H0 (n0).toNat = 12) (f27 : n9 = hV H0 (n0).toNat 60) (f28 : n10 = 0) (f29 : hK H0 (n8).toNat = 428) (f30 : hUpd H1 H0 n8 n9 n10) (f31 : n11 = 326) (f32 : hK H1 (n0).toNat = 12) (f33 : n11 = hV H1 (n0).toNat 62) (f34 : n12 ≤ 6) (f35 : 1 ≤ n12) (f36 : hK H1 (n0).toNat = 12) (f37 : n12 = hV H1 (n0).toNat 60) (f38 : n13 = 0) (f39 : hK H1 (n11).toNat = 436) (f40 : hUpd H2 H1 n11 n12 n13) (f41 : n14 ≤ 6) (f42 : 1 ≤ n14) (f43 : hK H2 (n0).toNat = 12) (f44 : n14 = hV H2 (n0).toNat 60) (f45 : n15 = 1) (f46 : n16 = w32 (n14 + n15)) (f47 : hK H2 (n0).toNat = 12) (f48 : n17 = 60) (f49 : hUpd H3 H2 n0 n17 n16) (f50 : n18 ≤ 6) (f51 : 1 ≤ n18) (f52 : hK H3 (n0).toNat = 12) (f53 : n18 = hV H3 (n0).toNat 60) (f54 : n19 = 1) (f55 : n20 = w32 (n18 - n19)) : nb_241 n20 n0 H0 H3 := by
  unfold nb_241
  intro ir mt
  obtain ⟨mf, ms, me, m5, m6, m7, mz⟩ := MTr mt
  have d5 := rdS (q := 285) f5 f0
  have d14 := rdS (q := 285) f14 f0
  have d19 := rdW (q := 325) f19 f8
  have d27 := rdS (q := 285) f27 f0
  have d37 := rdS (q := 285) f37 f0
  have d44 := rdS (q := 285) f44 f0
  have d53 := rdS (q := 285) f53 f0
  have kH1 : hV H1 285 60 = hV H0 285 60 := uPlace f30 285 60 (by rw [f21]; decide)
  have kH2 : hV H2 285 60 = hV H0 285 60 := (uPlace f40 285 60 (by rw [f31]; decide)).trans (uPlace f30 285 60 (by rw [f21]; decide))
  have kH3 : hV H3 285 60 = n16 := uSame f49 285 60 (by rw [f0]; rfl) (by rw [f48]; rfl)
  have e_16 : n6 = n4 - (1) := by
    have w := f16
    rw [f15] at w
    rw [w]
    exact w32_id (by omega) (by omega)
  have e_46 : n16 = n14 + (1) := by
    have w := f46
    rw [f45] at w
    rw [w]
    exact w32_id (by omega) (by omega)
  have e_55 : n20 = n18 - (1) := by
    have w := f55
    rw [f54] at w
    rw [w]
    exact w32_id (by omega) (by omega)
  rw [show (n6).toNat = (hV H0 285 60 - 1).toNat by omega] at d19
  have c2 : hV H3 285 2 = hV H0 285 2 := (uSlot f49 285 2 (by rw [f48]; decide)).trans ((uPlace f40 285 2 (by rw [f31]; decide)).trans (uPlace f30 285 2 (by rw [f21]; decide)))
  have c17 : hV H3 285 17 = hV H0 285 17 := (uSlot f49 285 17 (by rw [f48]; decide)).trans ((uPlace f40 285 17 (by rw [f31]; decide)).trans (uPlace f30 285 17 (by rw [f21]; decide)))
  have c18 : hV H3 285 18 = hV H0 285 18 := (uSlot f49 285 18 (by rw [f48]; decide)).trans ((uPlace f40 285 18 (by rw [f31]; decide)).trans (uPlace f30 285 18 (by rw [f21]; decide)))
  have r286 : hV H3 286 = hV H0 286 := (uRowNe f49 286 (by rw [f0]; decide)).trans ((uRowNe f40 286 (by rw [f31]; decide)).trans (uRowNe f30 286 (by rw [f21]; decide)))
  have r327 : hV H3 327 = hV H0 327 := (uRowNe f49 327 (by rw [f0]; decide)).trans ((uRowNe f40 327 (by rw [f31]; decide)).trans (uRowNe f30 327 (by rw [f21]; decide)))
  have r293 : hV H3 293 = hV H0 293 := (uRowNe f49 293 (by rw [f0]; decide)).trans ((uRowNe f40 293 (by rw [f31]; decide)).trans (uRowNe f30 293 (by rw [f21]; decide)))
  have w325 := uRowQ f30 325 f21
  rw [show hV H0 325 = hV H0 325 from rfl] at w325
  have r325 : hV H3 325 = hV H0 325 := ((uRowNe f49 325 (by rw [f0]; decide)).trans (uRowNe f40 325 (by rw [f31]; decide))).trans (w325.trans (uF_0 (fun j hj => by have := mz j (by omega); omega)))
  have w326 := uRowQ f40 326 f31
  rw [show hV H1 326 = hV H0 326 from uRowNe f30 326 (by rw [f21]; decide)] at w326
  have r326 : hV H3 326 = hV H0 326 := (uRowNe f49 326 (by rw [f0]; decide)).trans (w326.trans (uF_0 (fun j hj => by have := mz j (by omega); omega)))
  have c60 : hV H3 285 60 = hV H0 285 60 + 1 := by omega
  have ir2 : IRm H3 := fun z hz => by
    rw [r293, c60]
    have := ir z (by rw [c18] at hz; exact hz)
    omega
  have td : tdR H3 = 0 := tdR_0 (fun z hz c => by
    rw [r293, c60] at c
    have := ir z (by rw [c18] at hz; exact hz)
    omega)
  refine ⟨ir2, ?_⟩
  rw [mR_mk (a := H0) c2 (BT_same r286) c17 c18 c60 r325 r326 r327 td, show mBegin (mR H0) = _ from if_neg (by show ¬ (6 ≤ hV H0 285 60 ∨ hV H0 325 (hV H0 285 60 - 1).toNat = 0); omega)]
  exact Prod.ext rfl (by show n20 = hV H0 285 60; omega)
def g_241w_s_1 : vG := ([(2, [20, 18, 19], [], 0), (0, [19], [], 1), (20, [18, 0], [3], 60), (23, [0], [3], 12), (90, [18], [], 1), (91, [18], [], 6), (80, [0, 17, 16], [3, 2], 0), (0, [17], [], 60), (23, [0], [2], 12), (1, [16, 14, 15], [], 0), (0, [15], [], 1), (20, [14, 0], [2], 60), (23, [0], [2], 12), (90, [14], [], 1), (91, [14], [], 6), (80, [11, 12, 13], [2, 1], 0), (23, [11], [1], 436), (0, [13], [], 0), (20, [12, 0], [1], 60), (23, [0], [1], 12), (90, [12], [], 1), (91, [12], [], 6), (20, [11, 0], [1], 62), (23, [0], [1], 12), (0, [11], [], 326), (80, [8, 9, 10], [1, 0], 0), (23, [8], [0], 428), (0, [10], [], 0), (20, [9, 0], [0], 60), (23, [0], [0], 12), (90, [9], [], 1), (91, [9], [], 6), (20, [8, 0], [0], 61), (23, [0], [0], 12), (0, [8], [], 325), (31, [7], [], 0), (22, [7, 3, 6], [0], 0), (90, [7], [], 0), (91, [7], [], 60), (2, [6, 4, 5], [], 0), (0, [5], [], 1), (20, [4, 0], [0], 60), (23, [0], [0], 12), (90, [4], [], 1), (91, [4], [], 6), (20, [3, 0], [0], 61), (23, [0], [0], 12), (0, [3], [], 325), (41, [1, 2], [], 0), (0, [2], [], 6), (20, [1, 0], [0], 60), (23, [0], [0], 12), (90, [1], [], 1), (91, [1], [], 6), (6000, [0], [0], 0), (0, [0], [], 285)], (3000, [20], [3], 61))
theorem c_241w_s_1 : vOkm T0 (eN e_241 L_241w A_241 mu_241 n_241 B_241 none) 1 g_241w_s_1 := vOk_inI fun ρ η f0 f1 f2 f3 f4 f5 f6 f7 f8 f9 f10 f11 f12 f13 f14 f15 f16 f17 f18 f19 f20 f21 f22 f23 f24 f25 f26 f27 f28 f29 f30 f31 f32 f33 f34 f35 f36 f37 f38 f39 f40 f41 f42 f43 f44 f45 f46 f47 f48 f49 f50 f51 f52 f53 f54 f55 => q_241w_1 (n0 := ρ 0) (n1 := ρ 1) (n2 := ρ 2) (n3 := ρ 3) (n4 := ρ 4) (n5 := ρ 5) (n6 := ρ 6) (n7 := ρ 7) (n8 := ρ 8) (n9 := ρ 9) (n10 := ρ 10) (n11 := ρ 11) (n12 := ρ 12) (n13 := ρ 13) (n14 := ρ 14) (n15 := ρ 15) (n16 := ρ 16) (n17 := ρ 17) (n18 := ρ 18) (n19 := ρ 19) (n20 := ρ 20) (H0 := η 0) (H1 := η 1) (H2 := η 2) (H3 := η 3) f55 f54 f53 f52 f51 f50 f49 f48 f47 f46 f45 f44 f43 f42 f41 f40 f39 f38 f37 f36 f35 f34 f33 f32 f31 f30 f29 f28 f27 f26 f25 f24 f23 f22 f21 f20 f19 f18 f17 f16 f15 f14 f13 f12 f11 f10 f9 f8 f7 f6 f5 f4 f3 f2 f1 f0
theorem q_241w_2 {n0 n1 n2 n3 n4 n5 n6 n7 n8 : Int} {H0 : gH} (f0 : n0 = 285) (f1 : hWt T0 H0 ∧ True) (f2 : n1 ≤ 6) (f3 : 1 ≤ n1) (f4 : hK H0 (n0).toNat = 12) (f5 : n1 = hV H0 (n0).toNat 60) (f6 : n2 = 6) (f7 : n1 ≠ n2) (f8 : n3 = 325) (f9 : hK H0 (n0).toNat = 12) (f10 : n3 = hV H0 (n0).toNat 61) (f11 : n4 ≤ 6) (f12 : 1 ≤ n4) (f13 : hK H0 (n0).toNat = 12) (f14 : n4 = hV H0 (n0).toNat 60) (f15 : n5 = 1) (f16 : n6 = w32 (n4 - n5)) (f17 : n7 ≤ 60) (f18 : 0 ≤ n7) (f19 : n7 = hV H0 (n3).toNat (n6).toNat) (f20 : n7 = 0) (f21 : n8 = (-1)) : nb_241 n8 n0 H0 H0 := by
  unfold nb_241
  intro ir mt
  obtain ⟨mf, ms, me, m5, m6, m7, mz⟩ := MTr mt
  have d5 := rdS (q := 285) f5 f0
  have d14 := rdS (q := 285) f14 f0
  have d19 := rdW (q := 325) f19 f8
  have e_16 : n6 = n4 - (1) := by
    have w := f16
    rw [f15] at w
    rw [w]
    exact w32_id (by omega) (by omega)
  rw [show (n6).toNat = (hV H0 285 60 - 1).toNat by omega] at d19
  refine ⟨ir, ?_⟩
  rw [show mBegin (mR H0) = _ from if_pos (by show 6 ≤ hV H0 285 60 ∨ hV H0 325 (hV H0 285 60 - 1).toNat = 0; omega), show n8 = -1 by omega]
def g_241w_s_2 : vG := ([(0, [8], [], -1), (30, [7], [], 0), (22, [7, 3, 6], [0], 0), (90, [7], [], 0), (91, [7], [], 60), (2, [6, 4, 5], [], 0), (0, [5], [], 1), (20, [4, 0], [0], 60), (23, [0], [0], 12), (90, [4], [], 1), (91, [4], [], 6), (20, [3, 0], [0], 61), (23, [0], [0], 12), (0, [3], [], 325), (41, [1, 2], [], 0), (0, [2], [], 6), (20, [1, 0], [0], 60), (23, [0], [0], 12), (90, [1], [], 1), (91, [1], [], 6), (6000, [0], [0], 0), (0, [0], [], 285)], (3000, [8], [0], 24))
theorem c_241w_s_2 : vOkm T0 (eN e_241 L_241w A_241 mu_241 n_241 B_241 none) 1 g_241w_s_2 := vOk_inI fun ρ η f0 f1 f2 f3 f4 f5 f6 f7 f8 f9 f10 f11 f12 f13 f14 f15 f16 f17 f18 f19 f20 f21 => q_241w_2 (n0 := ρ 0) (n1 := ρ 1) (n2 := ρ 2) (n3 := ρ 3) (n4 := ρ 4) (n5 := ρ 5) (n6 := ρ 6) (n7 := ρ 7) (n8 := ρ 8) (H0 := η 0) f21 f20 f19 f18 f17 f16 f15 f14 f13 f12 f11 f10 f9 f8 f7 f6 f5 f4 f3 f2 f1 f0
def p_241w_s : List vG := [g_241w_s_0,
  g_241w_s_1,
  g_241w_s_2]
theorem r_241w_s : vCovBO (eR0 e_241 L_241 cs_241 2000) p_241w_s = true := by decide +kernel
theorem m_241w (d : Nat) : eC e_241w (d + 1) := eC_ref (e := e_241) (L := L_241) (L' := L_241w) (cs := cs_241) (n := 2000) (d := d + 0) (A := A_241) (μ := mu_241) (tp := true) (p0 := p_241_s) (p1 := p_241w_s) (N := n_241) (B := B_241) rfl trivial rfl (.inr pre0_ok) (by decide +kernel) (fun _ => post0_ok) r_241_s (allC c_241_s_0 (allC c_241_s_1 (allC c_241_s_2 (allC c_241_s_3 (allC c_241_s_4 allN))))) allN trivial r_241w_s (allC c_241w_s_0 (allC c_241w_s_1 (allC c_241w_s_2 allN))) allN
/- MixStageModel.mayCut (I)Z, more fully -/
def nb_242 (r a0 a1 : Int) (h0 h : gH) : Prop := MT (mR h0) → (r = 0 ∧ (hV h0 285 60 - 1 = 0 ∨ tdR h0 = 1 ∨ 10 ≤ hV h0 326 (hV h0 285 60 - 1).toNat ∨ 60 - hV h0 325 (hV h0 285 60 - 1).toNat < a1)) ∨ (r = 1 ∧ ¬ (hV h0 285 60 - 1 = 0 ∨ tdR h0 = 1 ∨ 10 ≤ hV h0 326 (hV h0 285 60 - 1).toNat ∨ 60 - hV h0 325 (hV h0 285 60 - 1).toNat < a1))
def n_242 : List Int → gH → gH → Prop := fun xs h0 h => match xs with
  | [r, a0, a1] => nb_242 r a0 a1 h0 h
  | _ => True
noncomputable def e_242w : vE := eV e_242 n_242
noncomputable def L_242w : List vE := []
def Bb_242_39 (a0 a1 x0 x1 x2 x3 : Int) (h0 h : gH) : Prop := ∀ s : Nat, (s : Int) < x3 → ¬ hV h0 293 s = x2
def B_242 : Int → List Int → gH → gH → Prop := fun c xs h0 h => match c.toNat with
  | 39 => (match xs with
    | [a0, a1, x0, x1, x2, x3] => Bb_242_39 a0 a1 x0 x1 x2 x3 h0 h
    | _ => False)
  | _ => True
theorem q_242w_0 {n0 n1 n2 n3 n4 n5 : Int} {H0 : gH} (f0 : n0 ≤ 60) (f1 : 0 ≤ n0) (f2 : n1 = 285) (f3 : hWt T0 H0 ∧ True) (f4 : n2 ≤ 6) (f5 : 1 ≤ n2) (f6 : hK H0 (n1).toNat = 12) (f7 : n2 = hV H0 (n1).toNat 60) (f8 : n3 = 1) (f9 : n4 = w32 (n2 - n3)) (f10 : n4 = 0) (f11 : n5 = 0) : nb_242 n5 n1 n0 H0 H0 := by
  have d7 := rdS (q := 285) f7 f2
  unfold nb_242
  intro mt
  obtain ⟨mf, ms, me, m5, m6, m7, mz⟩ := MTr mt
  have e_9 : n4 = n2 - (1) := by
    have w := f9
    rw [f8] at w
    rw [w]
    exact w32_id (by omega) (by omega)
  refine .inl ⟨by omega, ?_⟩
  first
  | exact .inl (by omega)
  | exact .inr (.inr (by omega))
def g_242w_s_0 : vG := ([(0, [5], [], 0), (30, [4], [], 0), (2, [4, 2, 3], [], 0), (0, [3], [], 1), (20, [2, 0], [0], 60), (23, [0], [0], 12), (90, [2], [], 1), (91, [2], [], 6), (6000, [0, 1], [0], 0), (0, [0], [], 285), (90, [1], [], 0), (91, [1], [], 60)], (3000, [5], [0], 36))
theorem c_242w_s_0 : vOkm T0 (eN e_242 L_242w A_242 mu_242 n_242 B_242 none) 2 g_242w_s_0 := vOk_inI fun ρ η f0 f1 f2 f3 f4 f5 f6 f7 f8 f9 f10 f11 => q_242w_0 (n0 := ρ 1) (n1 := ρ 0) (n2 := ρ 2) (n3 := ρ 3) (n4 := ρ 4) (n5 := ρ 5) (H0 := η 0) f11 f10 f9 f8 f7 f6 f5 f4 f3 f2 f1 f0
theorem q_242w_1 {n0 n1 n2 n3 n4 n5 n6 n7 n8 : Int} {H0 : gH} (f0 : n0 ≤ 60) (f1 : 0 ≤ n0) (f2 : n1 = 285) (f3 : hWt T0 H0 ∧ True) (f4 : n2 ≤ 6) (f5 : 1 ≤ n2) (f6 : hK H0 (n1).toNat = 12) (f7 : n2 = hV H0 (n1).toNat 60) (f8 : n3 = 1) (f9 : n4 = w32 (n2 - n3)) (f10 : n4 ≠ 0) (f11 : n5 = 326) (f12 : hK H0 (n1).toNat = 12) (f13 : n5 = hV H0 (n1).toNat 62) (f14 : n6 ≤ 10) (f15 : 0 ≤ n6) (f16 : n6 = hV H0 (n5).toNat (n4).toNat) (f17 : n7 = 10) (f18 : n6 = n7) (f19 : n8 = 0) : nb_242 n8 n1 n0 H0 H0 := by
  have d7 := rdS (q := 285) f7 f2
  have d16 := rdW (q := 326) f16 f11
  unfold nb_242
  intro mt
  obtain ⟨mf, ms, me, m5, m6, m7, mz⟩ := MTr mt
  have e_9 : n4 = n2 - (1) := by
    have w := f9
    rw [f8] at w
    rw [w]
    exact w32_id (by omega) (by omega)
  rw [show (n4).toNat = (hV H0 285 60 - 1).toNat by omega] at d16
  have y16 := m6 (hV H0 285 60 - 1).toNat
  refine .inl ⟨by omega, ?_⟩
  first
  | exact .inl (by omega)
  | exact .inr (.inr (by omega))
def g_242w_s_1 : vG := ([(0, [8], [], 0), (40, [6, 7], [], 0), (0, [7], [], 10), (22, [6, 5, 4], [0], 0), (90, [6], [], 0), (91, [6], [], 10), (20, [5, 0], [0], 62), (23, [0], [0], 12), (0, [5], [], 326), (31, [4], [], 0), (2, [4, 2, 3], [], 0), (0, [3], [], 1), (20, [2, 0], [0], 60), (23, [0], [0], 12), (90, [2], [], 1), (91, [2], [], 6), (6000, [0, 1], [0], 0), (0, [0], [], 285), (90, [1], [], 0), (91, [1], [], 60)], (3000, [8], [0], 36))
theorem c_242w_s_1 : vOkm T0 (eN e_242 L_242w A_242 mu_242 n_242 B_242 none) 2 g_242w_s_1 := vOk_inI fun ρ η f0 f1 f2 f3 f4 f5 f6 f7 f8 f9 f10 f11 f12 f13 f14 f15 f16 f17 f18 f19 => q_242w_1 (n0 := ρ 1) (n1 := ρ 0) (n2 := ρ 2) (n3 := ρ 3) (n4 := ρ 4) (n5 := ρ 5) (n6 := ρ 6) (n7 := ρ 7) (n8 := ρ 8) (H0 := η 0) f19 f18 f17 f16 f15 f14 f13 f12 f11 f10 f9 f8 f7 f6 f5 f4 f3 f2 f1 f0
theorem q_242w_2 {n0 n1 n2 n3 n4 n5 n6 n7 n8 n9 n10 n11 n12 : Int} {H0 : gH} (f0 : n0 ≤ 60) (f1 : 0 ≤ n0) (f2 : n1 = 285) (f3 : hWt T0 H0 ∧ True) (f4 : n2 ≤ 6) (f5 : 1 ≤ n2) (f6 : hK H0 (n1).toNat = 12) (f7 : n2 = hV H0 (n1).toNat 60) (f8 : n3 = 1) (f9 : n4 = w32 (n2 - n3)) (f10 : n4 ≠ 0) (f11 : n5 = 326) (f12 : hK H0 (n1).toNat = 12) (f13 : n5 = hV H0 (n1).toNat 62) (f14 : n6 ≤ 10) (f15 : 0 ≤ n6) (f16 : n6 = hV H0 (n5).toNat (n4).toNat) (f17 : n7 = 10) (f18 : n6 ≠ n7) (f19 : n8 = 325) (f20 : hK H0 (n1).toNat = 12) (f21 : n8 = hV H0 (n1).toNat 61) (f22 : n9 ≤ 60) (f23 : 0 ≤ n9) (f24 : n9 = hV H0 (n8).toNat (n4).toNat) (f25 : n10 = w32 (n9 + n0)) (f26 : n11 = 60) (f27 : n10 ≤ n11) (f28 : n12 = 0) : Bb_242_39 n1 n0 n1 n0 n4 n12 H0 H0 := by
  unfold Bb_242_39
  intro z hz
  omega
def g_242w_s_2 : vG := ([(0, [12], [], 0), (45, [10, 11], [], 0), (0, [11], [], 60), (1, [10, 9, 1], [], 0), (22, [9, 8, 4], [0], 0), (90, [9], [], 0), (91, [9], [], 60), (20, [8, 0], [0], 61), (23, [0], [0], 12), (0, [8], [], 325), (41, [6, 7], [], 0), (0, [7], [], 10), (22, [6, 5, 4], [0], 0), (90, [6], [], 0), (91, [6], [], 10), (20, [5, 0], [0], 62), (23, [0], [0], 12), (0, [5], [], 326), (31, [4], [], 0), (2, [4, 2, 3], [], 0), (0, [3], [], 1), (20, [2, 0], [0], 60), (23, [0], [0], 12), (90, [2], [], 1), (91, [2], [], 6), (6000, [0, 1], [0], 0), (0, [0], [], 285), (90, [1], [], 0), (91, [1], [], 60)], (4000, [0, 1, 4, 12], [0], 39))
theorem c_242w_s_2 : vOkm T0 (eN e_242 L_242w A_242 mu_242 n_242 B_242 none) 2 g_242w_s_2 := vOk_inI fun ρ η f0 f1 f2 f3 f4 f5 f6 f7 f8 f9 f10 f11 f12 f13 f14 f15 f16 f17 f18 f19 f20 f21 f22 f23 f24 f25 f26 f27 f28 => q_242w_2 (n0 := ρ 1) (n1 := ρ 0) (n2 := ρ 2) (n3 := ρ 3) (n4 := ρ 4) (n5 := ρ 5) (n6 := ρ 6) (n7 := ρ 7) (n8 := ρ 8) (n9 := ρ 9) (n10 := ρ 10) (n11 := ρ 11) (n12 := ρ 12) (H0 := η 0) f28 f27 f26 f25 f24 f23 f22 f21 f20 f19 f18 f17 f16 f15 f14 f13 f12 f11 f10 f9 f8 f7 f6 f5 f4 f3 f2 f1 f0
theorem q_242w_3 {n0 n1 n2 n3 n4 n5 n6 n7 n8 n9 n10 n11 n12 : Int} {H0 : gH} (f0 : n0 ≤ 60) (f1 : 0 ≤ n0) (f2 : n1 = 285) (f3 : hWt T0 H0 ∧ True) (f4 : n2 ≤ 6) (f5 : 1 ≤ n2) (f6 : hK H0 (n1).toNat = 12) (f7 : n2 = hV H0 (n1).toNat 60) (f8 : n3 = 1) (f9 : n4 = w32 (n2 - n3)) (f10 : n4 ≠ 0) (f11 : n5 = 326) (f12 : hK H0 (n1).toNat = 12) (f13 : n5 = hV H0 (n1).toNat 62) (f14 : n6 ≤ 10) (f15 : 0 ≤ n6) (f16 : n6 = hV H0 (n5).toNat (n4).toNat) (f17 : n7 = 10) (f18 : n6 ≠ n7) (f19 : n8 = 325) (f20 : hK H0 (n1).toNat = 12) (f21 : n8 = hV H0 (n1).toNat 61) (f22 : n9 ≤ 60) (f23 : 0 ≤ n9) (f24 : n9 = hV H0 (n8).toNat (n4).toNat) (f25 : n10 = w32 (n9 + n0)) (f26 : n11 = 60) (f27 : n11 < n10) (f28 : n12 = 0) : nb_242 n12 n1 n0 H0 H0 := by
  have d7 := rdS (q := 285) f7 f2
  have d16 := rdW (q := 326) f16 f11
  have d24 := rdW (q := 325) f24 f19
  unfold nb_242
  intro mt
  obtain ⟨mf, ms, me, m5, m6, m7, mz⟩ := MTr mt
  have e_9 : n4 = n2 - (1) := by
    have w := f9
    rw [f8] at w
    rw [w]
    exact w32_id (by omega) (by omega)
  have e_25 : n10 = n9 + n0 := by
    have w := f25
    rw [w]
    exact w32_id (by omega) (by omega)
  rw [show (n4).toNat = (hV H0 285 60 - 1).toNat by omega] at d16
  have y16 := m6 (hV H0 285 60 - 1).toNat
  rw [show (n4).toNat = (hV H0 285 60 - 1).toNat by omega] at d24
  have y24 := m5 (hV H0 285 60 - 1).toNat
  refine .inl ⟨by omega, ?_⟩
  first
  | exact .inl (by omega)
  | exact .inr (.inr (by omega))
def g_242w_s_3 : vG := ([(0, [12], [], 0), (44, [10, 11], [], 0), (0, [11], [], 60), (1, [10, 9, 1], [], 0), (22, [9, 8, 4], [0], 0), (90, [9], [], 0), (91, [9], [], 60), (20, [8, 0], [0], 61), (23, [0], [0], 12), (0, [8], [], 325), (41, [6, 7], [], 0), (0, [7], [], 10), (22, [6, 5, 4], [0], 0), (90, [6], [], 0), (91, [6], [], 10), (20, [5, 0], [0], 62), (23, [0], [0], 12), (0, [5], [], 326), (31, [4], [], 0), (2, [4, 2, 3], [], 0), (0, [3], [], 1), (20, [2, 0], [0], 60), (23, [0], [0], 12), (90, [2], [], 1), (91, [2], [], 6), (6000, [0, 1], [0], 0), (0, [0], [], 285), (90, [1], [], 0), (91, [1], [], 60)], (3000, [12], [0], 36))
theorem c_242w_s_3 : vOkm T0 (eN e_242 L_242w A_242 mu_242 n_242 B_242 none) 2 g_242w_s_3 := vOk_inI fun ρ η f0 f1 f2 f3 f4 f5 f6 f7 f8 f9 f10 f11 f12 f13 f14 f15 f16 f17 f18 f19 f20 f21 f22 f23 f24 f25 f26 f27 f28 => q_242w_3 (n0 := ρ 1) (n1 := ρ 0) (n2 := ρ 2) (n3 := ρ 3) (n4 := ρ 4) (n5 := ρ 5) (n6 := ρ 6) (n7 := ρ 7) (n8 := ρ 8) (n9 := ρ 9) (n10 := ρ 10) (n11 := ρ 11) (n12 := ρ 12) (H0 := η 0) f28 f27 f26 f25 f24 f23 f22 f21 f20 f19 f18 f17 f16 f15 f14 f13 f12 f11 f10 f9 f8 f7 f6 f5 f4 f3 f2 f1 f0
def p_242w_s : List vG := [g_242w_s_0,
  g_242w_s_1,
  g_242w_s_2,
  g_242w_s_3]
theorem r_242w_s : vCovBO (eR0 e_242 L_242 cs_242 2000) p_242w_s = true := by decide +kernel
theorem q_242w_4 {q0 : Nat} {n0 n1 n2 n3 n4 n5 n6 n7 : Int} {H0 H1 : gH} (f0 : n0 ≤ 2147483647) (f1 : (-2147483648) ≤ n0) (f2 : n1 ≤ 2147483647) (f3 : (-2147483648) ≤ n1) (f4 : n2 ≤ 60) (f5 : 0 ≤ n2) (f6 : n3 = 285) (f7 : n4 ≤ 60) (f8 : 0 ≤ n4) (f9 : n5 = 285) (f10 : (hLe T0 H0 H1 ∧ hFr s_242.2.2.2.2 H0 H1 ∧ hWt T0 H1) ∧ ((Ab_242_39 n5 n4 n3 n2 n1 n0 H0 H1 ∧ Bb_242_39 n5 n4 n3 n2 n1 n0 H0 H1) ∧ True) ∧ some q0 = some (mub_242_39 n5 n4 n3 n2 n1 n0 H0 H1)) (f11 : n6 ≤ 8) (f12 : 0 ≤ n6) (f13 : hK H1 (n3).toNat = 12) (f14 : n6 = hV H1 (n3).toNat 18) (f15 : n6 ≤ n0) (f16 : n7 = 1) : nb_242 n7 n5 n4 H0 H1 := by
  have ga := f10.2.1.1.1
  unfold Ab_242_39 at ga
  have gb := f10.2.1.1.2
  unfold Bb_242_39 at gb
  obtain ⟨x1, x2, a1, a2, a3, a4⟩ := ga
  have k60 : hV H1 285 60 = hV H0 285 60 := f10.1.2.1.1 285 60 (by decide +kernel)
  have k18 : hV H1 285 18 = hV H0 285 18 := f10.1.2.1.1 285 18 (by decide +kernel)
  have w325 : hV H1 325 = hV H0 325 := fRow f10.1.2.1 325 (by decide +kernel)
  have w326 : hV H1 326 = hV H0 326 := fRow f10.1.2.1 326 (by decide +kernel)
  have w293 : hV H1 293 = hV H0 293 := fRow f10.1.2.1 293 (by decide +kernel)
  rw [w325] at a3
  rw [w326] at a2
  rw [show (n1).toNat = (hV H0 285 60 - 1).toNat by omega] at a2 a3
  have d14 := rdS (q := 285) f14 f6
  unfold nb_242
  intro mt
  obtain ⟨mf, ms, me, m5, m6, m7, mz⟩ := MTr mt
  have td : tdR H0 = 0 := tdR_0 (fun z hz c => gb z (by omega) (by omega))
  exact .inr ⟨by omega, by rw [td]; omega⟩
def g_242w_39_0 : vG := ([(0, [7], [], 1), (43, [5, 6], [], 0), (20, [6, 2], [1], 18), (23, [2], [1], 12), (90, [6], [], 0), (91, [6], [], 8), (5000, [0, 1, 2, 3, 4, 5], [0, 1], 39), (0, [0], [], 285), (90, [1], [], 0), (91, [1], [], 60), (0, [2], [], 285), (90, [3], [], 0), (91, [3], [], 60), (90, [4], [], -2147483648), (91, [4], [], 2147483647), (90, [5], [], -2147483648), (91, [5], [], 2147483647)], (3000, [7], [1], 66))
theorem c_242w_39_0 {q0 : Nat} : vOkm T0 (eN e_242 L_242w A_242 mu_242 n_242 B_242 (some q0)) 2 g_242w_39_0 := vOk_inI fun ρ η f0 f1 f2 f3 f4 f5 f6 f7 f8 f9 f10 f11 f12 f13 f14 f15 f16 => q_242w_4 (q0 := q0) (n0 := ρ 5) (n1 := ρ 4) (n2 := ρ 3) (n3 := ρ 2) (n4 := ρ 1) (n5 := ρ 0) (n6 := ρ 6) (n7 := ρ 7) (H0 := η 0) (H1 := η 1) f16 f15 f14 f13 f12 f11 f10 f9 f8 f7 f6 f5 f4 f3 f2 f1 f0
theorem q_242w_5 {q0 : Nat} {n0 n1 n2 n3 n4 n5 n6 n7 n8 n9 : Int} {H0 H1 : gH} (f0 : n0 ≤ 2147483647) (f1 : (-2147483648) ≤ n0) (f2 : n1 ≤ 2147483647) (f3 : (-2147483648) ≤ n1) (f4 : n2 ≤ 60) (f5 : 0 ≤ n2) (f6 : n3 = 285) (f7 : n4 ≤ 60) (f8 : 0 ≤ n4) (f9 : n5 = 285) (f10 : (hLe T0 H0 H1 ∧ hFr s_242.2.2.2.2 H0 H1 ∧ hWt T0 H1) ∧ ((Ab_242_39 n5 n4 n3 n2 n1 n0 H0 H1 ∧ Bb_242_39 n5 n4 n3 n2 n1 n0 H0 H1) ∧ True) ∧ some q0 = some (mub_242_39 n5 n4 n3 n2 n1 n0 H0 H1)) (f11 : n6 ≤ 8) (f12 : 0 ≤ n6) (f13 : hK H1 (n3).toNat = 12) (f14 : n6 = hV H1 (n3).toNat 18) (f15 : n0 < n6) (f16 : n7 = 293) (f17 : hK H1 (n3).toNat = 12) (f18 : n7 = hV H1 (n3).toNat 19) (f19 : n8 ≤ 5) (f20 : 0 ≤ n8) (f21 : n8 = hV H1 (n7).toNat (n0).toNat) (f22 : n8 ≠ n1) (f23 : n9 = w32 (n0 + 1)) : Bb_242_39 n5 n4 n3 n2 n1 n9 H0 H1 := by
  have ga := f10.2.1.1.1
  unfold Ab_242_39 at ga
  have gb := f10.2.1.1.2
  unfold Bb_242_39 at gb
  obtain ⟨x1, x2, a1, a2, a3, a4⟩ := ga
  have k60 : hV H1 285 60 = hV H0 285 60 := f10.1.2.1.1 285 60 (by decide +kernel)
  have k18 : hV H1 285 18 = hV H0 285 18 := f10.1.2.1.1 285 18 (by decide +kernel)
  have w325 : hV H1 325 = hV H0 325 := fRow f10.1.2.1 325 (by decide +kernel)
  have w326 : hV H1 326 = hV H0 326 := fRow f10.1.2.1 326 (by decide +kernel)
  have w293 : hV H1 293 = hV H0 293 := fRow f10.1.2.1 293 (by decide +kernel)
  rw [w325] at a3
  rw [w326] at a2
  rw [show (n1).toNat = (hV H0 285 60 - 1).toNat by omega] at a2 a3
  have d14 := rdS (q := 285) f14 f6
  have d21 := rdW (q := 293) f21 f16
  rw [w293] at d21
  have e_23 : n9 = n0 + (1) := by
    have w := f23
    rw [w]
    exact w32_id (by omega) (by omega)
  unfold Bb_242_39
  intro z hz
  rcases Int.lt_or_le (z : Int) n0 with w | w
  · exact gb z w
  · rw [show z = (n0).toNat by omega]
    omega
def g_242w_39_1 : vG := ([(10, [9, 5], [], 1), (41, [8, 4], [], 0), (22, [8, 7, 5], [1], 0), (90, [8], [], 0), (91, [8], [], 5), (20, [7, 2], [1], 19), (23, [2], [1], 12), (0, [7], [], 293), (42, [5, 6], [], 0), (20, [6, 2], [1], 18), (23, [2], [1], 12), (90, [6], [], 0), (91, [6], [], 8), (5000, [0, 1, 2, 3, 4, 5], [0, 1], 39), (0, [0], [], 285), (90, [1], [], 0), (91, [1], [], 60), (0, [2], [], 285), (90, [3], [], 0), (91, [3], [], 60), (90, [4], [], -2147483648), (91, [4], [], 2147483647), (90, [5], [], -2147483648), (91, [5], [], 2147483647)], (4000, [2, 3, 4, 9], [1], 39))
theorem c_242w_39_1 {q0 : Nat} : vOkm T0 (eN e_242 L_242w A_242 mu_242 n_242 B_242 (some q0)) 2 g_242w_39_1 := vOk_inI fun ρ η f0 f1 f2 f3 f4 f5 f6 f7 f8 f9 f10 f11 f12 f13 f14 f15 f16 f17 f18 f19 f20 f21 f22 f23 => q_242w_5 (q0 := q0) (n0 := ρ 5) (n1 := ρ 4) (n2 := ρ 3) (n3 := ρ 2) (n4 := ρ 1) (n5 := ρ 0) (n6 := ρ 6) (n7 := ρ 7) (n8 := ρ 8) (n9 := ρ 9) (H0 := η 0) (H1 := η 1) f23 f22 f21 f20 f19 f18 f17 f16 f15 f14 f13 f12 f11 f10 f9 f8 f7 f6 f5 f4 f3 f2 f1 f0
theorem q_242w_6 {q0 : Nat} {n0 n1 n2 n3 n4 n5 n6 n7 n8 n9 : Int} {H0 H1 : gH} (f0 : n0 ≤ 2147483647) (f1 : (-2147483648) ≤ n0) (f2 : n1 ≤ 2147483647) (f3 : (-2147483648) ≤ n1) (f4 : n2 ≤ 60) (f5 : 0 ≤ n2) (f6 : n3 = 285) (f7 : n4 ≤ 60) (f8 : 0 ≤ n4) (f9 : n5 = 285) (f10 : (hLe T0 H0 H1 ∧ hFr s_242.2.2.2.2 H0 H1 ∧ hWt T0 H1) ∧ ((Ab_242_39 n5 n4 n3 n2 n1 n0 H0 H1 ∧ Bb_242_39 n5 n4 n3 n2 n1 n0 H0 H1) ∧ True) ∧ some q0 = some (mub_242_39 n5 n4 n3 n2 n1 n0 H0 H1)) (f11 : n6 ≤ 8) (f12 : 0 ≤ n6) (f13 : hK H1 (n3).toNat = 12) (f14 : n6 = hV H1 (n3).toNat 18) (f15 : n0 < n6) (f16 : n7 = 293) (f17 : hK H1 (n3).toNat = 12) (f18 : n7 = hV H1 (n3).toNat 19) (f19 : n8 ≤ 5) (f20 : 0 ≤ n8) (f21 : n8 = hV H1 (n7).toNat (n0).toNat) (f22 : n8 = n1) (f23 : n9 = 0) : nb_242 n9 n5 n4 H0 H1 := by
  have ga := f10.2.1.1.1
  unfold Ab_242_39 at ga
  have gb := f10.2.1.1.2
  unfold Bb_242_39 at gb
  obtain ⟨x1, x2, a1, a2, a3, a4⟩ := ga
  have k60 : hV H1 285 60 = hV H0 285 60 := f10.1.2.1.1 285 60 (by decide +kernel)
  have k18 : hV H1 285 18 = hV H0 285 18 := f10.1.2.1.1 285 18 (by decide +kernel)
  have w325 : hV H1 325 = hV H0 325 := fRow f10.1.2.1 325 (by decide +kernel)
  have w326 : hV H1 326 = hV H0 326 := fRow f10.1.2.1 326 (by decide +kernel)
  have w293 : hV H1 293 = hV H0 293 := fRow f10.1.2.1 293 (by decide +kernel)
  rw [w325] at a3
  rw [w326] at a2
  rw [show (n1).toNat = (hV H0 285 60 - 1).toNat by omega] at a2 a3
  have d14 := rdS (q := 285) f14 f6
  have d21 := rdW (q := 293) f21 f16
  rw [w293] at d21
  unfold nb_242
  intro mt
  obtain ⟨mf, ms, me, m5, m6, m7, mz⟩ := MTr mt
  exact .inl ⟨by omega, .inr (.inl (tdR_1 (s := (n0).toNat) (by omega) (by omega)))⟩
def g_242w_39_2 : vG := ([(0, [9], [], 0), (40, [8, 4], [], 0), (22, [8, 7, 5], [1], 0), (90, [8], [], 0), (91, [8], [], 5), (20, [7, 2], [1], 19), (23, [2], [1], 12), (0, [7], [], 293), (42, [5, 6], [], 0), (20, [6, 2], [1], 18), (23, [2], [1], 12), (90, [6], [], 0), (91, [6], [], 8), (5000, [0, 1, 2, 3, 4, 5], [0, 1], 39), (0, [0], [], 285), (90, [1], [], 0), (91, [1], [], 60), (0, [2], [], 285), (90, [3], [], 0), (91, [3], [], 60), (90, [4], [], -2147483648), (91, [4], [], 2147483647), (90, [5], [], -2147483648), (91, [5], [], 2147483647)], (3000, [9], [1], 58))
theorem c_242w_39_2 {q0 : Nat} : vOkm T0 (eN e_242 L_242w A_242 mu_242 n_242 B_242 (some q0)) 2 g_242w_39_2 := vOk_inI fun ρ η f0 f1 f2 f3 f4 f5 f6 f7 f8 f9 f10 f11 f12 f13 f14 f15 f16 f17 f18 f19 f20 f21 f22 f23 => q_242w_6 (q0 := q0) (n0 := ρ 5) (n1 := ρ 4) (n2 := ρ 3) (n3 := ρ 2) (n4 := ρ 1) (n5 := ρ 0) (n6 := ρ 6) (n7 := ρ 7) (n8 := ρ 8) (n9 := ρ 9) (H0 := η 0) (H1 := η 1) f23 f22 f21 f20 f19 f18 f17 f16 f15 f14 f13 f12 f11 f10 f9 f8 f7 f6 f5 f4 f3 f2 f1 f0
def p_242w_39 : List vG := [g_242w_39_0,
  g_242w_39_1,
  g_242w_39_2]
theorem r_242w_39 : vCovBO (eRc e_242 L_242 cs_242 2000 (39, [(0, (3, 12, 285, 0)), (1, (0, 0, 60, 0)), (2, (0, -2147483648, 2147483647, 0)), (3, (0, -2147483648, 2147483647, 0))])) p_242w_39 = true := by decide +kernel
theorem m_242w (d : Nat) : eC e_242w (d + 1) := eC_ref (e := e_242) (L := L_242) (L' := L_242w) (cs := cs_242) (n := 2000) (d := d + 0) (A := A_242) (μ := mu_242) (tp := false) (p0 := p_242_s) (p1 := p_242w_s) (N := n_242) (B := B_242) rfl trivial rfl (.inr pre0_ok) (by decide +kernel) (fun z => nomatch z) r_242_s (allC c_242_s_0 (allC c_242_s_1 (allC c_242_s_2 (allC c_242_s_3 (allC c_242_s_4 (allC c_242_s_5 allN)))))) (allC (.inl ⟨p_242_39, r_242_39, fun q0 => (allC c_242_39_0 (allC c_242_39_1 (allC c_242_39_2 (allC c_242_39_3 allN))))⟩) allN) trivial r_242w_s (allC c_242w_s_0 (allC c_242w_s_1 (allC c_242w_s_2 (allC c_242w_s_3 allN)))) (allC ⟨p_242w_39, r_242w_39, fun q0 => (allC c_242w_39_0 (allC c_242w_39_1 (allC c_242w_39_2 allN)))⟩ allN)
/- MixStageModel.cuts (IIZ)I, more fully -/
def nb_243 (r a0 a1 a2 a3 : Int) (h0 h : gH) : Prop := MT (mR h0) → hV h 325 = uF (hV h0 325) (hV h0 285 60 - 1) (hV h0 325 (hV h0 285 60 - 1).toNat + a2) ∧ hV h 326 = uF (hV h0 326) (hV h0 285 60 - 1) (hV h0 326 (hV h0 285 60 - 1).toNat + 1) ∧ hV h 327 = pO (if a3 = 0 then a1 else -1) (60 * (hV h0 285 60 - 1) + hV h0 325 (hV h0 285 60 - 1).toNat) (hV h0 327) (a2).toNat ∧ r = hV h0 325 (hV h0 285 60 - 1).toNat + a2
def n_243 : List Int → gH → gH → Prop := fun xs h0 h => match xs with
  | [r, a0, a1, a2, a3] => nb_243 r a0 a1 a2 a3 h0 h
  | _ => True
noncomputable def e_243w : vE := eV e_243 n_243
noncomputable def L_243w : List vE := []
def Bb_243_11 (a0 a1 a2 a3 x0 x1 x2 x3 x4 x5 : Int) (h0 h : gH) : Prop := hV h 327 = pO (if a3 = 0 then a1 else -1) (60 * (hV h0 285 60 - 1) + hV h0 325 (hV h0 285 60 - 1).toNat) (hV h0 327) (x5).toNat ∧ hV h 325 = hV h0 325 ∧ hV h 326 = hV h0 326 ∧ 0 ≤ x5 ∧ x5 ≤ a2
def B_243 : Int → List Int → gH → gH → Prop := fun c xs h0 h => match c.toNat with
  | 11 => (match xs with
    | [a0, a1, a2, a3, x0, x1, x2, x3, x4, x5] => Bb_243_11 a0 a1 a2 a3 x0 x1 x2 x3 x4 x5 h0 h
    | _ => False)
  | _ => True
theorem q_243w_0 {n0 n1 n2 n3 n4 n5 n6 n7 : Int} {H0 : gH} (f0 : n0 ≤ 1) (f1 : 0 ≤ n0) (f2 : n1 ≤ 60) (f3 : 0 ≤ n1) (f4 : n2 ≤ 60) (f5 : 0 ≤ n2) (f6 : n3 = 285) (f7 : hWt T0 H0 ∧ preb_243 n3 n2 n1 n0 H0) (f8 : n4 ≤ 6) (f9 : 1 ≤ n4) (f10 : hK H0 (n3).toNat = 12) (f11 : n4 = hV H0 (n3).toNat 60) (f12 : n5 = 1) (f13 : n6 = w32 (n4 - n5)) (f14 : n7 = 0) : Bb_243_11 n3 n2 n1 n0 n3 n2 n1 n0 n6 n7 H0 H0 := by
  unfold Bb_243_11
  rw [show (n7).toNat = 0 by omega]
  exact ⟨rfl, rfl, rfl, by omega, by omega⟩
def g_243w_s_0 : vG := ([(0, [7], [], 0), (2, [6, 4, 5], [], 0), (0, [5], [], 1), (20, [4, 0], [0], 60), (23, [0], [0], 12), (90, [4], [], 1), (91, [4], [], 6), (6000, [0, 1, 2, 3], [0], 0), (0, [0], [], 285), (90, [1], [], 0), (91, [1], [], 60), (90, [2], [], 0), (91, [2], [], 60), (90, [3], [], 0), (91, [3], [], 1)], (4000, [0, 1, 2, 3, 6, 7], [0], 11))
theorem c_243w_s_0 : vOkm T0 (eN e_243 L_243w A_243 mu_243 n_243 B_243 none) 4 g_243w_s_0 := vOk_inI fun ρ η f0 f1 f2 f3 f4 f5 f6 f7 f8 f9 f10 f11 f12 f13 f14 => q_243w_0 (n0 := ρ 3) (n1 := ρ 2) (n2 := ρ 1) (n3 := ρ 0) (n4 := ρ 4) (n5 := ρ 5) (n6 := ρ 6) (n7 := ρ 7) (H0 := η 0) f14 f13 f12 f11 f10 f9 f8 f7 f6 f5 f4 f3 f2 f1 f0
def p_243w_s : List vG := [g_243w_s_0]
theorem r_243w_s : vCovBO (eR0 e_243 L_243 cs_243 2000) p_243w_s = true := by decide +kernel
theorem q_243w_1 {q0 : Nat} {n0 n1 n2 n3 n4 n5 n6 n7 n8 n9 n10 n11 n12 n13 n14 n15 n16 n17 n18 : Int} {H0 H1 H2 H3 : gH} (f0 : n0 ≤ 2147483647) (f1 : (-2147483648) ≤ n0) (f2 : n1 ≤ 2147483647) (f3 : (-2147483648) ≤ n1) (f4 : n2 ≤ 1) (f5 : 0 ≤ n2) (f6 : n3 ≤ 60) (f7 : 0 ≤ n3) (f8 : n4 ≤ 60) (f9 : 0 ≤ n4) (f10 : n5 = 285) (f11 : n6 ≤ 1) (f12 : 0 ≤ n6) (f13 : n7 ≤ 60) (f14 : 0 ≤ n7) (f15 : n8 ≤ 60) (f16 : 0 ≤ n8) (f17 : n9 = 285) (f18 : (hLe T0 H0 H1 ∧ hFr s_243.2.2.2.2 H0 H1 ∧ hWt T0 H1) ∧ ((Ab_243_11 n9 n8 n7 n6 n5 n4 n3 n2 n1 n0 H0 H1 ∧ Bb_243_11 n9 n8 n7 n6 n5 n4 n3 n2 n1 n0 H0 H1) ∧ preb_243 n9 n8 n7 n6 H0) ∧ some q0 = some (mub_243_11 n9 n8 n7 n6 n5 n4 n3 n2 n1 n0 H0 H1)) (f19 : n3 ≤ n0) (f20 : n10 = 325) (f21 : hK H1 (n5).toNat = 12) (f22 : n10 = hV H1 (n5).toNat 61) (f23 : n11 ≤ 60) (f24 : 0 ≤ n11) (f25 : n11 = hV H1 (n10).toNat (n1).toNat) (f26 : n12 = w32 (n11 + n3)) (f27 : hK H1 (n10).toNat = 428) (f28 : hUpd H2 H1 n10 n1 n12) (f29 : n13 = 326) (f30 : hK H2 (n5).toNat = 12) (f31 : n13 = hV H2 (n5).toNat 62) (f32 : n14 ≤ 10) (f33 : 0 ≤ n14) (f34 : n14 = hV H2 (n13).toNat (n1).toNat) (f35 : n15 = 1) (f36 : n16 = w32 (n14 + n15)) (f37 : hK H2 (n13).toNat = 436) (f38 : hUpd H3 H2 n13 n1 n16) (f39 : n17 = 325) (f40 : hK H3 (n5).toNat = 12) (f41 : n17 = hV H3 (n5).toNat 61) (f42 : n18 ≤ 60) (f43 : 0 ≤ n18) (f44 : n18 = hV H3 (n17).toNat (n1).toNat) : nb_243 n18 n9 n8 n7 n6 H0 H3 := by
  have ga := f18.2.1.1.1
  unfold Ab_243_11 at ga
  have gb := f18.2.1.1.2
  unfold Bb_243_11 at gb
  obtain ⟨x1, x2, x3, x4, a1, a2, a3, a4, a5, a6⟩ := ga
  obtain ⟨b7, b5, b6, b8, b9⟩ := gb
  have k60 : hV H1 285 60 = hV H0 285 60 := f18.1.2.1.1 285 60 (by decide +kernel)
  have kb := f18.1.2.2 285 60 1 6 (by decide +kernel)
  have d25 := rdW (q := 325) f25 f20
  have d34 := rdW (q := 326) f34 f29
  have d44 := rdW (q := 325) f44 f39
  unfold nb_243
  intro mt
  obtain ⟨mf, ms, me, m5, m6, m7, mz⟩ := MTr mt
  have y5 := m5 (hV H0 285 60 - 1).toNat
  have y6 := m6 (hV H0 285 60 - 1).toNat
  have w5 := uRowQ f28 325 f20
  rw [b5] at w5
  rw [b5, show (n1).toNat = (hV H0 285 60 - 1).toNat by omega] at d25
  rw [show hV H2 326 = hV H0 326 from (uRowNe f28 326 (by rw [f20]; decide)).trans b6, show (n1).toNat = (hV H0 285 60 - 1).toNat by omega] at d34
  have v44 : hV H3 325 = _ := (uRowNe f38 325 (by rw [f29]; decide)).trans w5
  rw [v44, uF_at, if_pos (by omega)] at d44
  have e_26 : n12 = n11 + n3 := by
    have w := f26
    rw [w]
    exact w32_id (by omega) (by omega)
  have e_36 : n16 = n14 + (1) := by
    have w := f36
    rw [f35] at w
    rw [w]
    exact w32_id (by omega) (by omega)
  have w6 := uRowQ f38 326 f29
  rw [show hV H2 326 = hV H0 326 from (uRowNe f28 326 (by rw [f20]; decide)).trans b6] at w6
  have e5 : hV H3 325 = uF (hV H0 325) (hV H0 285 60 - 1) (hV H0 325 (hV H0 285 60 - 1).toNat + n7) := ((uRowNe f38 325 (by rw [f29]; decide)).trans w5).trans (by rw [show n1 = hV H0 285 60 - 1 by omega, show n12 = hV H0 325 (hV H0 285 60 - 1).toNat + n7 by omega])
  have e6 : hV H3 326 = uF (hV H0 326) (hV H0 285 60 - 1) (hV H0 326 (hV H0 285 60 - 1).toNat + 1) := ((rfl).trans w6).trans (by rw [show n1 = hV H0 285 60 - 1 by omega, show n16 = hV H0 326 (hV H0 285 60 - 1).toNat + 1 by omega])
  exact ⟨e5, e6, ((uRowNe f38 327 (by rw [f29]; decide)).trans (uRowNe f28 327 (by rw [f20]; decide))).trans (by rw [b7, show n0 = n7 by omega]), by omega⟩
def g_243w_11_0 : vG := ([(22, [18, 17, 8], [3], 0), (90, [18], [], 0), (91, [18], [], 60), (20, [17, 4], [3], 61), (23, [4], [3], 12), (0, [17], [], 325), (80, [13, 8, 16], [3, 2], 0), (23, [13], [2], 436), (1, [16, 14, 15], [], 0), (0, [15], [], 1), (22, [14, 13, 8], [2], 0), (90, [14], [], 0), (91, [14], [], 10), (20, [13, 4], [2], 62), (23, [4], [2], 12), (0, [13], [], 326), (80, [10, 8, 12], [2, 1], 0), (23, [10], [1], 428), (1, [12, 11, 6], [], 0), (22, [11, 10, 8], [1], 0), (90, [11], [], 0), (91, [11], [], 60), (20, [10, 4], [1], 61), (23, [4], [1], 12), (0, [10], [], 325), (43, [9, 6], [], 0), (5000, [0, 1, 2, 3, 4, 5, 6, 7, 8, 9], [0, 1], 11), (0, [0], [], 285), (90, [1], [], 0), (91, [1], [], 60), (90, [2], [], 0), (91, [2], [], 60), (90, [3], [], 0), (91, [3], [], 1), (0, [4], [], 285), (90, [5], [], 0), (91, [5], [], 60), (90, [6], [], 0), (91, [6], [], 60), (90, [7], [], 0), (91, [7], [], 1), (90, [8], [], -2147483648), (91, [8], [], 2147483647), (90, [9], [], -2147483648), (91, [9], [], 2147483647)], (3000, [18], [3], 85))
theorem c_243w_11_0 {q0 : Nat} : vOkm T0 (eN e_243 L_243w A_243 mu_243 n_243 B_243 (some q0)) 4 g_243w_11_0 := vOk_inI fun ρ η f0 f1 f2 f3 f4 f5 f6 f7 f8 f9 f10 f11 f12 f13 f14 f15 f16 f17 f18 f19 f20 f21 f22 f23 f24 f25 f26 f27 f28 f29 f30 f31 f32 f33 f34 f35 f36 f37 f38 f39 f40 f41 f42 f43 f44 => q_243w_1 (q0 := q0) (n0 := ρ 9) (n1 := ρ 8) (n2 := ρ 7) (n3 := ρ 6) (n4 := ρ 5) (n5 := ρ 4) (n6 := ρ 3) (n7 := ρ 2) (n8 := ρ 1) (n9 := ρ 0) (n10 := ρ 10) (n11 := ρ 11) (n12 := ρ 12) (n13 := ρ 13) (n14 := ρ 14) (n15 := ρ 15) (n16 := ρ 16) (n17 := ρ 17) (n18 := ρ 18) (H0 := η 0) (H1 := η 1) (H2 := η 2) (H3 := η 3) f44 f43 f42 f41 f40 f39 f38 f37 f36 f35 f34 f33 f32 f31 f30 f29 f28 f27 f26 f25 f24 f23 f22 f21 f20 f19 f18 f17 f16 f15 f14 f13 f12 f11 f10 f9 f8 f7 f6 f5 f4 f3 f2 f1 f0
theorem q_243w_2 {q0 : Nat} {n0 n1 n2 n3 n4 n5 n6 n7 n8 n9 n10 n11 n12 n13 n14 n15 n16 n17 n18 : Int} {H0 H1 H2 : gH} (f0 : n0 ≤ 2147483647) (f1 : (-2147483648) ≤ n0) (f2 : n1 ≤ 2147483647) (f3 : (-2147483648) ≤ n1) (f4 : n2 ≤ 1) (f5 : 0 ≤ n2) (f6 : n3 ≤ 60) (f7 : 0 ≤ n3) (f8 : n4 ≤ 60) (f9 : 0 ≤ n4) (f10 : n5 = 285) (f11 : n6 ≤ 1) (f12 : 0 ≤ n6) (f13 : n7 ≤ 60) (f14 : 0 ≤ n7) (f15 : n8 ≤ 60) (f16 : 0 ≤ n8) (f17 : n9 = 285) (f18 : (hLe T0 H0 H1 ∧ hFr s_243.2.2.2.2 H0 H1 ∧ hWt T0 H1) ∧ ((Ab_243_11 n9 n8 n7 n6 n5 n4 n3 n2 n1 n0 H0 H1 ∧ Bb_243_11 n9 n8 n7 n6 n5 n4 n3 n2 n1 n0 H0 H1) ∧ preb_243 n9 n8 n7 n6 H0) ∧ some q0 = some (mub_243_11 n9 n8 n7 n6 n5 n4 n3 n2 n1 n0 H0 H1)) (f19 : n0 < n3) (f20 : n10 = 327) (f21 : hK H1 (n5).toNat = 12) (f22 : n10 = hV H1 (n5).toNat 63) (f23 : n11 = 60) (f24 : n12 = w32 (n11 * n1)) (f25 : n13 = 325) (f26 : hK H1 (n5).toNat = 12) (f27 : n13 = hV H1 (n5).toNat 61) (f28 : n14 ≤ 60) (f29 : 0 ≤ n14) (f30 : n14 = hV H1 (n13).toNat (n1).toNat) (f31 : n15 = w32 (n12 + n14)) (f32 : n16 = w32 (n15 + n0)) (f33 : n2 = 0) (f34 : n17 = w32 (n4 + n0)) (f35 : hK H1 (n10).toNat = 444) (f36 : hUpd H2 H1 n10 n16 n17) (f37 : n18 = w32 (n0 + 1)) : Bb_243_11 n9 n8 n7 n6 n5 n4 n3 n2 n1 n18 H0 H2 := by
  have ga := f18.2.1.1.1
  unfold Ab_243_11 at ga
  have gb := f18.2.1.1.2
  unfold Bb_243_11 at gb
  obtain ⟨x1, x2, x3, x4, a1, a2, a3, a4, a5, a6⟩ := ga
  obtain ⟨b7, b5, b6, b8, b9⟩ := gb
  have k60 : hV H1 285 60 = hV H0 285 60 := f18.1.2.1.1 285 60 (by decide +kernel)
  have kb := f18.1.2.2 285 60 1 6 (by decide +kernel)
  have d30 := rdW (q := 325) f30 f25
  rw [b5] at d30
  have t30 : n14 = hV H0 325 (hV H0 285 60 - 1).toNat := by
    rw [d30]
    exact congrArg _ (by omega)
  have q5 : hV H1 325 (n1).toNat = hV H0 325 (hV H0 285 60 - 1).toNat := by
    rw [b5]
    exact congrArg _ (by omega)
  have e_24 : n12 = (60) * n1 := by
    have w := f24
    rw [f23] at w
    rw [w]
    exact w32_id (by omega) (by omega)
  have e_31 : n15 = n12 + n14 := by
    have w := f31
    rw [w]
    exact w32_id (by omega) (by omega)
  have e_32 : n16 = n15 + n0 := by
    have w := f32
    rw [w]
    exact w32_id (by omega) (by omega)
  have e_34 : n17 = n4 + n0 := by
    have w := f34
    rw [w]
    exact w32_id (by omega) (by omega)
  have e_37 : n18 = n0 + (1) := by
    have w := f37
    rw [w]
    exact w32_id (by omega) (by omega)
  have w7 := uRowQ f36 327 f20
  unfold Bb_243_11
  refine ⟨?_, (uRowNe f36 325 (by rw [f20]; decide)).trans b5, (uRowNe f36 326 (by rw [f20]; decide)).trans b6, by omega, by omega⟩
  rw [w7, b7, show (n18).toNat = (n0).toNat + 1 by omega]
  show _ = uF (pO _ _ _ _) _ _
  rw [show n16 = (60 * (hV H0 285 60 - 1) + hV H0 325 (hV H0 285 60 - 1).toNat) + (((n0).toNat : Nat) : Int) by omega]
  refine congrArg (uF _ _) ?_
  by_cases z : n6 = 0
  · rw [if_pos z, if_neg (by omega)]
    omega
  · rw [if_neg z, if_pos rfl]
    omega
def g_243w_11_1 : vG := ([(10, [18, 9], [], 1), (80, [10, 16, 17], [2, 1], 0), (23, [10], [1], 444), (1, [17, 5, 9], [], 0), (30, [7], [], 0), (1, [16, 15, 9], [], 0), (1, [15, 12, 14], [], 0), (22, [14, 13, 8], [1], 0), (90, [14], [], 0), (91, [14], [], 60), (20, [13, 4], [1], 61), (23, [4], [1], 12), (0, [13], [], 325), (3, [12, 11, 8], [], 0), (0, [11], [], 60), (20, [10, 4], [1], 63), (23, [4], [1], 12), (0, [10], [], 327), (42, [9, 6], [], 0), (5000, [0, 1, 2, 3, 4, 5, 6, 7, 8, 9], [0, 1], 11), (0, [0], [], 285), (90, [1], [], 0), (91, [1], [], 60), (90, [2], [], 0), (91, [2], [], 60), (90, [3], [], 0), (91, [3], [], 1), (0, [4], [], 285), (90, [5], [], 0), (91, [5], [], 60), (90, [6], [], 0), (91, [6], [], 60), (90, [7], [], 0), (91, [7], [], 1), (90, [8], [], -2147483648), (91, [8], [], 2147483647), (90, [9], [], -2147483648), (91, [9], [], 2147483647)], (4000, [4, 5, 6, 7, 8, 18], [2], 11))
theorem c_243w_11_1 {q0 : Nat} : vOkm T0 (eN e_243 L_243w A_243 mu_243 n_243 B_243 (some q0)) 4 g_243w_11_1 := vOk_inI fun ρ η f0 f1 f2 f3 f4 f5 f6 f7 f8 f9 f10 f11 f12 f13 f14 f15 f16 f17 f18 f19 f20 f21 f22 f23 f24 f25 f26 f27 f28 f29 f30 f31 f32 f33 f34 f35 f36 f37 => q_243w_2 (q0 := q0) (n0 := ρ 9) (n1 := ρ 8) (n2 := ρ 7) (n3 := ρ 6) (n4 := ρ 5) (n5 := ρ 4) (n6 := ρ 3) (n7 := ρ 2) (n8 := ρ 1) (n9 := ρ 0) (n10 := ρ 10) (n11 := ρ 11) (n12 := ρ 12) (n13 := ρ 13) (n14 := ρ 14) (n15 := ρ 15) (n16 := ρ 16) (n17 := ρ 17) (n18 := ρ 18) (H0 := η 0) (H1 := η 1) (H2 := η 2) f37 f36 f35 f34 f33 f32 f31 f30 f29 f28 f27 f26 f25 f24 f23 f22 f21 f20 f19 f18 f17 f16 f15 f14 f13 f12 f11 f10 f9 f8 f7 f6 f5 f4 f3 f2 f1 f0
theorem q_243w_3 {q0 : Nat} {n0 n1 n2 n3 n4 n5 n6 n7 n8 n9 n10 n11 n12 n13 n14 n15 n16 n17 n18 : Int} {H0 H1 H2 : gH} (f0 : n0 ≤ 2147483647) (f1 : (-2147483648) ≤ n0) (f2 : n1 ≤ 2147483647) (f3 : (-2147483648) ≤ n1) (f4 : n2 ≤ 1) (f5 : 0 ≤ n2) (f6 : n3 ≤ 60) (f7 : 0 ≤ n3) (f8 : n4 ≤ 60) (f9 : 0 ≤ n4) (f10 : n5 = 285) (f11 : n6 ≤ 1) (f12 : 0 ≤ n6) (f13 : n7 ≤ 60) (f14 : 0 ≤ n7) (f15 : n8 ≤ 60) (f16 : 0 ≤ n8) (f17 : n9 = 285) (f18 : (hLe T0 H0 H1 ∧ hFr s_243.2.2.2.2 H0 H1 ∧ hWt T0 H1) ∧ ((Ab_243_11 n9 n8 n7 n6 n5 n4 n3 n2 n1 n0 H0 H1 ∧ Bb_243_11 n9 n8 n7 n6 n5 n4 n3 n2 n1 n0 H0 H1) ∧ preb_243 n9 n8 n7 n6 H0) ∧ some q0 = some (mub_243_11 n9 n8 n7 n6 n5 n4 n3 n2 n1 n0 H0 H1)) (f19 : n0 < n3) (f20 : n10 = 327) (f21 : hK H1 (n5).toNat = 12) (f22 : n10 = hV H1 (n5).toNat 63) (f23 : n11 = 60) (f24 : n12 = w32 (n11 * n1)) (f25 : n13 = 325) (f26 : hK H1 (n5).toNat = 12) (f27 : n13 = hV H1 (n5).toNat 61) (f28 : n14 ≤ 60) (f29 : 0 ≤ n14) (f30 : n14 = hV H1 (n13).toNat (n1).toNat) (f31 : n15 = w32 (n12 + n14)) (f32 : n16 = w32 (n15 + n0)) (f33 : n2 ≠ 0) (f34 : n17 = (-1)) (f35 : hK H1 (n10).toNat = 444) (f36 : hUpd H2 H1 n10 n16 n17) (f37 : n18 = w32 (n0 + 1)) : Bb_243_11 n9 n8 n7 n6 n5 n4 n3 n2 n1 n18 H0 H2 := by
  have ga := f18.2.1.1.1
  unfold Ab_243_11 at ga
  have gb := f18.2.1.1.2
  unfold Bb_243_11 at gb
  obtain ⟨x1, x2, x3, x4, a1, a2, a3, a4, a5, a6⟩ := ga
  obtain ⟨b7, b5, b6, b8, b9⟩ := gb
  have k60 : hV H1 285 60 = hV H0 285 60 := f18.1.2.1.1 285 60 (by decide +kernel)
  have kb := f18.1.2.2 285 60 1 6 (by decide +kernel)
  have d30 := rdW (q := 325) f30 f25
  rw [b5] at d30
  have t30 : n14 = hV H0 325 (hV H0 285 60 - 1).toNat := by
    rw [d30]
    exact congrArg _ (by omega)
  have q5 : hV H1 325 (n1).toNat = hV H0 325 (hV H0 285 60 - 1).toNat := by
    rw [b5]
    exact congrArg _ (by omega)
  have e_24 : n12 = (60) * n1 := by
    have w := f24
    rw [f23] at w
    rw [w]
    exact w32_id (by omega) (by omega)
  have e_31 : n15 = n12 + n14 := by
    have w := f31
    rw [w]
    exact w32_id (by omega) (by omega)
  have e_32 : n16 = n15 + n0 := by
    have w := f32
    rw [w]
    exact w32_id (by omega) (by omega)
  have e_37 : n18 = n0 + (1) := by
    have w := f37
    rw [w]
    exact w32_id (by omega) (by omega)
  have w7 := uRowQ f36 327 f20
  unfold Bb_243_11
  refine ⟨?_, (uRowNe f36 325 (by rw [f20]; decide)).trans b5, (uRowNe f36 326 (by rw [f20]; decide)).trans b6, by omega, by omega⟩
  rw [w7, b7, show (n18).toNat = (n0).toNat + 1 by omega]
  show _ = uF (pO _ _ _ _) _ _
  rw [show n16 = (60 * (hV H0 285 60 - 1) + hV H0 325 (hV H0 285 60 - 1).toNat) + (((n0).toNat : Nat) : Int) by omega]
  refine congrArg (uF _ _) ?_
  by_cases z : n6 = 0
  · rw [if_pos z, if_neg (by omega)]
    omega
  · rw [if_neg z, if_pos rfl]
    omega
def g_243w_11_2 : vG := ([(10, [18, 9], [], 1), (80, [10, 16, 17], [2, 1], 0), (23, [10], [1], 444), (0, [17], [], -1), (31, [7], [], 0), (1, [16, 15, 9], [], 0), (1, [15, 12, 14], [], 0), (22, [14, 13, 8], [1], 0), (90, [14], [], 0), (91, [14], [], 60), (20, [13, 4], [1], 61), (23, [4], [1], 12), (0, [13], [], 325), (3, [12, 11, 8], [], 0), (0, [11], [], 60), (20, [10, 4], [1], 63), (23, [4], [1], 12), (0, [10], [], 327), (42, [9, 6], [], 0), (5000, [0, 1, 2, 3, 4, 5, 6, 7, 8, 9], [0, 1], 11), (0, [0], [], 285), (90, [1], [], 0), (91, [1], [], 60), (90, [2], [], 0), (91, [2], [], 60), (90, [3], [], 0), (91, [3], [], 1), (0, [4], [], 285), (90, [5], [], 0), (91, [5], [], 60), (90, [6], [], 0), (91, [6], [], 60), (90, [7], [], 0), (91, [7], [], 1), (90, [8], [], -2147483648), (91, [8], [], 2147483647), (90, [9], [], -2147483648), (91, [9], [], 2147483647)], (4000, [4, 5, 6, 7, 8, 18], [2], 11))
theorem c_243w_11_2 {q0 : Nat} : vOkm T0 (eN e_243 L_243w A_243 mu_243 n_243 B_243 (some q0)) 4 g_243w_11_2 := vOk_inI fun ρ η f0 f1 f2 f3 f4 f5 f6 f7 f8 f9 f10 f11 f12 f13 f14 f15 f16 f17 f18 f19 f20 f21 f22 f23 f24 f25 f26 f27 f28 f29 f30 f31 f32 f33 f34 f35 f36 f37 => q_243w_3 (q0 := q0) (n0 := ρ 9) (n1 := ρ 8) (n2 := ρ 7) (n3 := ρ 6) (n4 := ρ 5) (n5 := ρ 4) (n6 := ρ 3) (n7 := ρ 2) (n8 := ρ 1) (n9 := ρ 0) (n10 := ρ 10) (n11 := ρ 11) (n12 := ρ 12) (n13 := ρ 13) (n14 := ρ 14) (n15 := ρ 15) (n16 := ρ 16) (n17 := ρ 17) (n18 := ρ 18) (H0 := η 0) (H1 := η 1) (H2 := η 2) f37 f36 f35 f34 f33 f32 f31 f30 f29 f28 f27 f26 f25 f24 f23 f22 f21 f20 f19 f18 f17 f16 f15 f14 f13 f12 f11 f10 f9 f8 f7 f6 f5 f4 f3 f2 f1 f0
def p_243w_11 : List vG := [g_243w_11_0,
  g_243w_11_1,
  g_243w_11_2]
theorem r_243w_11 : vCovBO (eRc e_243 L_243 cs_243 2000 (11, [(0, (3, 12, 285, 0)), (1, (0, 0, 60, 0)), (2, (0, 0, 60, 0)), (3, (0, 0, 1, 0)), (4, (0, -2147483648, 2147483647, 0)), (5, (0, -2147483648, 2147483647, 0))])) p_243w_11 = true := by decide +kernel
theorem m_243w (d : Nat) : eC e_243w (d + 1) := eC_ref (e := e_243) (L := L_243) (L' := L_243w) (cs := cs_243) (n := 2000) (d := d + 0) (A := A_243) (μ := mu_243) (tp := true) (p0 := p_243_s) (p1 := p_243w_s) (N := n_243) (B := B_243) rfl trivial rfl (.inl rfl) (by decide +kernel) (fun _ => post0_ok) r_243_s (allC c_243_s_0 allN) (allC (.inl ⟨p_243_11, r_243_11, fun q0 => (allC c_243_11_0 (allC c_243_11_1 (allC c_243_11_2 (allC c_243_11_3 (allC c_243_11_4 (allC c_243_11_5 (allC c_243_11_6 (allC c_243_11_7 (allC c_243_11_8 (allC c_243_11_9 (allC c_243_11_10 (allC c_243_11_11 (allC c_243_11_12 (allC c_243_11_13 (allC c_243_11_14 (allC c_243_11_15 allN))))))))))))))))⟩) allN) trivial r_243w_s (allC c_243w_s_0 allN) (allC ⟨p_243w_11, r_243w_11, fun q0 => (allC c_243w_11_0 (allC c_243w_11_1 (allC c_243w_11_2 allN)))⟩ allN)
/- MixStageModel.keep (II)I, more fully -/
def nb_244 (r a0 a1 a2 : Int) (h0 h : gH) : Prop := IRm h0 → MT (mR h0) → IRm h ∧ (mR h, r) = mKeep a1 a2 (mR h0)
def n_244 : List Int → gH → gH → Prop := fun xs h0 h => match xs with
  | [r, a0, a1, a2] => nb_244 r a0 a1 a2 h0 h
  | _ => True
noncomputable def e_244w : vE := eV e_244 n_244
noncomputable def L_244w : List vE := [e_242w, e_243w]
def B_244 : Int → List Int → gH → gH → Prop := fun c xs h0 h => True
theorem q_244w_0 {n0 n1 n2 n3 n4 n5 n6 : Int} {H0 : gH} (f0 : n0 ≤ 2147483647) (f1 : (-2147483648) ≤ n0) (f2 : n1 ≤ 2147483647) (f3 : (-2147483648) ≤ n1) (f4 : n2 = 285) (f5 : hWt T0 H0 ∧ True) (f6 : n3 ≤ 6) (f7 : 1 ≤ n3) (f8 : hK H0 (n2).toNat = 12) (f9 : n3 = hV H0 (n2).toNat 60) (f10 : n4 = 1) (f11 : n5 = w32 (n3 - n4)) (f12 : n5 = 0) (f13 : n6 = (-1)) : nb_244 n6 n2 n1 n0 H0 H0 := by
  unfold nb_244
  intro ir mt
  obtain ⟨mf, ms, me, m5, m6, m7, mz⟩ := MTr mt
  have d9 := rdS (q := 285) f9 f4
  have e_11 : n5 = n3 - (1) := by
    have w := f11
    rw [f10] at w
    rw [w]
    exact w32_id (by omega) (by omega)
  have y5 := m5 (hV H0 285 60 - 1).toNat
  refine ⟨ir, ?_⟩
  rw [show mKeep n1 n0 (mR H0) = _ from if_pos (by show hV H0 285 60 - 1 = 0 ∨ n1 < 0 ∨ n0 ≤ n1 ∨ hV H0 325 (hV H0 285 60 - 1 - 1).toNat < n0; omega), show n6 = -1 by omega]
def g_244w_s_0 : vG := ([(0, [6], [], -1), (30, [5], [], 0), (2, [5, 3, 4], [], 0), (0, [4], [], 1), (20, [3, 0], [0], 60), (23, [0], [0], 12), (90, [3], [], 1), (91, [3], [], 6), (6000, [0, 1, 2], [0], 0), (0, [0], [], 285), (90, [1], [], -2147483648), (91, [1], [], 2147483647), (90, [2], [], -2147483648), (91, [2], [], 2147483647)], (3000, [6], [0], 43))
theorem c_244w_s_0 : vOkm T0 (eN e_244 L_244w A_244 mu_244 n_244 B_244 none) 3 g_244w_s_0 := vOk_inI fun ρ η f0 f1 f2 f3 f4 f5 f6 f7 f8 f9 f10 f11 f12 f13 => q_244w_0 (n0 := ρ 2) (n1 := ρ 1) (n2 := ρ 0) (n3 := ρ 3) (n4 := ρ 4) (n5 := ρ 5) (n6 := ρ 6) (H0 := η 0) f13 f12 f11 f10 f9 f8 f7 f6 f5 f4 f3 f2 f1 f0
theorem q_244w_1 {n0 n1 n2 n3 n4 n5 n6 : Int} {H0 : gH} (f0 : n0 ≤ 2147483647) (f1 : (-2147483648) ≤ n0) (f2 : n1 ≤ 2147483647) (f3 : (-2147483648) ≤ n1) (f4 : n2 = 285) (f5 : hWt T0 H0 ∧ True) (f6 : n3 ≤ 6) (f7 : 1 ≤ n3) (f8 : hK H0 (n2).toNat = 12) (f9 : n3 = hV H0 (n2).toNat 60) (f10 : n4 = 1) (f11 : n5 = w32 (n3 - n4)) (f12 : n5 ≠ 0) (f13 : n1 < 0) (f14 : n6 = (-1)) : nb_244 n6 n2 n1 n0 H0 H0 := by
  unfold nb_244
  intro ir mt
  obtain ⟨mf, ms, me, m5, m6, m7, mz⟩ := MTr mt
  have d9 := rdS (q := 285) f9 f4
  have e_11 : n5 = n3 - (1) := by
    have w := f11
    rw [f10] at w
    rw [w]
    exact w32_id (by omega) (by omega)
  have y5 := m5 (hV H0 285 60 - 1).toNat
  refine ⟨ir, ?_⟩
  rw [show mKeep n1 n0 (mR H0) = _ from if_pos (by show hV H0 285 60 - 1 = 0 ∨ n1 < 0 ∨ n0 ≤ n1 ∨ hV H0 325 (hV H0 285 60 - 1 - 1).toNat < n0; omega), show n6 = -1 by omega]
def g_244w_s_1 : vG := ([(0, [6], [], -1), (32, [1], [], 0), (31, [5], [], 0), (2, [5, 3, 4], [], 0), (0, [4], [], 1), (20, [3, 0], [0], 60), (23, [0], [0], 12), (90, [3], [], 1), (91, [3], [], 6), (6000, [0, 1, 2], [0], 0), (0, [0], [], 285), (90, [1], [], -2147483648), (91, [1], [], 2147483647), (90, [2], [], -2147483648), (91, [2], [], 2147483647)], (3000, [6], [0], 43))
theorem c_244w_s_1 : vOkm T0 (eN e_244 L_244w A_244 mu_244 n_244 B_244 none) 3 g_244w_s_1 := vOk_inI fun ρ η f0 f1 f2 f3 f4 f5 f6 f7 f8 f9 f10 f11 f12 f13 f14 => q_244w_1 (n0 := ρ 2) (n1 := ρ 1) (n2 := ρ 0) (n3 := ρ 3) (n4 := ρ 4) (n5 := ρ 5) (n6 := ρ 6) (H0 := η 0) f14 f13 f12 f11 f10 f9 f8 f7 f6 f5 f4 f3 f2 f1 f0
theorem q_244w_2 {n0 n1 n2 n3 n4 n5 n6 : Int} {H0 : gH} (f0 : n0 ≤ 2147483647) (f1 : (-2147483648) ≤ n0) (f2 : n1 ≤ 2147483647) (f3 : (-2147483648) ≤ n1) (f4 : n2 = 285) (f5 : hWt T0 H0 ∧ True) (f6 : n3 ≤ 6) (f7 : 1 ≤ n3) (f8 : hK H0 (n2).toNat = 12) (f9 : n3 = hV H0 (n2).toNat 60) (f10 : n4 = 1) (f11 : n5 = w32 (n3 - n4)) (f12 : n5 ≠ 0) (f13 : 0 ≤ n1) (f14 : n0 ≤ n1) (f15 : n6 = (-1)) : nb_244 n6 n2 n1 n0 H0 H0 := by
  unfold nb_244
  intro ir mt
  obtain ⟨mf, ms, me, m5, m6, m7, mz⟩ := MTr mt
  have d9 := rdS (q := 285) f9 f4
  have e_11 : n5 = n3 - (1) := by
    have w := f11
    rw [f10] at w
    rw [w]
    exact w32_id (by omega) (by omega)
  have y5 := m5 (hV H0 285 60 - 1).toNat
  refine ⟨ir, ?_⟩
  rw [show mKeep n1 n0 (mR H0) = _ from if_pos (by show hV H0 285 60 - 1 = 0 ∨ n1 < 0 ∨ n0 ≤ n1 ∨ hV H0 325 (hV H0 285 60 - 1 - 1).toNat < n0; omega), show n6 = -1 by omega]
def g_244w_s_2 : vG := ([(0, [6], [], -1), (43, [1, 2], [], 0), (33, [1], [], 0), (31, [5], [], 0), (2, [5, 3, 4], [], 0), (0, [4], [], 1), (20, [3, 0], [0], 60), (23, [0], [0], 12), (90, [3], [], 1), (91, [3], [], 6), (6000, [0, 1, 2], [0], 0), (0, [0], [], 285), (90, [1], [], -2147483648), (91, [1], [], 2147483647), (90, [2], [], -2147483648), (91, [2], [], 2147483647)], (3000, [6], [0], 43))
theorem c_244w_s_2 : vOkm T0 (eN e_244 L_244w A_244 mu_244 n_244 B_244 none) 3 g_244w_s_2 := vOk_inI fun ρ η f0 f1 f2 f3 f4 f5 f6 f7 f8 f9 f10 f11 f12 f13 f14 f15 => q_244w_2 (n0 := ρ 2) (n1 := ρ 1) (n2 := ρ 0) (n3 := ρ 3) (n4 := ρ 4) (n5 := ρ 5) (n6 := ρ 6) (H0 := η 0) f15 f14 f13 f12 f11 f10 f9 f8 f7 f6 f5 f4 f3 f2 f1 f0
theorem q_244w_3 {n0 n1 n2 n3 n4 n5 n6 n7 n8 n9 n10 : Int} {H0 : gH} (f0 : n0 ≤ 2147483647) (f1 : (-2147483648) ≤ n0) (f2 : n1 ≤ 2147483647) (f3 : (-2147483648) ≤ n1) (f4 : n2 = 285) (f5 : hWt T0 H0 ∧ True) (f6 : n3 ≤ 6) (f7 : 1 ≤ n3) (f8 : hK H0 (n2).toNat = 12) (f9 : n3 = hV H0 (n2).toNat 60) (f10 : n4 = 1) (f11 : n5 = w32 (n3 - n4)) (f12 : n5 ≠ 0) (f13 : 0 ≤ n1) (f14 : n1 < n0) (f15 : n6 = 325) (f16 : hK H0 (n2).toNat = 12) (f17 : n6 = hV H0 (n2).toNat 61) (f18 : n7 = 1) (f19 : n8 = w32 (n5 - n7)) (f20 : n9 ≤ 60) (f21 : 0 ≤ n9) (f22 : n9 = hV H0 (n6).toNat (n8).toNat) (f23 : n9 < n0) (f24 : n10 = (-1)) : nb_244 n10 n2 n1 n0 H0 H0 := by
  unfold nb_244
  intro ir mt
  obtain ⟨mf, ms, me, m5, m6, m7, mz⟩ := MTr mt
  have d9 := rdS (q := 285) f9 f4
  have d22 := rdW (q := 325) f22 f15
  have e_11 : n5 = n3 - (1) := by
    have w := f11
    rw [f10] at w
    rw [w]
    exact w32_id (by omega) (by omega)
  have e_19 : n8 = n5 - (1) := by
    have w := f19
    rw [f18] at w
    rw [w]
    exact w32_id (by omega) (by omega)
  have y5 := m5 (hV H0 285 60 - 1).toNat
  rw [show (n8).toNat = (hV H0 285 60 - 1 - 1).toNat by omega] at d22
  refine ⟨ir, ?_⟩
  rw [show mKeep n1 n0 (mR H0) = _ from if_pos (by show hV H0 285 60 - 1 = 0 ∨ n1 < 0 ∨ n0 ≤ n1 ∨ hV H0 325 (hV H0 285 60 - 1 - 1).toNat < n0; omega), show n10 = -1 by omega]
def g_244w_s_3 : vG := ([(0, [10], [], -1), (44, [2, 9], [], 0), (22, [9, 6, 8], [0], 0), (90, [9], [], 0), (91, [9], [], 60), (2, [8, 5, 7], [], 0), (0, [7], [], 1), (20, [6, 0], [0], 61), (23, [0], [0], 12), (0, [6], [], 325), (42, [1, 2], [], 0), (33, [1], [], 0), (31, [5], [], 0), (2, [5, 3, 4], [], 0), (0, [4], [], 1), (20, [3, 0], [0], 60), (23, [0], [0], 12), (90, [3], [], 1), (91, [3], [], 6), (6000, [0, 1, 2], [0], 0), (0, [0], [], 285), (90, [1], [], -2147483648), (91, [1], [], 2147483647), (90, [2], [], -2147483648), (91, [2], [], 2147483647)], (3000, [10], [0], 43))
theorem c_244w_s_3 : vOkm T0 (eN e_244 L_244w A_244 mu_244 n_244 B_244 none) 3 g_244w_s_3 := vOk_inI fun ρ η f0 f1 f2 f3 f4 f5 f6 f7 f8 f9 f10 f11 f12 f13 f14 f15 f16 f17 f18 f19 f20 f21 f22 f23 f24 => q_244w_3 (n0 := ρ 2) (n1 := ρ 1) (n2 := ρ 0) (n3 := ρ 3) (n4 := ρ 4) (n5 := ρ 5) (n6 := ρ 6) (n7 := ρ 7) (n8 := ρ 8) (n9 := ρ 9) (n10 := ρ 10) (H0 := η 0) f24 f23 f22 f21 f20 f19 f18 f17 f16 f15 f14 f13 f12 f11 f10 f9 f8 f7 f6 f5 f4 f3 f2 f1 f0
theorem q_244w_4 {n0 n1 n2 n3 n4 n5 n6 n7 n8 n9 n10 n11 n12 n13 n14 : Int} {H0 H1 H2 : gH} (f0 : n0 ≤ 2147483647) (f1 : (-2147483648) ≤ n0) (f2 : n1 ≤ 2147483647) (f3 : (-2147483648) ≤ n1) (f4 : n2 = 285) (f5 : hWt T0 H0 ∧ True) (f6 : n3 ≤ 6) (f7 : 1 ≤ n3) (f8 : hK H0 (n2).toNat = 12) (f9 : n3 = hV H0 (n2).toNat 60) (f10 : n4 = 1) (f11 : n5 = w32 (n3 - n4)) (f12 : n5 ≠ 0) (f13 : 0 ≤ n1) (f14 : n1 < n0) (f15 : n6 = 325) (f16 : hK H0 (n2).toNat = 12) (f17 : n6 = hV H0 (n2).toNat 61) (f18 : n7 = 1) (f19 : n8 = w32 (n5 - n7)) (f20 : n9 ≤ 60) (f21 : 0 ≤ n9) (f22 : n9 = hV H0 (n6).toNat (n8).toNat) (f23 : n0 ≤ n9) (f24 : n10 = w32 (n0 - n1)) (f25 : n11 ≤ 1) (f26 : 0 ≤ n11) (f27 : (hLe T0 H0 H1 ∧ hFr s_242.2.2.2.2 H0 H1 ∧ ((0 : Int) = 0 → H1.length = H0.length) ∧ hWt T0 H1) ∧ (postb_242 n11 n2 n10 H0 H1 ∧ nb_242 n11 n2 n10 H0 H1)) (f28 : n11 ≠ 0) (f29 : n12 = w32 (n0 - n1)) (f30 : n13 = 0) (f31 : n14 ≤ 2147483647) (f32 : (-2147483648) ≤ n14) (f33 : (hLe T0 H1 H2 ∧ hFr s_243.2.2.2.2 H1 H2 ∧ ((0 : Int) = 0 → H2.length = H1.length) ∧ hWt T0 H2) ∧ (True ∧ nb_243 n14 n2 n1 n12 n13 H1 H2)) : nb_244 n14 n2 n1 n0 H0 H2 := by
  unfold nb_244
  intro ir mt
  obtain ⟨mf, ms, me, m5, m6, m7, mz⟩ := MTr mt
  have d9 := rdS (q := 285) f9 f4
  have d22 := rdW (q := 325) f22 f15
  have e_11 : n5 = n3 - (1) := by
    have w := f11
    rw [f10] at w
    rw [w]
    exact w32_id (by omega) (by omega)
  have e_19 : n8 = n5 - (1) := by
    have w := f19
    rw [f18] at w
    rw [w]
    exact w32_id (by omega) (by omega)
  have e_24 : n10 = n0 - n1 := by
    have w := f24
    rw [w]
    exact w32_id (by omega) (by omega)
  have e_29 : n12 = n0 - n1 := by
    have w := f29
    rw [w]
    exact w32_id (by omega) (by omega)
  have y5 := m5 (hV H0 285 60 - 1).toNat
  rw [show (n8).toNat = (hV H0 285 60 - 1 - 1).toNat by omega] at d22
  have q := f27.2.2
  unfold nb_242 at q
  have q := q mt
  rw [show n10 = (n0 - n1) by omega] at q
  have hc2 : hV H1 285 2 = hV H0 285 2 := f27.1.2.1.1 285 2 (by decide +kernel)
  have hc17 : hV H1 285 17 = hV H0 285 17 := f27.1.2.1.1 285 17 (by decide +kernel)
  have hc18 : hV H1 285 18 = hV H0 285 18 := f27.1.2.1.1 285 18 (by decide +kernel)
  have hc60 : hV H1 285 60 = hV H0 285 60 := f27.1.2.1.1 285 60 (by decide +kernel)
  have hr286 : hV H1 286 = hV H0 286 := fRow f27.1.2.1 286 (by decide +kernel)
  have hr325 : hV H1 325 = hV H0 325 := fRow f27.1.2.1 325 (by decide +kernel)
  have hr326 : hV H1 326 = hV H0 326 := fRow f27.1.2.1 326 (by decide +kernel)
  have hr327 : hV H1 327 = hV H0 327 := fRow f27.1.2.1 327 (by decide +kernel)
  have hr293 : hV H1 293 = hV H0 293 := fRow f27.1.2.1 293 (by decide +kernel)
  have hs : mR H1 = mR H0 := (mR_mk (a := H0) hc2 (BT_same hr286) hc17 hc18 hc60 hr325 hr326 hr327 (tdR_same hc18 hc60 hr293))
  have p := f33.2.2
  unfold nb_243 at p
  have p := p (by rw [hs]; exact mt)
  rw [hr325, hr326, hr327, hc60, show n12 = (n0 - n1) by omega, if_pos (by omega)] at p
  obtain ⟨p5, p6, p7, pr⟩ := p
  have c2 : hV H2 285 2 = hV H0 285 2 := (f33.1.2.1.1 285 2 (by decide +kernel)).trans (f27.1.2.1.1 285 2 (by decide +kernel))
  have c17 : hV H2 285 17 = hV H0 285 17 := (f33.1.2.1.1 285 17 (by decide +kernel)).trans (f27.1.2.1.1 285 17 (by decide +kernel))
  have c18 : hV H2 285 18 = hV H0 285 18 := (f33.1.2.1.1 285 18 (by decide +kernel)).trans (f27.1.2.1.1 285 18 (by decide +kernel))
  have c60 : hV H2 285 60 = hV H0 285 60 := (f33.1.2.1.1 285 60 (by decide +kernel)).trans (f27.1.2.1.1 285 60 (by decide +kernel))
  have r286 : hV H2 286 = hV H0 286 := (fRow f33.1.2.1 286 (by decide +kernel)).trans (fRow f27.1.2.1 286 (by decide +kernel))
  have r293 : hV H2 293 = hV H0 293 := (fRow f33.1.2.1 293 (by decide +kernel)).trans (fRow f27.1.2.1 293 (by decide +kernel))
  rcases q with ⟨q, _⟩ | ⟨_, q⟩
  · exfalso
    omega
  · refine ⟨IRm_same c18 c60 r293 ir, ?_⟩
    have cc : ¬ (hV H0 285 60 - 1 = 0 ∨ tdR H0 = 1 ∨ 10 ≤ hV H0 326 (hV H0 285 60 - 1).toNat ∨ (n0 - n1) < 1 ∨ 60 - hV H0 325 (hV H0 285 60 - 1).toNat < (n0 - n1)) := fun w => by
      rcases w with w | w | w | w | w
      · exact q (.inl w)
      · exact q (.inr (.inl w))
      · exact q (.inr (.inr (.inl w)))
      · omega
      · exact q (.inr (.inr (.inr w)))
    rw [mR_mk (a := H0) c2 (BT_same r286) c17 c18 c60 p5 p6 p7 (tdR_same c18 c60 r293), show mKeep n1 n0 (mR H0) = mExt n1 (n0 - n1) (mR H0) from if_neg (by show ¬ (hV H0 285 60 - 1 = 0 ∨ n1 < 0 ∨ n0 ≤ n1 ∨ hV H0 325 (hV H0 285 60 - 1 - 1).toNat < n0); omega), show mExt n1 (n0 - n1) (mR H0) = _ from if_neg cc]
    exact Prod.ext rfl (by show n14 = hV H0 325 (hV H0 285 60 - 1).toNat + (n0 - n1); omega)
def g_244w_s_4 : vG := ([(1243, [14, 0, 1, 12, 13], [1, 2], 0), (90, [14], [], -2147483648), (91, [14], [], 2147483647), (0, [13], [], 0), (2, [12, 2, 1], [], 0), (31, [11], [], 0), (1242, [11, 0, 10], [0, 1], 0), (90, [11], [], 0), (91, [11], [], 1), (2, [10, 2, 1], [], 0), (45, [2, 9], [], 0), (22, [9, 6, 8], [0], 0), (90, [9], [], 0), (91, [9], [], 60), (2, [8, 5, 7], [], 0), (0, [7], [], 1), (20, [6, 0], [0], 61), (23, [0], [0], 12), (0, [6], [], 325), (42, [1, 2], [], 0), (33, [1], [], 0), (31, [5], [], 0), (2, [5, 3, 4], [], 0), (0, [4], [], 1), (20, [3, 0], [0], 60), (23, [0], [0], 12), (90, [3], [], 1), (91, [3], [], 6), (6000, [0, 1, 2], [0], 0), (0, [0], [], 285), (90, [1], [], -2147483648), (91, [1], [], 2147483647), (90, [2], [], -2147483648), (91, [2], [], 2147483647)], (3000, [14], [2], 53))
theorem c_244w_s_4 : vOkm T0 (eN e_244 L_244w A_244 mu_244 n_244 B_244 none) 3 g_244w_s_4 := vOk_inI fun ρ η f0 f1 f2 f3 f4 f5 f6 f7 f8 f9 f10 f11 f12 f13 f14 f15 f16 f17 f18 f19 f20 f21 f22 f23 f24 f25 f26 f27 f28 f29 f30 f31 f32 f33 => q_244w_4 (n0 := ρ 2) (n1 := ρ 1) (n2 := ρ 0) (n3 := ρ 3) (n4 := ρ 4) (n5 := ρ 5) (n6 := ρ 6) (n7 := ρ 7) (n8 := ρ 8) (n9 := ρ 9) (n10 := ρ 10) (n11 := ρ 11) (n12 := ρ 12) (n13 := ρ 13) (n14 := ρ 14) (H0 := η 0) (H1 := η 1) (H2 := η 2) f33 f32 f31 f30 f29 f28 f27 f26 f25 f24 f23 f22 f21 f20 f19 f18 f17 f16 f15 f14 f13 f12 f11 f10 f9 f8 f7 f6 f5 f4 f3 f2 f1 f0
theorem q_244w_5 {n0 n1 n2 n3 n4 n5 n6 n7 n8 n9 n10 n11 n12 : Int} {H0 H1 : gH} (f0 : n0 ≤ 2147483647) (f1 : (-2147483648) ≤ n0) (f2 : n1 ≤ 2147483647) (f3 : (-2147483648) ≤ n1) (f4 : n2 = 285) (f5 : hWt T0 H0 ∧ True) (f6 : n3 ≤ 6) (f7 : 1 ≤ n3) (f8 : hK H0 (n2).toNat = 12) (f9 : n3 = hV H0 (n2).toNat 60) (f10 : n4 = 1) (f11 : n5 = w32 (n3 - n4)) (f12 : n5 ≠ 0) (f13 : 0 ≤ n1) (f14 : n1 < n0) (f15 : n6 = 325) (f16 : hK H0 (n2).toNat = 12) (f17 : n6 = hV H0 (n2).toNat 61) (f18 : n7 = 1) (f19 : n8 = w32 (n5 - n7)) (f20 : n9 ≤ 60) (f21 : 0 ≤ n9) (f22 : n9 = hV H0 (n6).toNat (n8).toNat) (f23 : n0 ≤ n9) (f24 : n10 = w32 (n0 - n1)) (f25 : n11 ≤ 1) (f26 : 0 ≤ n11) (f27 : (hLe T0 H0 H1 ∧ hFr s_242.2.2.2.2 H0 H1 ∧ ((0 : Int) = 0 → H1.length = H0.length) ∧ hWt T0 H1) ∧ (postb_242 n11 n2 n10 H0 H1 ∧ nb_242 n11 n2 n10 H0 H1)) (f28 : n11 = 0) (f29 : n12 = (-1)) : nb_244 n12 n2 n1 n0 H0 H1 := by
  unfold nb_244
  intro ir mt
  obtain ⟨mf, ms, me, m5, m6, m7, mz⟩ := MTr mt
  have d9 := rdS (q := 285) f9 f4
  have d22 := rdW (q := 325) f22 f15
  have e_11 : n5 = n3 - (1) := by
    have w := f11
    rw [f10] at w
    rw [w]
    exact w32_id (by omega) (by omega)
  have e_19 : n8 = n5 - (1) := by
    have w := f19
    rw [f18] at w
    rw [w]
    exact w32_id (by omega) (by omega)
  have e_24 : n10 = n0 - n1 := by
    have w := f24
    rw [w]
    exact w32_id (by omega) (by omega)
  have y5 := m5 (hV H0 285 60 - 1).toNat
  rw [show (n8).toNat = (hV H0 285 60 - 1 - 1).toNat by omega] at d22
  have c2 : hV H1 285 2 = hV H0 285 2 := f27.1.2.1.1 285 2 (by decide +kernel)
  have c17 : hV H1 285 17 = hV H0 285 17 := f27.1.2.1.1 285 17 (by decide +kernel)
  have c18 : hV H1 285 18 = hV H0 285 18 := f27.1.2.1.1 285 18 (by decide +kernel)
  have c60 : hV H1 285 60 = hV H0 285 60 := f27.1.2.1.1 285 60 (by decide +kernel)
  have r286 : hV H1 286 = hV H0 286 := fRow f27.1.2.1 286 (by decide +kernel)
  have r325 : hV H1 325 = hV H0 325 := fRow f27.1.2.1 325 (by decide +kernel)
  have r326 : hV H1 326 = hV H0 326 := fRow f27.1.2.1 326 (by decide +kernel)
  have r327 : hV H1 327 = hV H0 327 := fRow f27.1.2.1 327 (by decide +kernel)
  have r293 : hV H1 293 = hV H0 293 := fRow f27.1.2.1 293 (by decide +kernel)
  have q := f27.2.2
  unfold nb_242 at q
  have q := q mt
  rw [show n10 = (n0 - n1) by omega] at q
  rcases q with ⟨_, q⟩ | ⟨q, _⟩
  · refine ⟨IRm_same c18 c60 r293 ir, ?_⟩
    have cc : hV H0 285 60 - 1 = 0 ∨ tdR H0 = 1 ∨ 10 ≤ hV H0 326 (hV H0 285 60 - 1).toNat ∨ (n0 - n1) < 1 ∨ 60 - hV H0 325 (hV H0 285 60 - 1).toNat < (n0 - n1) := by
      rcases q with q | q | q | q
      · exact .inl q
      · exact .inr (.inl q)
      · exact .inr (.inr (.inl q))
      · exact .inr (.inr (.inr (.inr q)))
    rw [show mR H1 = mR H0 from (mR_mk (a := H0) c2 (BT_same r286) c17 c18 c60 r325 r326 r327 (tdR_same c18 c60 r293)), show mKeep n1 n0 (mR H0) = mExt n1 (n0 - n1) (mR H0) from if_neg (by show ¬ (hV H0 285 60 - 1 = 0 ∨ n1 < 0 ∨ n0 ≤ n1 ∨ hV H0 325 (hV H0 285 60 - 1 - 1).toNat < n0); omega), show mExt n1 (n0 - n1) (mR H0) = _ from if_pos cc, show n12 = -1 by omega]
  · exfalso
    omega
def g_244w_s_5 : vG := ([(0, [12], [], -1), (30, [11], [], 0), (1242, [11, 0, 10], [0, 1], 0), (90, [11], [], 0), (91, [11], [], 1), (2, [10, 2, 1], [], 0), (45, [2, 9], [], 0), (22, [9, 6, 8], [0], 0), (90, [9], [], 0), (91, [9], [], 60), (2, [8, 5, 7], [], 0), (0, [7], [], 1), (20, [6, 0], [0], 61), (23, [0], [0], 12), (0, [6], [], 325), (42, [1, 2], [], 0), (33, [1], [], 0), (31, [5], [], 0), (2, [5, 3, 4], [], 0), (0, [4], [], 1), (20, [3, 0], [0], 60), (23, [0], [0], 12), (90, [3], [], 1), (91, [3], [], 6), (6000, [0, 1, 2], [0], 0), (0, [0], [], 285), (90, [1], [], -2147483648), (91, [1], [], 2147483647), (90, [2], [], -2147483648), (91, [2], [], 2147483647)], (3000, [12], [1], 43))
theorem c_244w_s_5 : vOkm T0 (eN e_244 L_244w A_244 mu_244 n_244 B_244 none) 3 g_244w_s_5 := vOk_inI fun ρ η f0 f1 f2 f3 f4 f5 f6 f7 f8 f9 f10 f11 f12 f13 f14 f15 f16 f17 f18 f19 f20 f21 f22 f23 f24 f25 f26 f27 f28 f29 => q_244w_5 (n0 := ρ 2) (n1 := ρ 1) (n2 := ρ 0) (n3 := ρ 3) (n4 := ρ 4) (n5 := ρ 5) (n6 := ρ 6) (n7 := ρ 7) (n8 := ρ 8) (n9 := ρ 9) (n10 := ρ 10) (n11 := ρ 11) (n12 := ρ 12) (H0 := η 0) (H1 := η 1) f29 f28 f27 f26 f25 f24 f23 f22 f21 f20 f19 f18 f17 f16 f15 f14 f13 f12 f11 f10 f9 f8 f7 f6 f5 f4 f3 f2 f1 f0
def p_244w_s : List vG := [g_244w_s_0,
  g_244w_s_1,
  g_244w_s_2,
  g_244w_s_3,
  g_244w_s_4,
  g_244w_s_5]
theorem r_244w_s : vCovBO (eR0 e_244 L_244 cs_244 2000) p_244w_s = true := by decide +kernel
theorem m_244w (d : Nat) : eC e_244w (d + 2) := eC_ref (e := e_244) (L := L_244) (L' := L_244w) (cs := cs_244) (n := 2000) (d := d + 1) (A := A_244) (μ := mu_244) (tp := true) (p0 := p_244_s) (p1 := p_244w_s) (N := n_244) (B := B_244) rfl ⟨m_242w d, ⟨m_243w d, trivial⟩⟩ rfl (.inr pre0_ok) (by decide +kernel) (fun _ => post0_ok) r_244_s (allC c_244_s_0 (allC c_244_s_1 (allC c_244_s_2 (allC c_244_s_3 (allC c_244_s_4 (allC c_244_s_5 (allC c_244_s_6 allN))))))) allN (sub1 (sub1 trivial)) r_244w_s (allC c_244w_s_0 (allC c_244w_s_1 (allC c_244w_s_2 (allC c_244w_s_3 (allC c_244w_s_4 (allC c_244w_s_5 allN)))))) allN
/- MixStageModel.blank (I)I, more fully -/
def nb_245 (r a0 a1 : Int) (h0 h : gH) : Prop := IRm h0 → MT (mR h0) → IRm h ∧ (mR h, r) = mExt (-1) a1 (mR h0)
def n_245 : List Int → gH → gH → Prop := fun xs h0 h => match xs with
  | [r, a0, a1] => nb_245 r a0 a1 h0 h
  | _ => True
noncomputable def e_245w : vE := eV e_245 n_245
noncomputable def L_245w : List vE := [e_242w, e_243w]
def B_245 : Int → List Int → gH → gH → Prop := fun c xs h0 h => True
theorem q_245w_0 {n0 n1 n2 n3 : Int} {H0 : gH} (f0 : n0 ≤ 2147483647) (f1 : (-2147483648) ≤ n0) (f2 : n1 = 285) (f3 : hWt T0 H0 ∧ True) (f4 : n2 = 1) (f5 : n0 < n2) (f6 : n3 = (-1)) : nb_245 n3 n1 n0 H0 H0 := by
  unfold nb_245
  intro ir mt
  obtain ⟨mf, ms, me, m5, m6, m7, mz⟩ := MTr mt
  have y5 := m5 (hV H0 285 60 - 1).toNat
  refine ⟨ir, ?_⟩
  rw [show mExt (-1) n0 (mR H0) = _ from if_pos (by show hV H0 285 60 - 1 = 0 ∨ tdR H0 = 1 ∨ 10 ≤ hV H0 326 (hV H0 285 60 - 1).toNat ∨ n0 < 1 ∨ 60 - hV H0 325 (hV H0 285 60 - 1).toNat < n0; omega), show n3 = -1 by omega]
def g_245w_s_0 : vG := ([(0, [3], [], -1), (42, [1, 2], [], 0), (0, [2], [], 1), (6000, [0, 1], [0], 0), (0, [0], [], 285), (90, [1], [], -2147483648), (91, [1], [], 2147483647)], (3000, [3], [0], 20))
theorem c_245w_s_0 : vOkm T0 (eN e_245 L_245w A_245 mu_245 n_245 B_245 none) 2 g_245w_s_0 := vOk_inI fun ρ η f0 f1 f2 f3 f4 f5 f6 => q_245w_0 (n0 := ρ 1) (n1 := ρ 0) (n2 := ρ 2) (n3 := ρ 3) (H0 := η 0) f6 f5 f4 f3 f2 f1 f0
theorem q_245w_1 {n0 n1 n2 n3 n4 : Int} {H0 : gH} (f0 : n0 ≤ 2147483647) (f1 : (-2147483648) ≤ n0) (f2 : n1 = 285) (f3 : hWt T0 H0 ∧ True) (f4 : n2 = 1) (f5 : n2 ≤ n0) (f6 : n3 = 60) (f7 : n3 < n0) (f8 : n4 = (-1)) : nb_245 n4 n1 n0 H0 H0 := by
  unfold nb_245
  intro ir mt
  obtain ⟨mf, ms, me, m5, m6, m7, mz⟩ := MTr mt
  have y5 := m5 (hV H0 285 60 - 1).toNat
  refine ⟨ir, ?_⟩
  rw [show mExt (-1) n0 (mR H0) = _ from if_pos (by show hV H0 285 60 - 1 = 0 ∨ tdR H0 = 1 ∨ 10 ≤ hV H0 326 (hV H0 285 60 - 1).toNat ∨ n0 < 1 ∨ 60 - hV H0 325 (hV H0 285 60 - 1).toNat < n0; omega), show n4 = -1 by omega]
def g_245w_s_1 : vG := ([(0, [4], [], -1), (44, [1, 3], [], 0), (0, [3], [], 60), (43, [1, 2], [], 0), (0, [2], [], 1), (6000, [0, 1], [0], 0), (0, [0], [], 285), (90, [1], [], -2147483648), (91, [1], [], 2147483647)], (3000, [4], [0], 20))
theorem c_245w_s_1 : vOkm T0 (eN e_245 L_245w A_245 mu_245 n_245 B_245 none) 2 g_245w_s_1 := vOk_inI fun ρ η f0 f1 f2 f3 f4 f5 f6 f7 f8 => q_245w_1 (n0 := ρ 1) (n1 := ρ 0) (n2 := ρ 2) (n3 := ρ 3) (n4 := ρ 4) (H0 := η 0) f8 f7 f6 f5 f4 f3 f2 f1 f0
theorem q_245w_2 {n0 n1 n2 n3 n4 n5 n6 n7 : Int} {H0 H1 H2 : gH} (f0 : n0 ≤ 2147483647) (f1 : (-2147483648) ≤ n0) (f2 : n1 = 285) (f3 : hWt T0 H0 ∧ True) (f4 : n2 = 1) (f5 : n2 ≤ n0) (f6 : n3 = 60) (f7 : n0 ≤ n3) (f8 : n4 ≤ 1) (f9 : 0 ≤ n4) (f10 : (hLe T0 H0 H1 ∧ hFr s_242.2.2.2.2 H0 H1 ∧ ((0 : Int) = 0 → H1.length = H0.length) ∧ hWt T0 H1) ∧ (postb_242 n4 n1 n0 H0 H1 ∧ nb_242 n4 n1 n0 H0 H1)) (f11 : n4 ≠ 0) (f12 : n5 = 0) (f13 : n6 = 1) (f14 : n7 ≤ 2147483647) (f15 : (-2147483648) ≤ n7) (f16 : (hLe T0 H1 H2 ∧ hFr s_243.2.2.2.2 H1 H2 ∧ ((0 : Int) = 0 → H2.length = H1.length) ∧ hWt T0 H2) ∧ (True ∧ nb_243 n7 n1 n5 n0 n6 H1 H2)) : nb_245 n7 n1 n0 H0 H2 := by
  unfold nb_245
  intro ir mt
  obtain ⟨mf, ms, me, m5, m6, m7, mz⟩ := MTr mt
  have y5 := m5 (hV H0 285 60 - 1).toNat
  have q := f10.2.2
  unfold nb_242 at q
  have q := q mt
  rw [show n0 = n0 by omega] at q
  have hc2 : hV H1 285 2 = hV H0 285 2 := f10.1.2.1.1 285 2 (by decide +kernel)
  have hc17 : hV H1 285 17 = hV H0 285 17 := f10.1.2.1.1 285 17 (by decide +kernel)
  have hc18 : hV H1 285 18 = hV H0 285 18 := f10.1.2.1.1 285 18 (by decide +kernel)
  have hc60 : hV H1 285 60 = hV H0 285 60 := f10.1.2.1.1 285 60 (by decide +kernel)
  have hr286 : hV H1 286 = hV H0 286 := fRow f10.1.2.1 286 (by decide +kernel)
  have hr325 : hV H1 325 = hV H0 325 := fRow f10.1.2.1 325 (by decide +kernel)
  have hr326 : hV H1 326 = hV H0 326 := fRow f10.1.2.1 326 (by decide +kernel)
  have hr327 : hV H1 327 = hV H0 327 := fRow f10.1.2.1 327 (by decide +kernel)
  have hr293 : hV H1 293 = hV H0 293 := fRow f10.1.2.1 293 (by decide +kernel)
  have hs : mR H1 = mR H0 := (mR_mk (a := H0) hc2 (BT_same hr286) hc17 hc18 hc60 hr325 hr326 hr327 (tdR_same hc18 hc60 hr293))
  have p := f16.2.2
  unfold nb_243 at p
  have p := p (by rw [hs]; exact mt)
  rw [hr325, hr326, hr327, hc60, show n0 = n0 by omega, if_neg (by omega)] at p
  obtain ⟨p5, p6, p7, pr⟩ := p
  have c2 : hV H2 285 2 = hV H0 285 2 := (f16.1.2.1.1 285 2 (by decide +kernel)).trans (f10.1.2.1.1 285 2 (by decide +kernel))
  have c17 : hV H2 285 17 = hV H0 285 17 := (f16.1.2.1.1 285 17 (by decide +kernel)).trans (f10.1.2.1.1 285 17 (by decide +kernel))
  have c18 : hV H2 285 18 = hV H0 285 18 := (f16.1.2.1.1 285 18 (by decide +kernel)).trans (f10.1.2.1.1 285 18 (by decide +kernel))
  have c60 : hV H2 285 60 = hV H0 285 60 := (f16.1.2.1.1 285 60 (by decide +kernel)).trans (f10.1.2.1.1 285 60 (by decide +kernel))
  have r286 : hV H2 286 = hV H0 286 := (fRow f16.1.2.1 286 (by decide +kernel)).trans (fRow f10.1.2.1 286 (by decide +kernel))
  have r293 : hV H2 293 = hV H0 293 := (fRow f16.1.2.1 293 (by decide +kernel)).trans (fRow f10.1.2.1 293 (by decide +kernel))
  rcases q with ⟨q, _⟩ | ⟨_, q⟩
  · exfalso
    omega
  · refine ⟨IRm_same c18 c60 r293 ir, ?_⟩
    have cc : ¬ (hV H0 285 60 - 1 = 0 ∨ tdR H0 = 1 ∨ 10 ≤ hV H0 326 (hV H0 285 60 - 1).toNat ∨ n0 < 1 ∨ 60 - hV H0 325 (hV H0 285 60 - 1).toNat < n0) := fun w => by
      rcases w with w | w | w | w | w
      · exact q (.inl w)
      · exact q (.inr (.inl w))
      · exact q (.inr (.inr (.inl w)))
      · omega
      · exact q (.inr (.inr (.inr w)))
    rw [mR_mk (a := H0) c2 (BT_same r286) c17 c18 c60 p5 p6 p7 (tdR_same c18 c60 r293), show mExt (-1) n0 (mR H0) = _ from if_neg cc]
    exact Prod.ext rfl (by show n7 = hV H0 325 (hV H0 285 60 - 1).toNat + n0; omega)
def g_245w_s_2 : vG := ([(1243, [7, 0, 5, 1, 6], [1, 2], 0), (90, [7], [], -2147483648), (91, [7], [], 2147483647), (0, [6], [], 1), (0, [5], [], 0), (31, [4], [], 0), (1242, [4, 0, 1], [0, 1], 0), (90, [4], [], 0), (91, [4], [], 1), (45, [1, 3], [], 0), (0, [3], [], 60), (43, [1, 2], [], 0), (0, [2], [], 1), (6000, [0, 1], [0], 0), (0, [0], [], 285), (90, [1], [], -2147483648), (91, [1], [], 2147483647)], (3000, [7], [2], 28))
theorem c_245w_s_2 : vOkm T0 (eN e_245 L_245w A_245 mu_245 n_245 B_245 none) 2 g_245w_s_2 := vOk_inI fun ρ η f0 f1 f2 f3 f4 f5 f6 f7 f8 f9 f10 f11 f12 f13 f14 f15 f16 => q_245w_2 (n0 := ρ 1) (n1 := ρ 0) (n2 := ρ 2) (n3 := ρ 3) (n4 := ρ 4) (n5 := ρ 5) (n6 := ρ 6) (n7 := ρ 7) (H0 := η 0) (H1 := η 1) (H2 := η 2) f16 f15 f14 f13 f12 f11 f10 f9 f8 f7 f6 f5 f4 f3 f2 f1 f0
theorem q_245w_3 {n0 n1 n2 n3 n4 n5 : Int} {H0 H1 : gH} (f0 : n0 ≤ 2147483647) (f1 : (-2147483648) ≤ n0) (f2 : n1 = 285) (f3 : hWt T0 H0 ∧ True) (f4 : n2 = 1) (f5 : n2 ≤ n0) (f6 : n3 = 60) (f7 : n0 ≤ n3) (f8 : n4 ≤ 1) (f9 : 0 ≤ n4) (f10 : (hLe T0 H0 H1 ∧ hFr s_242.2.2.2.2 H0 H1 ∧ ((0 : Int) = 0 → H1.length = H0.length) ∧ hWt T0 H1) ∧ (postb_242 n4 n1 n0 H0 H1 ∧ nb_242 n4 n1 n0 H0 H1)) (f11 : n4 = 0) (f12 : n5 = (-1)) : nb_245 n5 n1 n0 H0 H1 := by
  unfold nb_245
  intro ir mt
  obtain ⟨mf, ms, me, m5, m6, m7, mz⟩ := MTr mt
  have y5 := m5 (hV H0 285 60 - 1).toNat
  have c2 : hV H1 285 2 = hV H0 285 2 := f10.1.2.1.1 285 2 (by decide +kernel)
  have c17 : hV H1 285 17 = hV H0 285 17 := f10.1.2.1.1 285 17 (by decide +kernel)
  have c18 : hV H1 285 18 = hV H0 285 18 := f10.1.2.1.1 285 18 (by decide +kernel)
  have c60 : hV H1 285 60 = hV H0 285 60 := f10.1.2.1.1 285 60 (by decide +kernel)
  have r286 : hV H1 286 = hV H0 286 := fRow f10.1.2.1 286 (by decide +kernel)
  have r325 : hV H1 325 = hV H0 325 := fRow f10.1.2.1 325 (by decide +kernel)
  have r326 : hV H1 326 = hV H0 326 := fRow f10.1.2.1 326 (by decide +kernel)
  have r327 : hV H1 327 = hV H0 327 := fRow f10.1.2.1 327 (by decide +kernel)
  have r293 : hV H1 293 = hV H0 293 := fRow f10.1.2.1 293 (by decide +kernel)
  have q := f10.2.2
  unfold nb_242 at q
  have q := q mt
  rw [show n0 = n0 by omega] at q
  rcases q with ⟨_, q⟩ | ⟨q, _⟩
  · refine ⟨IRm_same c18 c60 r293 ir, ?_⟩
    have cc : hV H0 285 60 - 1 = 0 ∨ tdR H0 = 1 ∨ 10 ≤ hV H0 326 (hV H0 285 60 - 1).toNat ∨ n0 < 1 ∨ 60 - hV H0 325 (hV H0 285 60 - 1).toNat < n0 := by
      rcases q with q | q | q | q
      · exact .inl q
      · exact .inr (.inl q)
      · exact .inr (.inr (.inl q))
      · exact .inr (.inr (.inr (.inr q)))
    rw [show mR H1 = mR H0 from (mR_mk (a := H0) c2 (BT_same r286) c17 c18 c60 r325 r326 r327 (tdR_same c18 c60 r293)), show mExt (-1) n0 (mR H0) = _ from if_pos cc, show n5 = -1 by omega]
  · exfalso
    omega
def g_245w_s_3 : vG := ([(0, [5], [], -1), (30, [4], [], 0), (1242, [4, 0, 1], [0, 1], 0), (90, [4], [], 0), (91, [4], [], 1), (45, [1, 3], [], 0), (0, [3], [], 60), (43, [1, 2], [], 0), (0, [2], [], 1), (6000, [0, 1], [0], 0), (0, [0], [], 285), (90, [1], [], -2147483648), (91, [1], [], 2147483647)], (3000, [5], [1], 20))
theorem c_245w_s_3 : vOkm T0 (eN e_245 L_245w A_245 mu_245 n_245 B_245 none) 2 g_245w_s_3 := vOk_inI fun ρ η f0 f1 f2 f3 f4 f5 f6 f7 f8 f9 f10 f11 f12 => q_245w_3 (n0 := ρ 1) (n1 := ρ 0) (n2 := ρ 2) (n3 := ρ 3) (n4 := ρ 4) (n5 := ρ 5) (H0 := η 0) (H1 := η 1) f12 f11 f10 f9 f8 f7 f6 f5 f4 f3 f2 f1 f0
def p_245w_s : List vG := [g_245w_s_0,
  g_245w_s_1,
  g_245w_s_2,
  g_245w_s_3]
theorem r_245w_s : vCovBO (eR0 e_245 L_245 cs_245 2000) p_245w_s = true := by decide +kernel
theorem m_245w (d : Nat) : eC e_245w (d + 2) := eC_ref (e := e_245) (L := L_245) (L' := L_245w) (cs := cs_245) (n := 2000) (d := d + 1) (A := A_245) (μ := mu_245) (tp := true) (p0 := p_245_s) (p1 := p_245w_s) (N := n_245) (B := B_245) rfl ⟨m_242w d, ⟨m_243w d, trivial⟩⟩ rfl (.inr pre0_ok) (by decide +kernel) (fun _ => post0_ok) r_245_s (allC c_245_s_0 (allC c_245_s_1 (allC c_245_s_2 (allC c_245_s_3 (allC c_245_s_4 allN))))) allN (sub1 (sub1 trivial)) r_245w_s (allC c_245w_s_0 (allC c_245w_s_1 (allC c_245w_s_2 (allC c_245w_s_3 allN)))) allN
/- MixStageModel.frames (I)I, more fully -/
def nb_247 (r a0 a1 : Int) (h0 h : gH) : Prop := r = mFrames a1 (mR h0)
def n_247 : List Int → gH → gH → Prop := fun xs h0 h => match xs with
  | [r, a0, a1] => nb_247 r a0 a1 h0 h
  | _ => True
noncomputable def e_247w : vE := eV e_247 n_247
noncomputable def L_247w : List vE := [e_246]
def B_247 : Int → List Int → gH → gH → Prop := fun c xs h0 h => True
theorem q_247w_0 {n0 n1 n2 n3 : Int} {H0 H1 : gH} (f0 : n0 ≤ 2147483647) (f1 : (-2147483648) ≤ n0) (f2 : n1 = 285) (f3 : hWt T0 H0 ∧ True) (f4 : n2 ≤ 1) (f5 : 0 ≤ n2) (f6 : (hLe T0 H0 H1 ∧ hFr s_246.2.2.2.2 H0 H1 ∧ ((0 : Int) = 0 → H1.length = H0.length) ∧ hWt T0 H1) ∧ postb_246 n2 n1 n0 H0 H1) (f7 : n2 = 0) (f8 : n3 = (-1)) : nb_247 n3 n1 n0 H0 H1 := by
  unfold nb_247
  have q := f6.2
  unfold postb_246 at q
  rw [show hV H1 285 60 = hV H0 285 60 from f6.1.2.1.1 285 60 (by decide +kernel)] at q
  by_cases c : 0 ≤ n0 ∧ n0 < hV H0 285 60
  · rw [show mFrames n0 (mR H0) = _ from if_pos c]
    show _ = hV H0 325 (n0).toNat
    omega
  · rw [show mFrames n0 (mR H0) = _ from if_neg c]
    omega
def g_247w_s_0 : vG := ([(0, [3], [], -1), (30, [2], [], 0), (1246, [2, 0, 1], [0, 1], 0), (90, [2], [], 0), (91, [2], [], 1), (6000, [0, 1], [0], 0), (0, [0], [], 285), (90, [1], [], -2147483648), (91, [1], [], 2147483647)], (3000, [3], [1], 18))
theorem c_247w_s_0 : vOkm T0 (eN e_247 L_247w A_247 mu_247 n_247 B_247 none) 2 g_247w_s_0 := vOk_inI fun ρ η f0 f1 f2 f3 f4 f5 f6 f7 f8 => q_247w_0 (n0 := ρ 1) (n1 := ρ 0) (n2 := ρ 2) (n3 := ρ 3) (H0 := η 0) (H1 := η 1) f8 f7 f6 f5 f4 f3 f2 f1 f0
theorem q_247w_1 {n0 n1 n2 n3 n4 : Int} {H0 H1 : gH} (f0 : n0 ≤ 2147483647) (f1 : (-2147483648) ≤ n0) (f2 : n1 = 285) (f3 : hWt T0 H0 ∧ True) (f4 : n2 ≤ 1) (f5 : 0 ≤ n2) (f6 : (hLe T0 H0 H1 ∧ hFr s_246.2.2.2.2 H0 H1 ∧ ((0 : Int) = 0 → H1.length = H0.length) ∧ hWt T0 H1) ∧ postb_246 n2 n1 n0 H0 H1) (f7 : n2 ≠ 0) (f8 : n3 = 325) (f9 : hK H1 (n1).toNat = 12) (f10 : n3 = hV H1 (n1).toNat 61) (f11 : n4 ≤ 60) (f12 : 0 ≤ n4) (f13 : n4 = hV H1 (n3).toNat (n0).toNat) : nb_247 n4 n1 n0 H0 H1 := by
  unfold nb_247
  have q := f6.2
  unfold postb_246 at q
  rw [show hV H1 285 60 = hV H0 285 60 from f6.1.2.1.1 285 60 (by decide +kernel)] at q
  have d13 := rdW (q := 325) f13 f8
  rw [show hV H1 325 = hV H0 325 from fRow f6.1.2.1 325 (by decide +kernel)] at d13
  by_cases c : 0 ≤ n0 ∧ n0 < hV H0 285 60
  · rw [show mFrames n0 (mR H0) = _ from if_pos c]
    show _ = hV H0 325 (n0).toNat
    omega
  · rw [show mFrames n0 (mR H0) = _ from if_neg c]
    omega
def g_247w_s_1 : vG := ([(22, [4, 3, 1], [1], 0), (90, [4], [], 0), (91, [4], [], 60), (20, [3, 0], [1], 61), (23, [0], [1], 12), (0, [3], [], 325), (31, [2], [], 0), (1246, [2, 0, 1], [0, 1], 0), (90, [2], [], 0), (91, [2], [], 1), (6000, [0, 1], [0], 0), (0, [0], [], 285), (90, [1], [], -2147483648), (91, [1], [], 2147483647)], (3000, [4], [1], 18))
theorem c_247w_s_1 : vOkm T0 (eN e_247 L_247w A_247 mu_247 n_247 B_247 none) 2 g_247w_s_1 := vOk_inI fun ρ η f0 f1 f2 f3 f4 f5 f6 f7 f8 f9 f10 f11 f12 f13 => q_247w_1 (n0 := ρ 1) (n1 := ρ 0) (n2 := ρ 2) (n3 := ρ 3) (n4 := ρ 4) (H0 := η 0) (H1 := η 1) f13 f12 f11 f10 f9 f8 f7 f6 f5 f4 f3 f2 f1 f0
def p_247w_s : List vG := [g_247w_s_0,
  g_247w_s_1]
theorem r_247w_s : vCovBO (eR0 e_247 L_247 cs_247 2000) p_247w_s = true := by decide +kernel
theorem m_247w (d : Nat) : eC e_247w (d + 2) := eC_ref (e := e_247) (L := L_247) (L' := L_247w) (cs := cs_247) (n := 2000) (d := d + 1) (A := A_247) (μ := mu_247) (tp := true) (p0 := p_247_s) (p1 := p_247w_s) (N := n_247) (B := B_247) rfl ⟨m_246 d, trivial⟩ rfl (.inr pre0_ok) (by decide +kernel) (fun _ => post0_ok) r_247_s (allC c_247_s_0 allN) allN (sub0 trivial) r_247w_s (allC c_247w_s_0 (allC c_247w_s_1 allN)) allN
/- MixStageModel.oldOf (III)I, more fully -/
def nb_248 (r a0 a1 a2 a3 : Int) (h0 h : gH) : Prop := MT (mR h0) → 0 ≤ a3 → a3 ≤ a1 → r = pFrom (hV h0 327) a3 (a1 - a3).toNat a2
def n_248 : List Int → gH → gH → Prop := fun xs h0 h => match xs with
  | [r, a0, a1, a2, a3] => nb_248 r a0 a1 a2 a3 h0 h
  | _ => True
noncomputable def e_248w : vE := eV e_248 n_248
noncomputable def L_248w : List vE := []
def Bb_248_6 (a0 a1 a2 a3 x0 x1 x2 x3 x4 x5 : Int) (h0 h : gH) : Prop := MT (mR h0) → 0 ≤ a3 → a3 ≤ a1 → a3 ≤ x5 ∧ pFrom (hV h0 327) a3 (x5 - a3).toNat x4 = pFrom (hV h0 327) a3 (a1 - a3).toNat a2
def B_248 : Int → List Int → gH → gH → Prop := fun c xs h0 h => match c.toNat with
  | 6 => (match xs with
    | [a0, a1, a2, a3, x0, x1, x2, x3, x4, x5] => Bb_248_6 a0 a1 a2 a3 x0 x1 x2 x3 x4 x5 h0 h
    | _ => False)
  | _ => True
theorem q_248w_0 {n0 n1 n2 n3 : Int} {H0 : gH} (f0 : n0 ≤ 2147483647) (f1 : 0 ≤ n0) (f2 : n1 ≤ 59) (f3 : (-1) ≤ n1) (f4 : n2 ≤ 5) (f5 : 0 ≤ n2) (f6 : n3 = 285) (f7 : hWt T0 H0 ∧ True) : Bb_248_6 n3 n2 n1 n0 n3 n2 n1 n0 n1 n2 H0 H0 := by
  unfold Bb_248_6
  intro mt c0 c
  exact ⟨by omega, rfl⟩
def g_248w_s_0 : vG := ([(6000, [0, 1, 2, 3], [0], 0), (0, [0], [], 285), (90, [1], [], 0), (91, [1], [], 5), (90, [2], [], -1), (91, [2], [], 59), (90, [3], [], 0), (91, [3], [], 2147483647)], (4000, [0, 1, 2, 3, 2, 1], [0], 6))
theorem c_248w_s_0 : vOkm T0 (eN e_248 L_248w A_248 mu_248 n_248 B_248 none) 4 g_248w_s_0 := vOk_inI fun ρ η f0 f1 f2 f3 f4 f5 f6 f7 => q_248w_0 (n0 := ρ 3) (n1 := ρ 2) (n2 := ρ 1) (n3 := ρ 0) (H0 := η 0) f7 f6 f5 f4 f3 f2 f1 f0
def p_248w_s : List vG := [g_248w_s_0]
theorem r_248w_s : vCovBO (eR0 e_248 L_248 cs_248 2000) p_248w_s = true := by decide +kernel
theorem q_248w_1 {q0 : Nat} {n0 n1 n2 n3 n4 n5 n6 n7 n8 n9 : Int} {H0 H1 : gH} (f0 : n0 ≤ 5) (f1 : 0 ≤ n0) (f2 : n1 ≤ 59) (f3 : (-1) ≤ n1) (f4 : n2 ≤ 2147483647) (f5 : 0 ≤ n2) (f6 : n3 ≤ 59) (f7 : (-1) ≤ n3) (f8 : n4 ≤ 5) (f9 : 0 ≤ n4) (f10 : n5 = 285) (f11 : n6 ≤ 2147483647) (f12 : 0 ≤ n6) (f13 : n7 ≤ 59) (f14 : (-1) ≤ n7) (f15 : n8 ≤ 5) (f16 : 0 ≤ n8) (f17 : n9 = 285) (f18 : (hLe T0 H0 H1 ∧ hFr s_248.2.2.2.2 H0 H1 ∧ hWt T0 H1) ∧ ((Ab_248_6 n9 n8 n7 n6 n5 n4 n3 n2 n1 n0 H0 H1 ∧ Bb_248_6 n9 n8 n7 n6 n5 n4 n3 n2 n1 n0 H0 H1) ∧ True) ∧ some q0 = some (mub_248_6 n9 n8 n7 n6 n5 n4 n3 n2 n1 n0 H0 H1)) (f19 : n0 ≤ n2) : nb_248 n1 n9 n8 n7 n6 H0 H1 := by
  have ga := f18.2.1.1.1
  unfold Ab_248_6 at ga
  have gb := f18.2.1.1.2
  unfold Bb_248_6 at gb
  obtain ⟨x1, x2, x3, x4⟩ := ga
  have w7 : hV H1 327 = hV H0 327 := fRow f18.1.2.1 327 (by decide +kernel)
  unfold nb_248
  intro mt c0 c
  obtain ⟨g1, g2⟩ := gb mt c0 c
  rw [← g2]
  first
  | (rw [show (n0 - n6).toNat = 0 by omega]; show _ = n1; omega)
  | (rw [show n1 = -1 by omega, pFrom_neg])
def g_248w_6_0 : vG := ([(45, [9, 7], [], 0), (5000, [0, 1, 2, 3, 4, 5, 6, 7, 8, 9], [0, 1], 6), (0, [0], [], 285), (90, [1], [], 0), (91, [1], [], 5), (90, [2], [], -1), (91, [2], [], 59), (90, [3], [], 0), (91, [3], [], 2147483647), (0, [4], [], 285), (90, [5], [], 0), (91, [5], [], 5), (90, [6], [], -1), (91, [6], [], 59), (90, [7], [], 0), (91, [7], [], 2147483647), (90, [8], [], -1), (91, [8], [], 59), (90, [9], [], 0), (91, [9], [], 5)], (3000, [8], [1], 41))
theorem c_248w_6_0 {q0 : Nat} : vOkm T0 (eN e_248 L_248w A_248 mu_248 n_248 B_248 (some q0)) 4 g_248w_6_0 := vOk_inI fun ρ η f0 f1 f2 f3 f4 f5 f6 f7 f8 f9 f10 f11 f12 f13 f14 f15 f16 f17 f18 f19 => q_248w_1 (q0 := q0) (n0 := ρ 9) (n1 := ρ 8) (n2 := ρ 7) (n3 := ρ 6) (n4 := ρ 5) (n5 := ρ 4) (n6 := ρ 3) (n7 := ρ 2) (n8 := ρ 1) (n9 := ρ 0) (H0 := η 0) (H1 := η 1) f19 f18 f17 f16 f15 f14 f13 f12 f11 f10 f9 f8 f7 f6 f5 f4 f3 f2 f1 f0
theorem q_248w_2 {q0 : Nat} {n0 n1 n2 n3 n4 n5 n6 n7 n8 n9 n10 : Int} {H0 H1 : gH} (f0 : n0 ≤ 5) (f1 : 0 ≤ n0) (f2 : n1 ≤ 59) (f3 : (-1) ≤ n1) (f4 : n2 ≤ 2147483647) (f5 : 0 ≤ n2) (f6 : n3 ≤ 59) (f7 : (-1) ≤ n3) (f8 : n4 ≤ 5) (f9 : 0 ≤ n4) (f10 : n5 = 285) (f11 : n6 ≤ 2147483647) (f12 : 0 ≤ n6) (f13 : n7 ≤ 59) (f14 : (-1) ≤ n7) (f15 : n8 ≤ 5) (f16 : 0 ≤ n8) (f17 : n9 = 285) (f18 : (hLe T0 H0 H1 ∧ hFr s_248.2.2.2.2 H0 H1 ∧ hWt T0 H1) ∧ ((Ab_248_6 n9 n8 n7 n6 n5 n4 n3 n2 n1 n0 H0 H1 ∧ Bb_248_6 n9 n8 n7 n6 n5 n4 n3 n2 n1 n0 H0 H1) ∧ True) ∧ some q0 = some (mub_248_6 n9 n8 n7 n6 n5 n4 n3 n2 n1 n0 H0 H1)) (f19 : n2 < n0) (f20 : n10 = (-1)) (f21 : n1 = n10) : nb_248 n1 n9 n8 n7 n6 H0 H1 := by
  have ga := f18.2.1.1.1
  unfold Ab_248_6 at ga
  have gb := f18.2.1.1.2
  unfold Bb_248_6 at gb
  obtain ⟨x1, x2, x3, x4⟩ := ga
  have w7 : hV H1 327 = hV H0 327 := fRow f18.1.2.1 327 (by decide +kernel)
  unfold nb_248
  intro mt c0 c
  obtain ⟨g1, g2⟩ := gb mt c0 c
  rw [← g2]
  first
  | (rw [show (n0 - n6).toNat = 0 by omega]; show _ = n1; omega)
  | (rw [show n1 = -1 by omega, pFrom_neg])
def g_248w_6_1 : vG := ([(40, [8, 10], [], 0), (0, [10], [], -1), (44, [9, 7], [], 0), (5000, [0, 1, 2, 3, 4, 5, 6, 7, 8, 9], [0, 1], 6), (0, [0], [], 285), (90, [1], [], 0), (91, [1], [], 5), (90, [2], [], -1), (91, [2], [], 59), (90, [3], [], 0), (91, [3], [], 2147483647), (0, [4], [], 285), (90, [5], [], 0), (91, [5], [], 5), (90, [6], [], -1), (91, [6], [], 59), (90, [7], [], 0), (91, [7], [], 2147483647), (90, [8], [], -1), (91, [8], [], 59), (90, [9], [], 0), (91, [9], [], 5)], (3000, [8], [1], 41))
theorem c_248w_6_1 {q0 : Nat} : vOkm T0 (eN e_248 L_248w A_248 mu_248 n_248 B_248 (some q0)) 4 g_248w_6_1 := vOk_inI fun ρ η f0 f1 f2 f3 f4 f5 f6 f7 f8 f9 f10 f11 f12 f13 f14 f15 f16 f17 f18 f19 f20 f21 => q_248w_2 (q0 := q0) (n0 := ρ 9) (n1 := ρ 8) (n2 := ρ 7) (n3 := ρ 6) (n4 := ρ 5) (n5 := ρ 4) (n6 := ρ 3) (n7 := ρ 2) (n8 := ρ 1) (n9 := ρ 0) (n10 := ρ 10) (H0 := η 0) (H1 := η 1) f21 f20 f19 f18 f17 f16 f15 f14 f13 f12 f11 f10 f9 f8 f7 f6 f5 f4 f3 f2 f1 f0
theorem q_248w_3 {q0 : Nat} {n0 n1 n2 n3 n4 n5 n6 n7 n8 n9 n10 n11 n12 n13 n14 n15 n16 : Int} {H0 H1 : gH} (f0 : n0 ≤ 5) (f1 : 0 ≤ n0) (f2 : n1 ≤ 59) (f3 : (-1) ≤ n1) (f4 : n2 ≤ 2147483647) (f5 : 0 ≤ n2) (f6 : n3 ≤ 59) (f7 : (-1) ≤ n3) (f8 : n4 ≤ 5) (f9 : 0 ≤ n4) (f10 : n5 = 285) (f11 : n6 ≤ 2147483647) (f12 : 0 ≤ n6) (f13 : n7 ≤ 59) (f14 : (-1) ≤ n7) (f15 : n8 ≤ 5) (f16 : 0 ≤ n8) (f17 : n9 = 285) (f18 : (hLe T0 H0 H1 ∧ hFr s_248.2.2.2.2 H0 H1 ∧ hWt T0 H1) ∧ ((Ab_248_6 n9 n8 n7 n6 n5 n4 n3 n2 n1 n0 H0 H1 ∧ Bb_248_6 n9 n8 n7 n6 n5 n4 n3 n2 n1 n0 H0 H1) ∧ True) ∧ some q0 = some (mub_248_6 n9 n8 n7 n6 n5 n4 n3 n2 n1 n0 H0 H1)) (f19 : n2 < n0) (f20 : n10 = (-1)) (f21 : n1 ≠ n10) (f22 : n11 = 327) (f23 : hK H1 (n5).toNat = 12) (f24 : n11 = hV H1 (n5).toNat 63) (f25 : n12 = 60) (f26 : n13 = w32 (n12 * n0)) (f27 : n14 = w32 (n13 + n1)) (f28 : n15 ≤ 59) (f29 : (-1) ≤ n15) (f30 : n15 = hV H1 (n11).toNat (n14).toNat) (f31 : n16 = w32 (n0 + (-1))) : Bb_248_6 n9 n8 n7 n6 n5 n4 n3 n2 n15 n16 H0 H1 := by
  have ga := f18.2.1.1.1
  unfold Ab_248_6 at ga
  have gb := f18.2.1.1.2
  unfold Bb_248_6 at gb
  obtain ⟨x1, x2, x3, x4⟩ := ga
  have w7 : hV H1 327 = hV H0 327 := fRow f18.1.2.1 327 (by decide +kernel)
  have d30 := rdW (q := 327) f30 f22
  have e_26 : n13 = (60) * n0 := by
    have w := f26
    rw [f25] at w
    rw [w]
    exact w32_id (by omega) (by omega)
  have e_27 : n14 = n13 + n1 := by
    have w := f27
    rw [w]
    exact w32_id (by omega) (by omega)
  have e_31 : n16 = n0 + (-1) := by
    have w := f31
    rw [w]
    exact w32_id (by omega) (by omega)
  unfold Bb_248_6
  intro mt c0 c
  obtain ⟨g1, g2⟩ := gb mt c0 c
  refine ⟨by omega, ?_⟩
  rw [← g2, show (n0 - n6).toNat = (n16 - n6).toNat + 1 by omega]
  show _ = (if n1 = -1 then -1 else pFrom _ _ _ _)
  rw [if_neg (by omega), d30, w7]
  refine congrArg (fun z : Nat => pFrom (hV H0 327) n6 (n16 - n6).toNat (hV H0 327 z)) ?_
  omega
def g_248w_6_2 : vG := ([(10, [16, 9], [], -1), (22, [15, 11, 14], [1], 0), (90, [15], [], -1), (91, [15], [], 59), (1, [14, 13, 8], [], 0), (3, [13, 12, 9], [], 0), (0, [12], [], 60), (20, [11, 4], [1], 63), (23, [4], [1], 12), (0, [11], [], 327), (41, [8, 10], [], 0), (0, [10], [], -1), (44, [9, 7], [], 0), (5000, [0, 1, 2, 3, 4, 5, 6, 7, 8, 9], [0, 1], 6), (0, [0], [], 285), (90, [1], [], 0), (91, [1], [], 5), (90, [2], [], -1), (91, [2], [], 59), (90, [3], [], 0), (91, [3], [], 2147483647), (0, [4], [], 285), (90, [5], [], 0), (91, [5], [], 5), (90, [6], [], -1), (91, [6], [], 59), (90, [7], [], 0), (91, [7], [], 2147483647), (90, [8], [], -1), (91, [8], [], 59), (90, [9], [], 0), (91, [9], [], 5)], (4000, [4, 5, 6, 7, 15, 16], [1], 6))
theorem c_248w_6_2 {q0 : Nat} : vOkm T0 (eN e_248 L_248w A_248 mu_248 n_248 B_248 (some q0)) 4 g_248w_6_2 := vOk_inI fun ρ η f0 f1 f2 f3 f4 f5 f6 f7 f8 f9 f10 f11 f12 f13 f14 f15 f16 f17 f18 f19 f20 f21 f22 f23 f24 f25 f26 f27 f28 f29 f30 f31 => q_248w_3 (q0 := q0) (n0 := ρ 9) (n1 := ρ 8) (n2 := ρ 7) (n3 := ρ 6) (n4 := ρ 5) (n5 := ρ 4) (n6 := ρ 3) (n7 := ρ 2) (n8 := ρ 1) (n9 := ρ 0) (n10 := ρ 10) (n11 := ρ 11) (n12 := ρ 12) (n13 := ρ 13) (n14 := ρ 14) (n15 := ρ 15) (n16 := ρ 16) (H0 := η 0) (H1 := η 1) f31 f30 f29 f28 f27 f26 f25 f24 f23 f22 f21 f20 f19 f18 f17 f16 f15 f14 f13 f12 f11 f10 f9 f8 f7 f6 f5 f4 f3 f2 f1 f0
def p_248w_6 : List vG := [g_248w_6_0,
  g_248w_6_1,
  g_248w_6_2]
theorem r_248w_6 : vCovBO (eRc e_248 L_248 cs_248 2000 (6, [(0, (3, 12, 285, 0)), (1, (0, 0, 5, 0)), (2, (0, -1, 59, 0)), (3, (0, 0, 2147483647, 0)), (4, (0, -1, 59, 0)), (5, (0, 0, 5, 0))])) p_248w_6 = true := by decide +kernel
theorem m_248w (d : Nat) : eC e_248w (d + 1) := eC_ref (e := e_248) (L := L_248) (L' := L_248w) (cs := cs_248) (n := 2000) (d := d + 0) (A := A_248) (μ := mu_248) (tp := true) (p0 := p_248_s) (p1 := p_248w_s) (N := n_248) (B := B_248) rfl trivial rfl (.inr pre0_ok) (by decide +kernel) (fun _ => post0_ok) r_248_s (allC c_248_s_0 allN) (allC (.inl ⟨p_248_6, r_248_6, fun q0 => (allC c_248_6_0 (allC c_248_6_1 (allC c_248_6_2 (allC c_248_6_3 allN))))⟩) allN) trivial r_248w_s (allC c_248w_s_0 allN) (allC ⟨p_248w_6, r_248w_6, fun q0 => (allC c_248w_6_0 (allC c_248w_6_1 (allC c_248w_6_2 allN)))⟩ allN)
/- MixStageModel.old (III)I, more fully -/
def nb_249 (r a0 a1 a2 a3 : Int) (h0 h : gH) : Prop := MT (mR h0) → r = mOld a1 a2 a3 (mR h0)
def n_249 : List Int → gH → gH → Prop := fun xs h0 h => match xs with
  | [r, a0, a1, a2, a3] => nb_249 r a0 a1 a2 a3 h0 h
  | _ => True
noncomputable def e_249w : vE := eV e_249 n_249
noncomputable def L_249w : List vE := [e_246, e_248w]
def B_249 : Int → List Int → gH → gH → Prop := fun c xs h0 h => True
theorem q_249w_0 {n0 n1 n2 n3 n4 n5 : Int} {H0 H1 : gH} (f0 : n0 ≤ 2147483647) (f1 : (-2147483648) ≤ n0) (f2 : n1 ≤ 2147483647) (f3 : (-2147483648) ≤ n1) (f4 : n2 ≤ 2147483647) (f5 : (-2147483648) ≤ n2) (f6 : n3 = 285) (f7 : hWt T0 H0 ∧ True) (f8 : n4 ≤ 1) (f9 : 0 ≤ n4) (f10 : (hLe T0 H0 H1 ∧ hFr s_246.2.2.2.2 H0 H1 ∧ ((0 : Int) = 0 → H1.length = H0.length) ∧ hWt T0 H1) ∧ postb_246 n4 n3 n2 H0 H1) (f11 : n4 = 0) (f12 : n5 = (-2)) : nb_249 n5 n3 n2 n1 n0 H0 H1 := by
  unfold nb_249
  intro mt
  obtain ⟨mf, ms, me, m5, m6, m7, mz⟩ := MTr mt
  have q := f10.2
  unfold postb_246 at q
  rw [show hV H1 285 60 = hV H0 285 60 from f10.1.2.1.1 285 60 (by decide +kernel)] at q
  rw [show mOld n2 n1 n0 (mR H0) = _ from if_neg (show ¬ ((0 ≤ n2 ∧ n2 < hV H0 285 60) ∧ 0 ≤ n0 ∧ n0 ≤ n2 ∧ 0 ≤ n1 ∧ n1 < hV H0 325 (n2).toNat) by omega)]
  omega
def g_249w_s_0 : vG := ([(0, [5], [], -2), (30, [4], [], 0), (1246, [4, 0, 1], [0, 1], 0), (90, [4], [], 0), (91, [4], [], 1), (6000, [0, 1, 2, 3], [0], 0), (0, [0], [], 285), (90, [1], [], -2147483648), (91, [1], [], 2147483647), (90, [2], [], -2147483648), (91, [2], [], 2147483647), (90, [3], [], -2147483648), (91, [3], [], 2147483647)], (3000, [5], [1], 33))
theorem c_249w_s_0 : vOkm T0 (eN e_249 L_249w A_249 mu_249 n_249 B_249 none) 4 g_249w_s_0 := vOk_inI fun ρ η f0 f1 f2 f3 f4 f5 f6 f7 f8 f9 f10 f11 f12 => q_249w_0 (n0 := ρ 3) (n1 := ρ 2) (n2 := ρ 1) (n3 := ρ 0) (n4 := ρ 4) (n5 := ρ 5) (H0 := η 0) (H1 := η 1) f12 f11 f10 f9 f8 f7 f6 f5 f4 f3 f2 f1 f0
theorem q_249w_1 {n0 n1 n2 n3 n4 n5 : Int} {H0 H1 : gH} (f0 : n0 ≤ 2147483647) (f1 : (-2147483648) ≤ n0) (f2 : n1 ≤ 2147483647) (f3 : (-2147483648) ≤ n1) (f4 : n2 ≤ 2147483647) (f5 : (-2147483648) ≤ n2) (f6 : n3 = 285) (f7 : hWt T0 H0 ∧ True) (f8 : n4 ≤ 1) (f9 : 0 ≤ n4) (f10 : (hLe T0 H0 H1 ∧ hFr s_246.2.2.2.2 H0 H1 ∧ ((0 : Int) = 0 → H1.length = H0.length) ∧ hWt T0 H1) ∧ postb_246 n4 n3 n2 H0 H1) (f11 : n4 ≠ 0) (f12 : n0 < 0) (f13 : n5 = (-2)) : nb_249 n5 n3 n2 n1 n0 H0 H1 := by
  unfold nb_249
  intro mt
  obtain ⟨mf, ms, me, m5, m6, m7, mz⟩ := MTr mt
  have q := f10.2
  unfold postb_246 at q
  rw [show hV H1 285 60 = hV H0 285 60 from f10.1.2.1.1 285 60 (by decide +kernel)] at q
  rw [show mOld n2 n1 n0 (mR H0) = _ from if_neg (show ¬ ((0 ≤ n2 ∧ n2 < hV H0 285 60) ∧ 0 ≤ n0 ∧ n0 ≤ n2 ∧ 0 ≤ n1 ∧ n1 < hV H0 325 (n2).toNat) by omega)]
  omega
def g_249w_s_1 : vG := ([(0, [5], [], -2), (32, [3], [], 0), (31, [4], [], 0), (1246, [4, 0, 1], [0, 1], 0), (90, [4], [], 0), (91, [4], [], 1), (6000, [0, 1, 2, 3], [0], 0), (0, [0], [], 285), (90, [1], [], -2147483648), (91, [1], [], 2147483647), (90, [2], [], -2147483648), (91, [2], [], 2147483647), (90, [3], [], -2147483648), (91, [3], [], 2147483647)], (3000, [5], [1], 33))
theorem c_249w_s_1 : vOkm T0 (eN e_249 L_249w A_249 mu_249 n_249 B_249 none) 4 g_249w_s_1 := vOk_inI fun ρ η f0 f1 f2 f3 f4 f5 f6 f7 f8 f9 f10 f11 f12 f13 => q_249w_1 (n0 := ρ 3) (n1 := ρ 2) (n2 := ρ 1) (n3 := ρ 0) (n4 := ρ 4) (n5 := ρ 5) (H0 := η 0) (H1 := η 1) f13 f12 f11 f10 f9 f8 f7 f6 f5 f4 f3 f2 f1 f0
theorem q_249w_2 {n0 n1 n2 n3 n4 n5 : Int} {H0 H1 : gH} (f0 : n0 ≤ 2147483647) (f1 : (-2147483648) ≤ n0) (f2 : n1 ≤ 2147483647) (f3 : (-2147483648) ≤ n1) (f4 : n2 ≤ 2147483647) (f5 : (-2147483648) ≤ n2) (f6 : n3 = 285) (f7 : hWt T0 H0 ∧ True) (f8 : n4 ≤ 1) (f9 : 0 ≤ n4) (f10 : (hLe T0 H0 H1 ∧ hFr s_246.2.2.2.2 H0 H1 ∧ ((0 : Int) = 0 → H1.length = H0.length) ∧ hWt T0 H1) ∧ postb_246 n4 n3 n2 H0 H1) (f11 : n4 ≠ 0) (f12 : 0 ≤ n0) (f13 : n2 < n0) (f14 : n5 = (-2)) : nb_249 n5 n3 n2 n1 n0 H0 H1 := by
  unfold nb_249
  intro mt
  obtain ⟨mf, ms, me, m5, m6, m7, mz⟩ := MTr mt
  have q := f10.2
  unfold postb_246 at q
  rw [show hV H1 285 60 = hV H0 285 60 from f10.1.2.1.1 285 60 (by decide +kernel)] at q
  rw [show mOld n2 n1 n0 (mR H0) = _ from if_neg (show ¬ ((0 ≤ n2 ∧ n2 < hV H0 285 60) ∧ 0 ≤ n0 ∧ n0 ≤ n2 ∧ 0 ≤ n1 ∧ n1 < hV H0 325 (n2).toNat) by omega)]
  omega
def g_249w_s_2 : vG := ([(0, [5], [], -2), (44, [3, 1], [], 0), (33, [3], [], 0), (31, [4], [], 0), (1246, [4, 0, 1], [0, 1], 0), (90, [4], [], 0), (91, [4], [], 1), (6000, [0, 1, 2, 3], [0], 0), (0, [0], [], 285), (90, [1], [], -2147483648), (91, [1], [], 2147483647), (90, [2], [], -2147483648), (91, [2], [], 2147483647), (90, [3], [], -2147483648), (91, [3], [], 2147483647)], (3000, [5], [1], 33))
theorem c_249w_s_2 : vOkm T0 (eN e_249 L_249w A_249 mu_249 n_249 B_249 none) 4 g_249w_s_2 := vOk_inI fun ρ η f0 f1 f2 f3 f4 f5 f6 f7 f8 f9 f10 f11 f12 f13 f14 => q_249w_2 (n0 := ρ 3) (n1 := ρ 2) (n2 := ρ 1) (n3 := ρ 0) (n4 := ρ 4) (n5 := ρ 5) (H0 := η 0) (H1 := η 1) f14 f13 f12 f11 f10 f9 f8 f7 f6 f5 f4 f3 f2 f1 f0
theorem q_249w_3 {n0 n1 n2 n3 n4 n5 : Int} {H0 H1 : gH} (f0 : n0 ≤ 2147483647) (f1 : (-2147483648) ≤ n0) (f2 : n1 ≤ 2147483647) (f3 : (-2147483648) ≤ n1) (f4 : n2 ≤ 2147483647) (f5 : (-2147483648) ≤ n2) (f6 : n3 = 285) (f7 : hWt T0 H0 ∧ True) (f8 : n4 ≤ 1) (f9 : 0 ≤ n4) (f10 : (hLe T0 H0 H1 ∧ hFr s_246.2.2.2.2 H0 H1 ∧ ((0 : Int) = 0 → H1.length = H0.length) ∧ hWt T0 H1) ∧ postb_246 n4 n3 n2 H0 H1) (f11 : n4 ≠ 0) (f12 : 0 ≤ n0) (f13 : n0 ≤ n2) (f14 : n1 < 0) (f15 : n5 = (-2)) : nb_249 n5 n3 n2 n1 n0 H0 H1 := by
  unfold nb_249
  intro mt
  obtain ⟨mf, ms, me, m5, m6, m7, mz⟩ := MTr mt
  have q := f10.2
  unfold postb_246 at q
  rw [show hV H1 285 60 = hV H0 285 60 from f10.1.2.1.1 285 60 (by decide +kernel)] at q
  rw [show mOld n2 n1 n0 (mR H0) = _ from if_neg (show ¬ ((0 ≤ n2 ∧ n2 < hV H0 285 60) ∧ 0 ≤ n0 ∧ n0 ≤ n2 ∧ 0 ≤ n1 ∧ n1 < hV H0 325 (n2).toNat) by omega)]
  omega
def g_249w_s_3 : vG := ([(0, [5], [], -2), (32, [2], [], 0), (45, [3, 1], [], 0), (33, [3], [], 0), (31, [4], [], 0), (1246, [4, 0, 1], [0, 1], 0), (90, [4], [], 0), (91, [4], [], 1), (6000, [0, 1, 2, 3], [0], 0), (0, [0], [], 285), (90, [1], [], -2147483648), (91, [1], [], 2147483647), (90, [2], [], -2147483648), (91, [2], [], 2147483647), (90, [3], [], -2147483648), (91, [3], [], 2147483647)], (3000, [5], [1], 33))
theorem c_249w_s_3 : vOkm T0 (eN e_249 L_249w A_249 mu_249 n_249 B_249 none) 4 g_249w_s_3 := vOk_inI fun ρ η f0 f1 f2 f3 f4 f5 f6 f7 f8 f9 f10 f11 f12 f13 f14 f15 => q_249w_3 (n0 := ρ 3) (n1 := ρ 2) (n2 := ρ 1) (n3 := ρ 0) (n4 := ρ 4) (n5 := ρ 5) (H0 := η 0) (H1 := η 1) f15 f14 f13 f12 f11 f10 f9 f8 f7 f6 f5 f4 f3 f2 f1 f0
theorem q_249w_4 {n0 n1 n2 n3 n4 n5 n6 n7 : Int} {H0 H1 H2 : gH} (f0 : n0 ≤ 2147483647) (f1 : (-2147483648) ≤ n0) (f2 : n1 ≤ 2147483647) (f3 : (-2147483648) ≤ n1) (f4 : n2 ≤ 2147483647) (f5 : (-2147483648) ≤ n2) (f6 : n3 = 285) (f7 : hWt T0 H0 ∧ True) (f8 : n4 ≤ 1) (f9 : 0 ≤ n4) (f10 : (hLe T0 H0 H1 ∧ hFr s_246.2.2.2.2 H0 H1 ∧ ((0 : Int) = 0 → H1.length = H0.length) ∧ hWt T0 H1) ∧ postb_246 n4 n3 n2 H0 H1) (f11 : n4 ≠ 0) (f12 : 0 ≤ n0) (f13 : n0 ≤ n2) (f14 : 0 ≤ n1) (f15 : n5 = 325) (f16 : hK H1 (n3).toNat = 12) (f17 : n5 = hV H1 (n3).toNat 61) (f18 : n6 ≤ 60) (f19 : 0 ≤ n6) (f20 : n6 = hV H1 (n5).toNat (n2).toNat) (f21 : n1 < n6) (f22 : n7 ≤ 59) (f23 : (-1) ≤ n7) (f24 : (hLe T0 H1 H2 ∧ hFr s_248.2.2.2.2 H1 H2 ∧ ((0 : Int) = 0 → H2.length = H1.length) ∧ hWt T0 H2) ∧ (True ∧ nb_248 n7 n3 n2 n1 n0 H1 H2)) : nb_249 n7 n3 n2 n1 n0 H0 H2 := by
  unfold nb_249
  intro mt
  obtain ⟨mf, ms, me, m5, m6, m7, mz⟩ := MTr mt
  have q := f10.2
  unfold postb_246 at q
  rw [show hV H1 285 60 = hV H0 285 60 from f10.1.2.1.1 285 60 (by decide +kernel)] at q
  have d20 := rdW (q := 325) f20 f15
  rw [show hV H1 325 = hV H0 325 from fRow f10.1.2.1 325 (by decide +kernel)] at d20
  have c2 : hV H1 285 2 = hV H0 285 2 := f10.1.2.1.1 285 2 (by decide +kernel)
  have c17 : hV H1 285 17 = hV H0 285 17 := f10.1.2.1.1 285 17 (by decide +kernel)
  have c18 : hV H1 285 18 = hV H0 285 18 := f10.1.2.1.1 285 18 (by decide +kernel)
  have c60 : hV H1 285 60 = hV H0 285 60 := f10.1.2.1.1 285 60 (by decide +kernel)
  have r286 : hV H1 286 = hV H0 286 := fRow f10.1.2.1 286 (by decide +kernel)
  have r325 : hV H1 325 = hV H0 325 := fRow f10.1.2.1 325 (by decide +kernel)
  have r326 : hV H1 326 = hV H0 326 := fRow f10.1.2.1 326 (by decide +kernel)
  have r327 : hV H1 327 = hV H0 327 := fRow f10.1.2.1 327 (by decide +kernel)
  have r293 : hV H1 293 = hV H0 293 := fRow f10.1.2.1 293 (by decide +kernel)
  have hs : mR H1 = mR H0 := (mR_mk (a := H0) c2 (BT_same r286) c17 c18 c60 r325 r326 r327 (tdR_same c18 c60 r293))
  have p := f24.2
  try unfold nb_248 at p
  have p := p.2 (by rw [hs]; exact mt) (by omega) (by omega)
  rw [r327] at p
  rw [show mOld n2 n1 n0 (mR H0) = _ from if_pos (show (0 ≤ n2 ∧ n2 < hV H0 285 60) ∧ 0 ≤ n0 ∧ n0 ≤ n2 ∧ 0 ≤ n1 ∧ n1 < hV H0 325 (n2).toNat by omega)]
  exact p
def g_249w_s_4 : vG := ([(1248, [7, 0, 1, 2, 3], [1, 2], 0), (90, [7], [], -1), (91, [7], [], 59), (42, [2, 6], [], 0), (22, [6, 5, 1], [1], 0), (90, [6], [], 0), (91, [6], [], 60), (20, [5, 0], [1], 61), (23, [0], [1], 12), (0, [5], [], 325), (33, [2], [], 0), (45, [3, 1], [], 0), (33, [3], [], 0), (31, [4], [], 0), (1246, [4, 0, 1], [0, 1], 0), (90, [4], [], 0), (91, [4], [], 1), (6000, [0, 1, 2, 3], [0], 0), (0, [0], [], 285), (90, [1], [], -2147483648), (91, [1], [], 2147483647), (90, [2], [], -2147483648), (91, [2], [], 2147483647), (90, [3], [], -2147483648), (91, [3], [], 2147483647)], (3000, [7], [2], 41))
theorem c_249w_s_4 : vOkm T0 (eN e_249 L_249w A_249 mu_249 n_249 B_249 none) 4 g_249w_s_4 := vOk_inI fun ρ η f0 f1 f2 f3 f4 f5 f6 f7 f8 f9 f10 f11 f12 f13 f14 f15 f16 f17 f18 f19 f20 f21 f22 f23 f24 => q_249w_4 (n0 := ρ 3) (n1 := ρ 2) (n2 := ρ 1) (n3 := ρ 0) (n4 := ρ 4) (n5 := ρ 5) (n6 := ρ 6) (n7 := ρ 7) (H0 := η 0) (H1 := η 1) (H2 := η 2) f24 f23 f22 f21 f20 f19 f18 f17 f16 f15 f14 f13 f12 f11 f10 f9 f8 f7 f6 f5 f4 f3 f2 f1 f0
theorem q_249w_5 {n0 n1 n2 n3 n4 n5 n6 n7 : Int} {H0 H1 : gH} (f0 : n0 ≤ 2147483647) (f1 : (-2147483648) ≤ n0) (f2 : n1 ≤ 2147483647) (f3 : (-2147483648) ≤ n1) (f4 : n2 ≤ 2147483647) (f5 : (-2147483648) ≤ n2) (f6 : n3 = 285) (f7 : hWt T0 H0 ∧ True) (f8 : n4 ≤ 1) (f9 : 0 ≤ n4) (f10 : (hLe T0 H0 H1 ∧ hFr s_246.2.2.2.2 H0 H1 ∧ ((0 : Int) = 0 → H1.length = H0.length) ∧ hWt T0 H1) ∧ postb_246 n4 n3 n2 H0 H1) (f11 : n4 ≠ 0) (f12 : 0 ≤ n0) (f13 : n0 ≤ n2) (f14 : 0 ≤ n1) (f15 : n5 = 325) (f16 : hK H1 (n3).toNat = 12) (f17 : n5 = hV H1 (n3).toNat 61) (f18 : n6 ≤ 60) (f19 : 0 ≤ n6) (f20 : n6 = hV H1 (n5).toNat (n2).toNat) (f21 : n6 ≤ n1) (f22 : n7 = (-2)) : nb_249 n7 n3 n2 n1 n0 H0 H1 := by
  unfold nb_249
  intro mt
  obtain ⟨mf, ms, me, m5, m6, m7, mz⟩ := MTr mt
  have q := f10.2
  unfold postb_246 at q
  rw [show hV H1 285 60 = hV H0 285 60 from f10.1.2.1.1 285 60 (by decide +kernel)] at q
  have d20 := rdW (q := 325) f20 f15
  rw [show hV H1 325 = hV H0 325 from fRow f10.1.2.1 325 (by decide +kernel)] at d20
  rw [show mOld n2 n1 n0 (mR H0) = _ from if_neg (show ¬ ((0 ≤ n2 ∧ n2 < hV H0 285 60) ∧ 0 ≤ n0 ∧ n0 ≤ n2 ∧ 0 ≤ n1 ∧ n1 < hV H0 325 (n2).toNat) by omega)]
  omega
def g_249w_s_5 : vG := ([(0, [7], [], -2), (43, [2, 6], [], 0), (22, [6, 5, 1], [1], 0), (90, [6], [], 0), (91, [6], [], 60), (20, [5, 0], [1], 61), (23, [0], [1], 12), (0, [5], [], 325), (33, [2], [], 0), (45, [3, 1], [], 0), (33, [3], [], 0), (31, [4], [], 0), (1246, [4, 0, 1], [0, 1], 0), (90, [4], [], 0), (91, [4], [], 1), (6000, [0, 1, 2, 3], [0], 0), (0, [0], [], 285), (90, [1], [], -2147483648), (91, [1], [], 2147483647), (90, [2], [], -2147483648), (91, [2], [], 2147483647), (90, [3], [], -2147483648), (91, [3], [], 2147483647)], (3000, [7], [1], 33))
theorem c_249w_s_5 : vOkm T0 (eN e_249 L_249w A_249 mu_249 n_249 B_249 none) 4 g_249w_s_5 := vOk_inI fun ρ η f0 f1 f2 f3 f4 f5 f6 f7 f8 f9 f10 f11 f12 f13 f14 f15 f16 f17 f18 f19 f20 f21 f22 => q_249w_5 (n0 := ρ 3) (n1 := ρ 2) (n2 := ρ 1) (n3 := ρ 0) (n4 := ρ 4) (n5 := ρ 5) (n6 := ρ 6) (n7 := ρ 7) (H0 := η 0) (H1 := η 1) f22 f21 f20 f19 f18 f17 f16 f15 f14 f13 f12 f11 f10 f9 f8 f7 f6 f5 f4 f3 f2 f1 f0
def p_249w_s : List vG := [g_249w_s_0,
  g_249w_s_1,
  g_249w_s_2,
  g_249w_s_3,
  g_249w_s_4,
  g_249w_s_5]
theorem r_249w_s : vCovBO (eR0 e_249 L_249 cs_249 2000) p_249w_s = true := by decide +kernel
theorem m_249w (d : Nat) : eC e_249w (d + 2) := eC_ref (e := e_249) (L := L_249) (L' := L_249w) (cs := cs_249) (n := 2000) (d := d + 1) (A := A_249) (μ := mu_249) (tp := true) (p0 := p_249_s) (p1 := p_249w_s) (N := n_249) (B := B_249) rfl ⟨m_246 d, ⟨m_248w d, trivial⟩⟩ rfl (.inr pre0_ok) (by decide +kernel) (fun _ => post0_ok) r_249_s (allC c_249_s_0 (allC c_249_s_1 (allC c_249_s_2 (allC c_249_s_3 allN)))) allN (sub0 (sub1 trivial)) r_249w_s (allC c_249w_s_0 (allC c_249w_s_1 (allC c_249w_s_2 (allC c_249w_s_3 (allC c_249w_s_4 (allC c_249w_s_5 allN)))))) allN
