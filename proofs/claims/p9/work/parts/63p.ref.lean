/- MixStageModel.tellRules ()V, more fully -/
def nb_231 (a0 : Int) (h0 h : gH) : Prop := RI h0 → ((vwR h0).1 (absR h0).1) = 19 → RI h ∧ absR h = pRules (vwR h0) (absR h0)
def n_231 : List Int → gH → gH → Prop := fun xs h0 h => match xs with
  | [a0] => nb_231 a0 h0 h
  | _ => True
noncomputable def e_231w : vE := eV e_231 n_231
noncomputable def L_231w : List vE := [e_216, e_219w, e_220w, e_232w]
def Bb_231_38 (a0 x0 : Int) (h0 h : gH) : Prop := RI h0 → ((vwR h0).1 (absR h0).1) = 19 → RI h ∧ (hV h 285 13 = 0 → 0 ≤ hV h 306 ((hV h0 285 35).toNat) ∧ hV h 306 ((hV h0 285 35).toNat) ≤ 12) ∧ ptk (vwR h0) 17 (pRs (vwR h0) (12 - hV h 306 ((hV h0 285 35).toNat)).toNat (absR h)) = pRules (vwR h0) (absR h0)
def B_231 : Int → List Int → gH → gH → Prop := fun c xs h0 h => match c.toNat with
  | 38 => (match xs with
    | [a0, x0] => Bb_231_38 a0 x0 h0 h
    | _ => False)
  | _ => True
theorem q_231w_0 {n0 n1 n2 n3 n5 n6 n7 n9 n10 n11 : Int} {H0 H1 H2 H3 H4 : gH} (f0 : n0 = 285) (f1 : n1 = 306) (f2 : n2 ≤ 1) (f3 : 0 ≤ n2) (f4 : n2 = hV H0 (n0).toNat 35) (f5 : n3 = 0) (f6 : hUpd H1 H0 n1 n2 n3) (f7 : n5 = hV H1 (n0).toNat 35) (f8 : n7 = 44) (f9 : hUpd H2 H1 n0 n7 n6) (f10 : n9 = hV H2 (n0).toNat 35) (f11 : n11 = 51) (f12 : hUpd H3 H2 n0 n11 n10) (f13 : (hLe T0 H3 H4 ∧ hFr s_219.2.2.2.2 H3 H4 ∧ ((0 : Int) = 0 → H4.length = H3.length) ∧ hWt T0 H4) ∧ (postb_219 n0 H3 H4 ∧ nb_219 n0 H3 H4)) : Bb_231_38 n0 n0 H0 H4 := by
  unfold Bb_231_38
  intro z kd
  have d8 := rdS (q := 285) f4 f0
  have d16 := rdS (q := 285) f7 f0
  have d25 := rdS (q := 285) f10 f0
  have p0 := PR_row (q := 306) f6 f1 (by decide) z
  have v0 : vwR H1 = vwR H0 := p0.2.1
  have ah0 : absR H1 = (absR H0) := p0.1
  have p1 := PR_slot (s := 44) f9 f0 f8 (by decide) p0.2.2.1
  have v1 : vwR H2 = vwR H0 := p1.2.1.trans v0
  have ah1 : absR H2 = (absR H0) := p1.1.trans ah0
  have p2 := PR_slot (s := 51) f12 f0 f11 (by decide) p1.2.2.1
  have v2 : vwR H3 = vwR H0 := p2.2.1.trans v1
  have ah2 : absR H3 = (absR H0) := p2.1.trans ah1
  have c3 := f13.2.2 p2.2.2.1 (by rw [v2, ah2]; rw [kd]; decide)
  rw [v2, ah2, kd] at c3
  have v3 : vwR H4 = vwR H0 := (vwR_fr f13.1.2.1 (by decide +kernel)).trans v2
  have rg5 := f2
  have rg6 := f3
  have u1 : hV H1 306 = uF (hV H0 306) n2 n3 := uRow f6 306 f1.symm
  have v0_ := f5
  have r6 : hV H4 306 = hV H1 306 := (fRow f13.1.2.1 306 (by decide +kernel)).trans ((uRowNe f12 306 (by rw [f0]; decide)).trans (uRowNe f9 306 (by rw [f0]; decide)))
  have nb : hV H4 306 (hV H0 285 35).toNat = 0 := by rw [r6, u1, uF_at, if_pos (by omega), v0_]
  rw [nb, c3.2]
  exact ⟨c3.1, fun _ => by decide, rfl⟩
def g_231w_s_0 : vG := ([(1219, [0], [3, 4], 0), (80, [0, 11, 10], [3, 2], 0), (0, [11], [], 51), (20, [9, 0], [2], 35), (80, [0, 7, 6], [2, 1], 0), (0, [7], [], 44), (20, [5, 0], [1], 35), (80, [1, 2, 3], [1, 0], 0), (0, [3], [], 0), (20, [2, 0], [0], 35), (90, [2], [], 0), (91, [2], [], 1), (0, [1], [], 306), (0, [0], [], 285)], (4000, [0], [4], 38))
theorem c_231w_s_0 : vOkm T0 (eN e_231 L_231w A_231 mu_231 n_231 B_231 none) 1 g_231w_s_0 := vOk_inI fun ρ η f0 f1 f2 f3 f4 f5 f6 f7 f8 f9 f10 f11 f12 f13 => q_231w_0 (n0 := ρ 0) (n1 := ρ 1) (n2 := ρ 2) (n3 := ρ 3) (n5 := ρ 5) (n6 := ρ 6) (n7 := ρ 7) (n9 := ρ 9) (n10 := ρ 10) (n11 := ρ 11) (H0 := η 0) (H1 := η 1) (H2 := η 2) (H3 := η 3) (H4 := η 4) f13 f12 f11 f10 f9 f8 f7 f6 f5 f4 f3 f2 f1 f0
def p_231w_s : List vG := [g_231w_s_0]
theorem r_231w_s : vCovBO (eR0 e_231 L_231 cs_231 2000) p_231w_s = true := by decide +kernel
theorem q_231w_1 {q0 : Nat} {n0 n1 n2 n3 : Int} {H0 H1 H2 : gH} (f0 : n0 = 285) (f1 : (hLe T0 H0 H1 ∧ hFr s_231.2.2.2.2 H0 H1 ∧ hWt T0 H1) ∧ ((Ab_231_38 n1 n0 H0 H1 ∧ Bb_231_38 n1 n0 H0 H1) ∧ preb_231 n1 H0) ∧ some q0 = some (mub_231_38 n1 n0 H0 H1)) (f2 : n2 = hV H1 (n0).toNat 13) (f3 : n2 ≠ 0) (f4 : n3 = 21) (f5 : (hLe T0 H1 H2 ∧ hFr s_220.2.2.2.2 H1 H2 ∧ ((0 : Int) = 0 → H2.length = H1.length) ∧ hWt T0 H2) ∧ (postb_220 n0 n3 H1 H2 ∧ nb_220 n0 n3 H1 H2)) : nb_231 n1 H0 H2 := by
  unfold nb_231
  intro z kd
  have ga := f1.2.1.1.2
  unfold Bb_231_38 at ga
  obtain ⟨z1, mb, y1⟩ := ga z kd
  have vz : vwR H1 = vwR H0 := vwR_fr f1.1.2.1 (by decide +kernel)
  have d6 := rdS (q := 285) f2 f0
  have q7 := f3
  have fx : hV H1 285 35 = hV H0 285 35 := f1.1.2.1.1 285 35 (by decide +kernel)
  have c0 := f5.2.2 z1 (by rw [f4]; decide)
  try rw [f4] at c0
  rw [vz, kmc_21] at c0
  have v0 : vwR H2 = vwR H0 := (vwR_fr f5.1.2.1 (by decide +kernel)).trans vz
  have lo := z1.2.2.2.1
  have hn := absR_neg z1 (by omega)
  rw [pRs_neg (vwR_ok H0) hn] at y1
  exact ⟨c0.1, c0.2.trans y1⟩
def g_231w_38_0 : vG := ([(1220, [1, 3], [1, 2], 0), (0, [3], [], 21), (31, [2], [], 0), (20, [2, 1], [1], 13), (5000, [0, 1], [0, 1], 38), (0, [1], [], 285)], (3000, [], [2], 67))
theorem c_231w_38_0 {q0 : Nat} : vOkm T0 (eN e_231 L_231w A_231 mu_231 n_231 B_231 (some q0)) 1 g_231w_38_0 := vOk_inI fun ρ η f0 f1 f2 f3 f4 f5 => q_231w_1 (q0 := q0) (n0 := ρ 1) (n1 := ρ 0) (n2 := ρ 2) (n3 := ρ 3) (H0 := η 0) (H1 := η 1) (H2 := η 2) f5 f4 f3 f2 f1 f0
theorem q_231w_2 {q0 : Nat} {n0 n1 n2 n3 n4 n5 : Int} {H0 H1 H2 H3 : gH} (f0 : n0 = 285) (f1 : (hLe T0 H0 H1 ∧ hFr s_231.2.2.2.2 H0 H1 ∧ hWt T0 H1) ∧ ((Ab_231_38 n1 n0 H0 H1 ∧ Bb_231_38 n1 n0 H0 H1) ∧ preb_231 n1 H0) ∧ some q0 = some (mub_231_38 n1 n0 H0 H1)) (f2 : n2 = hV H1 (n0).toNat 13) (f3 : n2 = 0) (f4 : n3 = 21) (f5 : (hLe T0 H1 H2 ∧ hFr s_216.2.2.2.2 H1 H2 ∧ ((0 : Int) = 0 → H2.length = H1.length) ∧ hWt T0 H2) ∧ postb_216 n4 n0 n3 H1 H2) (f6 : n4 ≠ 0) (f7 : n5 = 21) (f8 : (hLe T0 H2 H3 ∧ hFr s_220.2.2.2.2 H2 H3 ∧ ((0 : Int) = 0 → H3.length = H2.length) ∧ hWt T0 H3) ∧ (postb_220 n0 n5 H2 H3 ∧ nb_220 n0 n5 H2 H3)) : nb_231 n1 H0 H3 := by
  unfold nb_231
  intro z kd
  have ga := f1.2.1.1.2
  unfold Bb_231_38 at ga
  obtain ⟨z1, mb, y1⟩ := ga z kd
  have vz : vwR H1 = vwR H0 := vwR_fr f1.1.2.1 (by decide +kernel)
  have d6 := rdS (q := 285) f2 f0
  have q7 := f3
  have q12 := f6
  have fx : hV H1 285 35 = hV H0 285 35 := f1.1.2.1.1 285 35 (by decide +kernel)
  have p0 := PR_fr f5.1.2.1 (by decide +kernel) z1
  have v0 : vwR H2 = vwR H0 := p0.2.1.trans vz
  have ah0 : absR H2 = (absR H1) := p0.1
  have i0 := f5.2
  unfold postb_216 at i0
  rw [f4] at i0
  have cm0 := f6
  have b0 := (isR_or (k := 21) p0.2.2.1 (by decide) i0).resolve_right (fun w => cm0 w.1)
  replace b0 := b0.2
  rw [v0, ah0, kmc_21] at b0
  have c1 := f8.2.2 p0.2.2.1 (by rw [f7]; decide)
  try rw [f7] at c1
  rw [v0, ah0, kmc_21] at c1
  have v1 : vwR H3 = vwR H0 := (vwR_fr f8.1.2.1 (by decide +kernel)).trans v0
  have lo := z1.2.2.2.1
  rw [pRs_stop (by omega)] at y1
  exact ⟨c1.1, c1.2.trans y1⟩
def g_231w_38_1 : vG := ([(1220, [1, 5], [2, 3], 0), (0, [5], [], 21), (31, [4], [], 0), (1216, [4, 1, 3], [1, 2], 0), (0, [3], [], 21), (30, [2], [], 0), (20, [2, 1], [1], 13), (5000, [0, 1], [0, 1], 38), (0, [1], [], 285)], (3000, [], [3], 67))
theorem c_231w_38_1 {q0 : Nat} : vOkm T0 (eN e_231 L_231w A_231 mu_231 n_231 B_231 (some q0)) 1 g_231w_38_1 := vOk_inI fun ρ η f0 f1 f2 f3 f4 f5 f6 f7 f8 => q_231w_2 (q0 := q0) (n0 := ρ 1) (n1 := ρ 0) (n2 := ρ 2) (n3 := ρ 3) (n4 := ρ 4) (n5 := ρ 5) (H0 := η 0) (H1 := η 1) (H2 := η 2) (H3 := η 3) f8 f7 f6 f5 f4 f3 f2 f1 f0
theorem q_231w_3 {q0 : Nat} {n0 n1 n2 n3 n4 : Int} {H0 H1 H2 H3 : gH} (f0 : n0 = 285) (f1 : (hLe T0 H0 H1 ∧ hFr s_231.2.2.2.2 H0 H1 ∧ hWt T0 H1) ∧ ((Ab_231_38 n1 n0 H0 H1 ∧ Bb_231_38 n1 n0 H0 H1) ∧ preb_231 n1 H0) ∧ some q0 = some (mub_231_38 n1 n0 H0 H1)) (f2 : n2 = hV H1 (n0).toNat 13) (f3 : n2 = 0) (f4 : n3 = 21) (f5 : (hLe T0 H1 H2 ∧ hFr s_216.2.2.2.2 H1 H2 ∧ ((0 : Int) = 0 → H2.length = H1.length) ∧ hWt T0 H2) ∧ postb_216 n4 n0 n3 H1 H2) (f6 : n4 = 0) (f7 : (hLe T0 H2 H3 ∧ hFr s_232.2.2.2.2 H2 H3 ∧ ((0 : Int) = 0 → H3.length = H2.length) ∧ hWt T0 H3) ∧ (postb_232 n0 H2 H3 ∧ nb_232 n0 H2 H3)) : Bb_231_38 n1 n0 H0 H3 := by
  unfold Bb_231_38
  intro z kd
  have ga := f1.2.1.1.2
  unfold Bb_231_38 at ga
  obtain ⟨z1, mb, y1⟩ := ga z kd
  have vz : vwR H1 = vwR H0 := vwR_fr f1.1.2.1 (by decide +kernel)
  have d6 := rdS (q := 285) f2 f0
  have q7 := f3
  have q12 := f6
  have fx : hV H1 285 35 = hV H0 285 35 := f1.1.2.1.1 285 35 (by decide +kernel)
  have p0 := PR_fr f5.1.2.1 (by decide +kernel) z1
  have v0 : vwR H2 = vwR H0 := p0.2.1.trans vz
  have ah0 : absR H2 = (absR H1) := p0.1
  have i0 := f5.2
  unfold postb_216 at i0
  rw [f4] at i0
  have cm0 := f6
  have b0 := (isR_or (k := 21) p0.2.2.1 (by decide) i0).resolve_left (fun w => absurd (w.1.symm.trans cm0) (by decide))
  replace b0 := b0.2
  rw [v0, ah0, kmc_21] at b0
  have lo := z1.2.2.2.1
  have r6 : hV H2 306 = hV H1 306 := fRow f5.1.2.1 306 (by decide +kernel)
  have s35_ : hV H2 285 35 = hV H1 285 35 := f5.1.2.1.1 285 35 (by decide +kernel)
  have mb1 := mb (by omega)
  have n := f7.2.2 p0.2.2.1
  rw [v0, ah0, r6, s35_, fx] at n
  obtain ⟨m1, m2, m3⟩ := n
  refine ⟨m1, fun c => ?_, ?_⟩
  · have u := m3 c
    rcases m2 with ⟨_, w⟩ | ⟨_, _, w⟩ | ⟨_, w12, _⟩
    · exact absurd c (faultR_of m1 (by rw [w]; exact pfailR_lt z (by decide)))
    · exact absurd c (faultR_of m1 (by rw [w]; exact pfailR_lt z (by decide)))
    · omega
  · rw [← y1]
    rcases m2 with ⟨w0, w⟩ | ⟨w1, w12, w⟩ | ⟨w1, w12, w⟩
    · rw [w, pRs_neg (vwR_ok H0) (pfailR_lt z (by decide)), ptk_neg (pfailR_lt z (by decide)) pfail_ok, pRs_stop w0, mustR_no (vwR_ok H0) (absR_ok z1) b0]
    · rw [w, w12, show ((12 : Int) - 12).toNat = 0 from rfl, pRs_full w1, pRs_neg (vwR_ok H0) (pfailR_lt z (by decide))]
    · rw [show (12 - hV H1 306 (hV H0 285 35).toNat).toNat = (11 - hV H1 306 (hV H0 285 35).toNat).toNat + 1 by omega, pRs_step w1, ← w]
      by_cases c : hV H3 285 13 = 0
      · rw [m3 c, show (12 - (hV H1 306 (hV H0 285 35).toNat + 1)).toNat = (11 - hV H1 306 (hV H0 285 35).toNat).toNat by omega]
      · rw [pRs_neg (vwR_ok H0) (absR_neg m1 c), pRs_neg (vwR_ok H0) (absR_neg m1 c)]
def g_231w_38_2 : vG := ([(1232, [1], [2, 3], 0), (30, [4], [], 0), (1216, [4, 1, 3], [1, 2], 0), (0, [3], [], 21), (30, [2], [], 0), (20, [2, 1], [1], 13), (5000, [0, 1], [0, 1], 38), (0, [1], [], 285)], (4000, [1], [3], 38))
theorem c_231w_38_2 {q0 : Nat} : vOkm T0 (eN e_231 L_231w A_231 mu_231 n_231 B_231 (some q0)) 1 g_231w_38_2 := vOk_inI fun ρ η f0 f1 f2 f3 f4 f5 f6 f7 => q_231w_3 (q0 := q0) (n0 := ρ 1) (n1 := ρ 0) (n2 := ρ 2) (n3 := ρ 3) (n4 := ρ 4) (H0 := η 0) (H1 := η 1) (H2 := η 2) (H3 := η 3) f7 f6 f5 f4 f3 f2 f1 f0
def p_231w_38 : List vG := [g_231w_38_0,
  g_231w_38_1,
  g_231w_38_2]
theorem r_231w_38 : vCovBO (eRc e_231 L_231 cs_231 2000 (38, [(0, (3, 12, 285, 0))])) p_231w_38 = true := by decide +kernel
theorem m_231w (d : Nat) : eC e_231w (d + 7) := eC_ref (e := e_231) (L := L_231) (L' := L_231w) (cs := cs_231) (n := 2000) (d := d + 6) (A := A_231) (μ := mu_231) (tp := false) (p0 := p_231_s) (p1 := p_231w_s) (N := n_231) (B := B_231) rfl ⟨m_216 (d + 5), ⟨m_219w (d + 4), ⟨m_220w (d + 3), ⟨m_232w d, trivial⟩⟩⟩⟩ rfl (.inl rfl) (by decide +kernel) (fun z => nomatch z) r_231_s (allC c_231_s_0 (allC c_231_s_1 (allC c_231_s_2 (allC c_231_s_3 (allC c_231_s_4 allN))))) (allC (.inl ⟨p_231_38, r_231_38, fun q0 => (allC c_231_38_0 (allC c_231_38_1 (allC c_231_38_2 (allC c_231_38_3 allN))))⟩) allN) (sub0 (sub1 (sub1 (sub1 trivial)))) r_231w_s (allC c_231w_s_0 allN) (allC ⟨p_231w_38, r_231w_38, fun q0 => (allC c_231w_38_0 (allC c_231w_38_1 (allC c_231w_38_2 allN)))⟩ allN)
