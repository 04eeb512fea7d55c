/- MixStageModel.tellSheet ()V, more fully -/
def nb_224 (a0 : Int) (h0 h : gH) : Prop := RI h0 → RI h ∧ absR h = pSheet (vwR h0) (absR h0)
def n_224 : List Int → gH → gH → Prop := fun xs h0 h => match xs with
  | [a0] => nb_224 a0 h0 h
  | _ => True
noncomputable def e_224w : vE := eV e_224 n_224
noncomputable def L_224w : List vE := [e_216, e_218w, e_220w, e_225w, e_226w]
def Bb_224_10 (a0 x0 : Int) (h0 h : gH) : Prop := RI h0 → RI h ∧ (hV h 285 13 = 0 → 0 ≤ hV h 294 ((hV h0 285 32).toNat) ∧ hV h 294 ((hV h0 285 32).toNat) ≤ 6 ∧ ZR h ∧ pBlocks (vwR h0) (6 - hV h 294 ((hV h0 285 32).toNat)).toNat (absR h) (BLr h) = pBlocks (vwR h0) 6 (absR h0) [] ∧ pTable (vwR h0) (6 - hV h 294 ((hV h0 285 32).toNat)).toNat (absR h) (BLr h) = pTable (vwR h0) 6 (absR h0) []) ∧ (¬ hV h 285 13 = 0 → absR h = pBlocks (vwR h0) 6 (absR h0) [])
def B_224 : Int → List Int → gH → gH → Prop := fun c xs h0 h => match c.toNat with
  | 10 => (match xs with
    | [a0, x0] => Bb_224_10 a0 x0 h0 h
    | _ => False)
  | _ => True
theorem q_224w_0 {n0 n1 n2 n3 : Int} {H0 H1 : gH} (f0 : n0 = 285) (f1 : hWt T0 H0 ∧ preb_224 n0 H0) (f2 : n1 = 294) (f3 : n2 = hV H0 (n0).toNat 32) (f4 : n3 = 0) (f5 : hUpd H1 H0 n1 n2 n3) : Bb_224_10 n0 n0 H0 H1 := by
  unfold Bb_224_10
  intro z
  have d8 := rdS (q := 285) f3 f0
  have p0 := PR_row (q := 294) f5 f2 (by decide) z
  have v0 : vwR H1 = vwR H0 := p0.2.1
  have ah0 : absR H1 = (absR H0) := p0.1
  have g32 := f1.1 285 32 _ _ rW_32
  have u1 : hV H1 294 = uF (hV H0 294) n2 n3 := uRow f5 294 f2.symm
  have v0 := f4
  have nb : hV H1 294 (hV H0 285 32).toNat = 0 := by rw [u1, uF_at, if_pos (by omega), v0]
  have e32 : hV H1 285 32 = hV H0 285 32 := uPlace f5 285 32 (by rw [f2]; decide)
  have bl : BLr H1 = [] := by
    unfold BLr
    rw [e32, nb]
    rfl
  rw [nb, bl, ah0]
  refine ⟨p0.2.2.1, fun _ => ⟨by decide, by decide, fun k hk => ?_, rfl, rfl⟩, fun c => ?_⟩
  · rw [e32, nb] at hk
    omega
  · have hn := absR_neg p0.2.2.1 c
    rw [ah0] at hn
    exact (pBlocks_stop (by rw [vwR_ok H0 _ hn]; decide)).symm
def g_224w_s_0 : vG := ([(80, [1, 2, 3], [1, 0], 0), (0, [3], [], 0), (20, [2, 0], [0], 32), (0, [1], [], 294), (6000, [0], [0], 0), (0, [0], [], 285)], (4000, [0], [1], 10))
theorem c_224w_s_0 : vOkm T0 (eN e_224 L_224w A_224 mu_224 n_224 B_224 none) 1 g_224w_s_0 := vOk_inI fun ρ η f0 f1 f2 f3 f4 f5 => q_224w_0 (n0 := ρ 0) (n1 := ρ 1) (n2 := ρ 2) (n3 := ρ 3) (H0 := η 0) (H1 := η 1) f5 f4 f3 f2 f1 f0
def p_224w_s : List vG := [g_224w_s_0]
theorem r_224w_s : vCovBO (eR0 e_224 L_224 cs_224 2000) p_224w_s = true := by decide +kernel
theorem q_224w_1 {q0 : Nat} {n0 n1 n2 n3 n4 n5 n7 n10 n11 n12 : Int} {H0 H1 H2 H3 H4 H5 : gH} (f0 : n0 = 285) (f1 : (hLe T0 H0 H1 ∧ hFr s_224.2.2.2.2 H0 H1 ∧ hWt T0 H1) ∧ ((Ab_224_10 n1 n0 H0 H1 ∧ Bb_224_10 n1 n0 H0 H1) ∧ preb_224 n1 H0) ∧ some q0 = some (mub_224_10 n1 n0 H0 H1)) (f2 : n2 = 20) (f3 : (hLe T0 H1 H2 ∧ hFr s_216.2.2.2.2 H1 H2 ∧ ((0 : Int) = 0 → H2.length = H1.length) ∧ hWt T0 H2) ∧ postb_216 n3 n0 n2 H1 H2) (f4 : n3 = 0) (f5 : n4 = hV H2 (n0).toNat 11) (f6 : n5 = 22) (f7 : (hLe T0 H2 H3 ∧ hFr s_220.2.2.2.2 H2 H3 ∧ ((0 : Int) = 0 → H3.length = H2.length) ∧ hWt T0 H3) ∧ (postb_220 n0 n5 H2 H3 ∧ nb_220 n0 n5 H2 H3)) (f8 : n7 = hV H3 (n0).toNat 32) (f9 : n11 = 33) (f10 : hUpd H4 H3 n0 n11 n10) (f11 : (hLe T0 H4 H5 ∧ hFr s_226.2.2.2.2 H4 H5 ∧ ((0 : Int) = 0 → H5.length = H4.length) ∧ hWt T0 H5) ∧ (postb_226 n0 H4 H5 ∧ nb_226 n0 H4 H5)) (f12 : n12 = hV H5 (n0).toNat 13) (f13 : n12 ≠ 0) : nb_224 n1 H0 H5 := by
  unfold nb_224
  intro z
  have ga := f1.2.1.1.2
  unfold Bb_224_10 at ga
  obtain ⟨z1, y1, y2⟩ := ga z
  have vz : vwR H1 = vwR H0 := vwR_fr f1.1.2.1 (by decide +kernel)
  have d11 := rdS (q := 285) f5 f0
  have d18 := rdS (q := 285) f8 f0
  have d29 := rdS (q := 285) f12 f0
  have q7 := f4
  have q30 := f13
  have f32_ : hV H1 285 32 = hV H0 285 32 := f1.1.2.1.1 285 32 (by decide +kernel)
  have g32 : (0 : Int) ≤ hV H0 285 32 ∧ hV H0 285 32 ≤ 100 := by
    have q := f1.1.2.2 285 32 _ _ rW_32
    rw [f32_] at q
    exact q
  have p0 := PR_fr f3.1.2.1 (by decide +kernel) z1
  have v0 : vwR H2 = vwR H0 := p0.2.1.trans vz
  have ah0 : absR H2 = (absR H1) := p0.1
  have i0 := f3.2
  unfold postb_216 at i0
  rw [f2] at i0
  have cm0 := f4
  have b0 := (isR_or (k := 20) p0.2.2.1 (by decide) i0).resolve_left (fun w => absurd (w.1.symm.trans cm0) (by decide))
  replace b0 := b0.2
  rw [v0, ah0, kmc_20] at b0
  have c1 := f7.2.2 p0.2.2.1 (by rw [f6]; decide)
  try rw [f6] at c1
  rw [v0, ah0, kmc_22] at c1
  have v1 : vwR H3 = vwR H0 := (vwR_fr f7.1.2.1 (by decide +kernel)).trans v0
  have p2 := PR_slot (s := 33) f10 f0 f9 (by decide) c1.1
  have v2 : vwR H4 = vwR H0 := p2.2.1.trans v1
  have ah2 : absR H4 = (ptk (vwR H0) 18 (absR H1)) := p2.1.trans c1.2
  have g294 : hV H4 294 = hV H1 294 := (uRowNe f10 294 (by rw [f0]; decide)).trans ((fRow f7.1.2.1 294 (by decide +kernel)).trans (fRow f3.1.2.1 294 (by decide +kernel)))
  have g295 : hV H4 295 = hV H1 295 := (uRowNe f10 295 (by rw [f0]; decide)).trans ((fRow f7.1.2.1 295 (by decide +kernel)).trans (fRow f3.1.2.1 295 (by decide +kernel)))
  have g297 : hV H4 297 = hV H1 297 := (uRowNe f10 297 (by rw [f0]; decide)).trans ((fRow f7.1.2.1 297 (by decide +kernel)).trans (fRow f3.1.2.1 297 (by decide +kernel)))
  have g32 : hV H4 285 32 = hV H1 285 32 := (uSlot f10 285 32 (by rw [f9]; decide)).trans ((f7.1.2.1.1 285 32 (by decide +kernel)).trans (f3.1.2.1.1 285 32 (by decide +kernel)))
  have gsm := BLr_same g32 g294 g295 g297
  have n := f11.2.2 p2.2.2.1 (fun c => gsm.2 (y1 (faultR_no z1 (pb_tk z (c := 18) (by rw [← ah2]; exact (absR_pos p2.2.2.1 c).2)).1)).2.2.1)
  rw [gsm.1, v2, ah2] at n
  obtain ⟨m1, m2, m3, m4⟩ := n
  have qb : absR H1 = pBlocks (vwR H0) 6 (absR H0) [] ∧ (hV H1 285 13 = 0 → BLr H1 = pTable (vwR H0) 6 (absR H0) []) := by
    by_cases c : hV H1 285 13 = 0
    · obtain ⟨k0, k6, zr, yb, yt⟩ := y1 c
      rw [pBlocks_stop b0] at yb
      rw [pTable_stop b0] at yt
      exact ⟨yb, fun _ => yt⟩
    · exact ⟨y2 c, fun u => absurd u c⟩
  unfold pSheet
  rw [← qb.1]
  have off : ¬ hV H5 285 13 = 0 → absR H5 = pLast (vwR H0) (pTable (vwR H0) 6 (absR H0) []) (absR H1) := fun cc => by
    have hn := absR_neg m1 cc
    by_cases c : hV H1 285 13 = 0
    · rw [← qb.2 c, pLast_eq m2, pgz_neg hn (absR_ok m1)]
    · have h1 := absR_neg z1 c
      rw [m2, ptk_neg (c := 18) h1 (absR_ok z1), pCuesR_neg h1, ptk_neg h1 (absR_ok z1), pLast_neg (vwR_ok H0) h1 (absR_ok z1)]
  have lo := m1.2.2.2.1
  exact ⟨m1, off (by omega)⟩
def g_224w_10_0 : vG := ([(31, [12], [], 0), (20, [12, 1], [5], 13), (1226, [1], [4, 5], 0), (80, [1, 11, 10], [4, 3], 0), (0, [11], [], 33), (20, [7, 1], [3], 32), (1220, [1, 5], [2, 3], 0), (0, [5], [], 22), (20, [4, 1], [2], 11), (30, [3], [], 0), (1216, [3, 1, 2], [1, 2], 0), (0, [2], [], 20), (5000, [0, 1], [0, 1], 10), (0, [1], [], 285)], (3000, [], [5], 90))
theorem c_224w_10_0 {q0 : Nat} : vOkm T0 (eN e_224 L_224w A_224 mu_224 n_224 B_224 (some q0)) 1 g_224w_10_0 := vOk_inI fun ρ η f0 f1 f2 f3 f4 f5 f6 f7 f8 f9 f10 f11 f12 f13 => q_224w_1 (q0 := q0) (n0 := ρ 1) (n1 := ρ 0) (n2 := ρ 2) (n3 := ρ 3) (n4 := ρ 4) (n5 := ρ 5) (n7 := ρ 7) (n10 := ρ 10) (n11 := ρ 11) (n12 := ρ 12) (H0 := η 0) (H1 := η 1) (H2 := η 2) (H3 := η 3) (H4 := η 4) (H5 := η 5) f13 f12 f11 f10 f9 f8 f7 f6 f5 f4 f3 f2 f1 f0
theorem q_224w_2 {q0 : Nat} {n0 n1 n2 n3 n4 n5 n7 n10 n11 n12 n13 : Int} {H0 H1 H2 H3 H4 H5 : gH} (f0 : n0 = 285) (f1 : (hLe T0 H0 H1 ∧ hFr s_224.2.2.2.2 H0 H1 ∧ hWt T0 H1) ∧ ((Ab_224_10 n1 n0 H0 H1 ∧ Bb_224_10 n1 n0 H0 H1) ∧ preb_224 n1 H0) ∧ some q0 = some (mub_224_10 n1 n0 H0 H1)) (f2 : n2 = 20) (f3 : (hLe T0 H1 H2 ∧ hFr s_216.2.2.2.2 H1 H2 ∧ ((0 : Int) = 0 → H2.length = H1.length) ∧ hWt T0 H2) ∧ postb_216 n3 n0 n2 H1 H2) (f4 : n3 = 0) (f5 : n4 = hV H2 (n0).toNat 11) (f6 : n5 = 22) (f7 : (hLe T0 H2 H3 ∧ hFr s_220.2.2.2.2 H2 H3 ∧ ((0 : Int) = 0 → H3.length = H2.length) ∧ hWt T0 H3) ∧ (postb_220 n0 n5 H2 H3 ∧ nb_220 n0 n5 H2 H3)) (f8 : n7 = hV H3 (n0).toNat 32) (f9 : n11 = 33) (f10 : hUpd H4 H3 n0 n11 n10) (f11 : (hLe T0 H4 H5 ∧ hFr s_226.2.2.2.2 H4 H5 ∧ ((0 : Int) = 0 → H5.length = H4.length) ∧ hWt T0 H5) ∧ (postb_226 n0 H4 H5 ∧ nb_226 n0 H4 H5)) (f12 : n12 = hV H5 (n0).toNat 13) (f13 : n12 = 0) (f14 : n13 = hV H5 (n0).toNat 15) (f15 : n13 ≠ 0) : nb_224 n1 H0 H5 := by
  unfold nb_224
  intro z
  have ga := f1.2.1.1.2
  unfold Bb_224_10 at ga
  obtain ⟨z1, y1, y2⟩ := ga z
  have vz : vwR H1 = vwR H0 := vwR_fr f1.1.2.1 (by decide +kernel)
  have d11 := rdS (q := 285) f5 f0
  have d18 := rdS (q := 285) f8 f0
  have d29 := rdS (q := 285) f12 f0
  have d34 := rdS (q := 285) f14 f0
  have q7 := f4
  have q30 := f13
  have q35 := f15
  have f32_ : hV H1 285 32 = hV H0 285 32 := f1.1.2.1.1 285 32 (by decide +kernel)
  have g32 : (0 : Int) ≤ hV H0 285 32 ∧ hV H0 285 32 ≤ 100 := by
    have q := f1.1.2.2 285 32 _ _ rW_32
    rw [f32_] at q
    exact q
  have p0 := PR_fr f3.1.2.1 (by decide +kernel) z1
  have v0 : vwR H2 = vwR H0 := p0.2.1.trans vz
  have ah0 : absR H2 = (absR H1) := p0.1
  have i0 := f3.2
  unfold postb_216 at i0
  rw [f2] at i0
  have cm0 := f4
  have b0 := (isR_or (k := 20) p0.2.2.1 (by decide) i0).resolve_left (fun w => absurd (w.1.symm.trans cm0) (by decide))
  replace b0 := b0.2
  rw [v0, ah0, kmc_20] at b0
  have c1 := f7.2.2 p0.2.2.1 (by rw [f6]; decide)
  try rw [f6] at c1
  rw [v0, ah0, kmc_22] at c1
  have v1 : vwR H3 = vwR H0 := (vwR_fr f7.1.2.1 (by decide +kernel)).trans v0
  have p2 := PR_slot (s := 33) f10 f0 f9 (by decide) c1.1
  have v2 : vwR H4 = vwR H0 := p2.2.1.trans v1
  have ah2 : absR H4 = (ptk (vwR H0) 18 (absR H1)) := p2.1.trans c1.2
  have g294 : hV H4 294 = hV H1 294 := (uRowNe f10 294 (by rw [f0]; decide)).trans ((fRow f7.1.2.1 294 (by decide +kernel)).trans (fRow f3.1.2.1 294 (by decide +kernel)))
  have g295 : hV H4 295 = hV H1 295 := (uRowNe f10 295 (by rw [f0]; decide)).trans ((fRow f7.1.2.1 295 (by decide +kernel)).trans (fRow f3.1.2.1 295 (by decide +kernel)))
  have g297 : hV H4 297 = hV H1 297 := (uRowNe f10 297 (by rw [f0]; decide)).trans ((fRow f7.1.2.1 297 (by decide +kernel)).trans (fRow f3.1.2.1 297 (by decide +kernel)))
  have g32 : hV H4 285 32 = hV H1 285 32 := (uSlot f10 285 32 (by rw [f9]; decide)).trans ((f7.1.2.1.1 285 32 (by decide +kernel)).trans (f3.1.2.1.1 285 32 (by decide +kernel)))
  have gsm := BLr_same g32 g294 g295 g297
  have n := f11.2.2 p2.2.2.1 (fun c => gsm.2 (y1 (faultR_no z1 (pb_tk z (c := 18) (by rw [← ah2]; exact (absR_pos p2.2.2.1 c).2)).1)).2.2.1)
  rw [gsm.1, v2, ah2] at n
  obtain ⟨m1, m2, m3, m4⟩ := n
  have qb : absR H1 = pBlocks (vwR H0) 6 (absR H0) [] ∧ (hV H1 285 13 = 0 → BLr H1 = pTable (vwR H0) 6 (absR H0) []) := by
    by_cases c : hV H1 285 13 = 0
    · obtain ⟨k0, k6, zr, yb, yt⟩ := y1 c
      rw [pBlocks_stop b0] at yb
      rw [pTable_stop b0] at yt
      exact ⟨yb, fun _ => yt⟩
    · exact ⟨y2 c, fun u => absurd u c⟩
  unfold pSheet
  rw [← qb.1]
  have off : ¬ hV H5 285 13 = 0 → absR H5 = pLast (vwR H0) (pTable (vwR H0) 6 (absR H0) []) (absR H1) := fun cc => by
    have hn := absR_neg m1 cc
    by_cases c : hV H1 285 13 = 0
    · rw [← qb.2 c, pLast_eq m2, pgz_neg hn (absR_ok m1)]
    · have h1 := absR_neg z1 c
      rw [m2, ptk_neg (c := 18) h1 (absR_ok z1), pCuesR_neg h1, ptk_neg h1 (absR_ok z1), pLast_neg (vwR_ok H0) h1 (absR_ok z1)]
  have lo := m1.2.2.2.1
  have fz : hV H5 285 13 = 0 := by omega
  have hp := (absR_pos m1 fz).2
  have e2 := absR_2 fz
  have on : hV H1 285 13 = 0 := Classical.byContradiction fun c => by
    have h1 := absR_neg z1 c
    rw [m2, ptk_neg (c := 18) h1 (absR_ok z1), pCuesR_neg h1, ptk_neg h1 (absR_ok z1)] at hp
    omega
  rw [← qb.2 on, pLast_eq m2]
  have x15 := m1.2.2.2.2.2.2.1
  have x16 := m1.2.2.2.2.2.2.2.2.1
  have w2 : ¬ (absR H5).2 = 0 := by
    rw [e2, if_neg (by omega)]
    omega
  rw [if_neg (fun c => w2 c.1)]
  exact ⟨m1, (pgz_id (absR_ok m1)).symm⟩
def g_224w_10_1 : vG := ([(31, [13], [], 0), (20, [13, 1], [5], 15), (30, [12], [], 0), (20, [12, 1], [5], 13), (1226, [1], [4, 5], 0), (80, [1, 11, 10], [4, 3], 0), (0, [11], [], 33), (20, [7, 1], [3], 32), (1220, [1, 5], [2, 3], 0), (0, [5], [], 22), (20, [4, 1], [2], 11), (30, [3], [], 0), (1216, [3, 1, 2], [1, 2], 0), (0, [2], [], 20), (5000, [0, 1], [0, 1], 10), (0, [1], [], 285)], (3000, [], [5], 90))
theorem c_224w_10_1 {q0 : Nat} : vOkm T0 (eN e_224 L_224w A_224 mu_224 n_224 B_224 (some q0)) 1 g_224w_10_1 := vOk_inI fun ρ η f0 f1 f2 f3 f4 f5 f6 f7 f8 f9 f10 f11 f12 f13 f14 f15 => q_224w_2 (q0 := q0) (n0 := ρ 1) (n1 := ρ 0) (n2 := ρ 2) (n3 := ρ 3) (n4 := ρ 4) (n5 := ρ 5) (n7 := ρ 7) (n10 := ρ 10) (n11 := ρ 11) (n12 := ρ 12) (n13 := ρ 13) (H0 := η 0) (H1 := η 1) (H2 := η 2) (H3 := η 3) (H4 := η 4) (H5 := η 5) f15 f14 f13 f12 f11 f10 f9 f8 f7 f6 f5 f4 f3 f2 f1 f0
theorem q_224w_3 {q0 : Nat} {n0 n1 n2 n3 n4 n5 n7 n10 n11 n12 n13 n14 n15 n16 n17 : Int} {H0 H1 H2 H3 H4 H5 : gH} (f0 : n0 = 285) (f1 : (hLe T0 H0 H1 ∧ hFr s_224.2.2.2.2 H0 H1 ∧ hWt T0 H1) ∧ ((Ab_224_10 n1 n0 H0 H1 ∧ Bb_224_10 n1 n0 H0 H1) ∧ preb_224 n1 H0) ∧ some q0 = some (mub_224_10 n1 n0 H0 H1)) (f2 : n2 = 20) (f3 : (hLe T0 H1 H2 ∧ hFr s_216.2.2.2.2 H1 H2 ∧ ((0 : Int) = 0 → H2.length = H1.length) ∧ hWt T0 H2) ∧ postb_216 n3 n0 n2 H1 H2) (f4 : n3 = 0) (f5 : n4 = hV H2 (n0).toNat 11) (f6 : n5 = 22) (f7 : (hLe T0 H2 H3 ∧ hFr s_220.2.2.2.2 H2 H3 ∧ ((0 : Int) = 0 → H3.length = H2.length) ∧ hWt T0 H3) ∧ (postb_220 n0 n5 H2 H3 ∧ nb_220 n0 n5 H2 H3)) (f8 : n7 = hV H3 (n0).toNat 32) (f9 : n11 = 33) (f10 : hUpd H4 H3 n0 n11 n10) (f11 : (hLe T0 H4 H5 ∧ hFr s_226.2.2.2.2 H4 H5 ∧ ((0 : Int) = 0 → H5.length = H4.length) ∧ hWt T0 H5) ∧ (postb_226 n0 H4 H5 ∧ nb_226 n0 H4 H5)) (f12 : n12 = hV H5 (n0).toNat 13) (f13 : n12 = 0) (f14 : n13 = hV H5 (n0).toNat 15) (f15 : n13 = 0) (f16 : n14 = 297) (f17 : n15 = hV H5 (n0).toNat 33) (f18 : n16 = hV H5 (n14).toNat (n15).toNat) (f19 : n17 = 40) (f20 : n16 ≤ n17) : nb_224 n1 H0 H5 := by
  unfold nb_224
  intro z
  have ga := f1.2.1.1.2
  unfold Bb_224_10 at ga
  obtain ⟨z1, y1, y2⟩ := ga z
  have vz : vwR H1 = vwR H0 := vwR_fr f1.1.2.1 (by decide +kernel)
  have d11 := rdS (q := 285) f5 f0
  have d18 := rdS (q := 285) f8 f0
  have d29 := rdS (q := 285) f12 f0
  have d34 := rdS (q := 285) f14 f0
  have d42 := rdS (q := 285) f17 f0
  have d45 := rdW (q := 297) f18 f16
  have q7 := f4
  have q30 := f13
  have q35 := f15
  have q47 := f20
  have qc46 := f19
  have f32_ : hV H1 285 32 = hV H0 285 32 := f1.1.2.1.1 285 32 (by decide +kernel)
  have g32 : (0 : Int) ≤ hV H0 285 32 ∧ hV H0 285 32 ≤ 100 := by
    have q := f1.1.2.2 285 32 _ _ rW_32
    rw [f32_] at q
    exact q
  have p0 := PR_fr f3.1.2.1 (by decide +kernel) z1
  have v0 : vwR H2 = vwR H0 := p0.2.1.trans vz
  have ah0 : absR H2 = (absR H1) := p0.1
  have i0 := f3.2
  unfold postb_216 at i0
  rw [f2] at i0
  have cm0 := f4
  have b0 := (isR_or (k := 20) p0.2.2.1 (by decide) i0).resolve_left (fun w => absurd (w.1.symm.trans cm0) (by decide))
  replace b0 := b0.2
  rw [v0, ah0, kmc_20] at b0
  have c1 := f7.2.2 p0.2.2.1 (by rw [f6]; decide)
  try rw [f6] at c1
  rw [v0, ah0, kmc_22] at c1
  have v1 : vwR H3 = vwR H0 := (vwR_fr f7.1.2.1 (by decide +kernel)).trans v0
  have p2 := PR_slot (s := 33) f10 f0 f9 (by decide) c1.1
  have v2 : vwR H4 = vwR H0 := p2.2.1.trans v1
  have ah2 : absR H4 = (ptk (vwR H0) 18 (absR H1)) := p2.1.trans c1.2
  have g294 : hV H4 294 = hV H1 294 := (uRowNe f10 294 (by rw [f0]; decide)).trans ((fRow f7.1.2.1 294 (by decide +kernel)).trans (fRow f3.1.2.1 294 (by decide +kernel)))
  have g295 : hV H4 295 = hV H1 295 := (uRowNe f10 295 (by rw [f0]; decide)).trans ((fRow f7.1.2.1 295 (by decide +kernel)).trans (fRow f3.1.2.1 295 (by decide +kernel)))
  have g297 : hV H4 297 = hV H1 297 := (uRowNe f10 297 (by rw [f0]; decide)).trans ((fRow f7.1.2.1 297 (by decide +kernel)).trans (fRow f3.1.2.1 297 (by decide +kernel)))
  have g32 : hV H4 285 32 = hV H1 285 32 := (uSlot f10 285 32 (by rw [f9]; decide)).trans ((f7.1.2.1.1 285 32 (by decide +kernel)).trans (f3.1.2.1.1 285 32 (by decide +kernel)))
  have gsm := BLr_same g32 g294 g295 g297
  have n := f11.2.2 p2.2.2.1 (fun c => gsm.2 (y1 (faultR_no z1 (pb_tk z (c := 18) (by rw [← ah2]; exact (absR_pos p2.2.2.1 c).2)).1)).2.2.1)
  rw [gsm.1, v2, ah2] at n
  obtain ⟨m1, m2, m3, m4⟩ := n
  have qb : absR H1 = pBlocks (vwR H0) 6 (absR H0) [] ∧ (hV H1 285 13 = 0 → BLr H1 = pTable (vwR H0) 6 (absR H0) []) := by
    by_cases c : hV H1 285 13 = 0
    · obtain ⟨k0, k6, zr, yb, yt⟩ := y1 c
      rw [pBlocks_stop b0] at yb
      rw [pTable_stop b0] at yt
      exact ⟨yb, fun _ => yt⟩
    · exact ⟨y2 c, fun u => absurd u c⟩
  unfold pSheet
  rw [← qb.1]
  have off : ¬ hV H5 285 13 = 0 → absR H5 = pLast (vwR H0) (pTable (vwR H0) 6 (absR H0) []) (absR H1) := fun cc => by
    have hn := absR_neg m1 cc
    by_cases c : hV H1 285 13 = 0
    · rw [← qb.2 c, pLast_eq m2, pgz_neg hn (absR_ok m1)]
    · have h1 := absR_neg z1 c
      rw [m2, ptk_neg (c := 18) h1 (absR_ok z1), pCuesR_neg h1, ptk_neg h1 (absR_ok z1), pLast_neg (vwR_ok H0) h1 (absR_ok z1)]
  have lo := m1.2.2.2.1
  have fz : hV H5 285 13 = 0 := by omega
  have hp := (absR_pos m1 fz).2
  have e2 := absR_2 fz
  have on : hV H1 285 13 = 0 := Classical.byContradiction fun c => by
    have h1 := absR_neg z1 c
    rw [m2, ptk_neg (c := 18) h1 (absR_ok z1), pCuesR_neg h1, ptk_neg h1 (absR_ok z1)] at hp
    omega
  rw [← qb.2 on, pLast_eq m2]
  have x15 := m1.2.2.2.2.2.2.1
  have x16 := m1.2.2.2.2.2.2.2.2.1
  have s33 : hV H5 285 33 = hV H4 285 33 := f11.1.2.1.1 285 33 (by decide +kernel)
  have sz := m4 fz
  have rz := d45
  rw [d42, s33, sz] at rz
  have cc := f20
  rw [if_neg (fun c => by have := c.2; omega)]
  exact ⟨m1, (pgz_id (absR_ok m1)).symm⟩
def g_224w_10_2 : vG := ([(45, [16, 17], [], 0), (0, [17], [], 40), (22, [16, 14, 15], [5], 0), (20, [15, 1], [5], 33), (0, [14], [], 297), (30, [13], [], 0), (20, [13, 1], [5], 15), (30, [12], [], 0), (20, [12, 1], [5], 13), (1226, [1], [4, 5], 0), (80, [1, 11, 10], [4, 3], 0), (0, [11], [], 33), (20, [7, 1], [3], 32), (1220, [1, 5], [2, 3], 0), (0, [5], [], 22), (20, [4, 1], [2], 11), (30, [3], [], 0), (1216, [3, 1, 2], [1, 2], 0), (0, [2], [], 20), (5000, [0, 1], [0, 1], 10), (0, [1], [], 285)], (3000, [], [5], 90))
theorem c_224w_10_2 {q0 : Nat} : vOkm T0 (eN e_224 L_224w A_224 mu_224 n_224 B_224 (some q0)) 1 g_224w_10_2 := vOk_inI fun ρ η f0 f1 f2 f3 f4 f5 f6 f7 f8 f9 f10 f11 f12 f13 f14 f15 f16 f17 f18 f19 f20 => q_224w_3 (q0 := q0) (n0 := ρ 1) (n1 := ρ 0) (n2 := ρ 2) (n3 := ρ 3) (n4 := ρ 4) (n5 := ρ 5) (n7 := ρ 7) (n10 := ρ 10) (n11 := ρ 11) (n12 := ρ 12) (n13 := ρ 13) (n14 := ρ 14) (n15 := ρ 15) (n16 := ρ 16) (n17 := ρ 17) (H0 := η 0) (H1 := η 1) (H2 := η 2) (H3 := η 3) (H4 := η 4) (H5 := η 5) f20 f19 f18 f17 f16 f15 f14 f13 f12 f11 f10 f9 f8 f7 f6 f5 f4 f3 f2 f1 f0
theorem q_224w_4 {q0 : Nat} {n0 n1 n2 n3 n4 n5 n7 n10 n11 n12 n13 n14 n15 n16 n17 n18 : Int} {H0 H1 H2 H3 H4 H5 H6 : gH} (f0 : n0 = 285) (f1 : (hLe T0 H0 H1 ∧ hFr s_224.2.2.2.2 H0 H1 ∧ hWt T0 H1) ∧ ((Ab_224_10 n1 n0 H0 H1 ∧ Bb_224_10 n1 n0 H0 H1) ∧ preb_224 n1 H0) ∧ some q0 = some (mub_224_10 n1 n0 H0 H1)) (f2 : n2 = 20) (f3 : (hLe T0 H1 H2 ∧ hFr s_216.2.2.2.2 H1 H2 ∧ ((0 : Int) = 0 → H2.length = H1.length) ∧ hWt T0 H2) ∧ postb_216 n3 n0 n2 H1 H2) (f4 : n3 = 0) (f5 : n4 = hV H2 (n0).toNat 11) (f6 : n5 = 22) (f7 : (hLe T0 H2 H3 ∧ hFr s_220.2.2.2.2 H2 H3 ∧ ((0 : Int) = 0 → H3.length = H2.length) ∧ hWt T0 H3) ∧ (postb_220 n0 n5 H2 H3 ∧ nb_220 n0 n5 H2 H3)) (f8 : n7 = hV H3 (n0).toNat 32) (f9 : n11 = 33) (f10 : hUpd H4 H3 n0 n11 n10) (f11 : (hLe T0 H4 H5 ∧ hFr s_226.2.2.2.2 H4 H5 ∧ ((0 : Int) = 0 → H5.length = H4.length) ∧ hWt T0 H5) ∧ (postb_226 n0 H4 H5 ∧ nb_226 n0 H4 H5)) (f12 : n12 = hV H5 (n0).toNat 13) (f13 : n12 = 0) (f14 : n13 = hV H5 (n0).toNat 15) (f15 : n13 = 0) (f16 : n14 = 297) (f17 : n15 = hV H5 (n0).toNat 33) (f18 : n16 = hV H5 (n14).toNat (n15).toNat) (f19 : n17 = 40) (f20 : n17 < n16) (f21 : n18 = 6) (f22 : (hLe T0 H5 H6 ∧ hFr s_218.2.2.2.2 H5 H6 ∧ ((0 : Int) = 0 → H6.length = H5.length) ∧ hWt T0 H6) ∧ (postb_218 n0 n18 n4 H5 H6 ∧ nb_218 n0 n18 n4 H5 H6)) : nb_224 n1 H0 H6 := by
  unfold nb_224
  intro z
  have ga := f1.2.1.1.2
  unfold Bb_224_10 at ga
  obtain ⟨z1, y1, y2⟩ := ga z
  have vz : vwR H1 = vwR H0 := vwR_fr f1.1.2.1 (by decide +kernel)
  have d11 := rdS (q := 285) f5 f0
  have d18 := rdS (q := 285) f8 f0
  have d29 := rdS (q := 285) f12 f0
  have d34 := rdS (q := 285) f14 f0
  have d42 := rdS (q := 285) f17 f0
  have d45 := rdW (q := 297) f18 f16
  have q7 := f4
  have q30 := f13
  have q35 := f15
  have q47 := f20
  have qc46 := f19
  have f32_ : hV H1 285 32 = hV H0 285 32 := f1.1.2.1.1 285 32 (by decide +kernel)
  have g32 : (0 : Int) ≤ hV H0 285 32 ∧ hV H0 285 32 ≤ 100 := by
    have q := f1.1.2.2 285 32 _ _ rW_32
    rw [f32_] at q
    exact q
  have p0 := PR_fr f3.1.2.1 (by decide +kernel) z1
  have v0 : vwR H2 = vwR H0 := p0.2.1.trans vz
  have ah0 : absR H2 = (absR H1) := p0.1
  have i0 := f3.2
  unfold postb_216 at i0
  rw [f2] at i0
  have cm0 := f4
  have b0 := (isR_or (k := 20) p0.2.2.1 (by decide) i0).resolve_left (fun w => absurd (w.1.symm.trans cm0) (by decide))
  replace b0 := b0.2
  rw [v0, ah0, kmc_20] at b0
  have c1 := f7.2.2 p0.2.2.1 (by rw [f6]; decide)
  try rw [f6] at c1
  rw [v0, ah0, kmc_22] at c1
  have v1 : vwR H3 = vwR H0 := (vwR_fr f7.1.2.1 (by decide +kernel)).trans v0
  have p2 := PR_slot (s := 33) f10 f0 f9 (by decide) c1.1
  have v2 : vwR H4 = vwR H0 := p2.2.1.trans v1
  have ah2 : absR H4 = (ptk (vwR H0) 18 (absR H1)) := p2.1.trans c1.2
  have g294 : hV H4 294 = hV H1 294 := (uRowNe f10 294 (by rw [f0]; decide)).trans ((fRow f7.1.2.1 294 (by decide +kernel)).trans (fRow f3.1.2.1 294 (by decide +kernel)))
  have g295 : hV H4 295 = hV H1 295 := (uRowNe f10 295 (by rw [f0]; decide)).trans ((fRow f7.1.2.1 295 (by decide +kernel)).trans (fRow f3.1.2.1 295 (by decide +kernel)))
  have g297 : hV H4 297 = hV H1 297 := (uRowNe f10 297 (by rw [f0]; decide)).trans ((fRow f7.1.2.1 297 (by decide +kernel)).trans (fRow f3.1.2.1 297 (by decide +kernel)))
  have g32 : hV H4 285 32 = hV H1 285 32 := (uSlot f10 285 32 (by rw [f9]; decide)).trans ((f7.1.2.1.1 285 32 (by decide +kernel)).trans (f3.1.2.1.1 285 32 (by decide +kernel)))
  have gsm := BLr_same g32 g294 g295 g297
  have n := f11.2.2 p2.2.2.1 (fun c => gsm.2 (y1 (faultR_no z1 (pb_tk z (c := 18) (by rw [← ah2]; exact (absR_pos p2.2.2.1 c).2)).1)).2.2.1)
  rw [gsm.1, v2, ah2] at n
  obtain ⟨m1, m2, m3, m4⟩ := n
  have qb : absR H1 = pBlocks (vwR H0) 6 (absR H0) [] ∧ (hV H1 285 13 = 0 → BLr H1 = pTable (vwR H0) 6 (absR H0) []) := by
    by_cases c : hV H1 285 13 = 0
    · obtain ⟨k0, k6, zr, yb, yt⟩ := y1 c
      rw [pBlocks_stop b0] at yb
      rw [pTable_stop b0] at yt
      exact ⟨yb, fun _ => yt⟩
    · exact ⟨y2 c, fun u => absurd u c⟩
  unfold pSheet
  rw [← qb.1]
  have off : ¬ hV H5 285 13 = 0 → absR H5 = pLast (vwR H0) (pTable (vwR H0) 6 (absR H0) []) (absR H1) := fun cc => by
    have hn := absR_neg m1 cc
    by_cases c : hV H1 285 13 = 0
    · rw [← qb.2 c, pLast_eq m2, pgz_neg hn (absR_ok m1)]
    · have h1 := absR_neg z1 c
      rw [m2, ptk_neg (c := 18) h1 (absR_ok z1), pCuesR_neg h1, ptk_neg h1 (absR_ok z1), pLast_neg (vwR_ok H0) h1 (absR_ok z1)]
  have lo := m1.2.2.2.1
  have fz : hV H5 285 13 = 0 := by omega
  have hp := (absR_pos m1 fz).2
  have e2 := absR_2 fz
  have on : hV H1 285 13 = 0 := Classical.byContradiction fun c => by
    have h1 := absR_neg z1 c
    rw [m2, ptk_neg (c := 18) h1 (absR_ok z1), pCuesR_neg h1, ptk_neg h1 (absR_ok z1)] at hp
    omega
  rw [← qb.2 on, pLast_eq m2]
  have x15 := m1.2.2.2.2.2.2.1
  have x16 := m1.2.2.2.2.2.2.2.2.1
  have s33 : hV H5 285 33 = hV H4 285 33 := f11.1.2.1.1 285 33 (by decide +kernel)
  have sz := m4 fz
  have rz := d45
  rw [d42, s33, sz] at rz
  have t4 : n4 = hV H1 285 11 := by rw [d11, show hV H2 285 11 = hV H1 285 11 from f3.1.2.1.1 285 11 (by decide +kernel)]
  have b1 := f7.2.1
  unfold postb_220 at b1
  have b2 := f11.2.1
  unfold postb_226 at b2
  have bx : hV H4 285 11 = hV H3 285 11 := uSlot f10 285 11 (by rw [f9]; decide)
  have by_ : hV H2 285 11 = hV H1 285 11 := f3.1.2.1.1 285 11 (by decide +kernel)
  have f2 : hV H4 285 13 = hV H3 285 13 := uSlot f10 285 13 (by rw [f9]; decide)
  have b21 : hV H4 285 11 ≤ hV H5 285 11 := b2.2.2.2.1
  have b22 := b2.2.2.2.2.2.1
  have ww := f22.2.2
  unfold nb_218 at ww
  rw [f21] at ww
  have t0 := z1.2.1
  have lo2 := c1.1.2.2.2.1
  have wo := wrong_on m1 fz (by omega) (by omega) (by decide) (fun c => absurd (by omega) c) ww
  have e20 : (absR H5).2 = 0 := by
    rw [e2]
    exact if_pos (by omega)
  have p289 : hV H5 289 = hV H1 289 := (fRow f11.1.2.1 289 (by decide +kernel)).trans ((uRowNe f10 289 (by rw [f0]; decide)).trans ((fRow f7.1.2.1 289 (by decide +kernel)).trans (fRow f3.1.2.1 289 (by decide +kernel))))
  have pl : (vwR H0).2.2.2 (absR H1).1 = hV H5 289 (n4).toNat := by
    rw [← vz, placeR_at z1 on, p289, t4]
  refine ⟨wo.1, wo.2.trans ?_⟩
  rw [if_pos e20, if_pos ⟨e20, by omega⟩, pl]
  unfold pgz
  rw [if_neg (by omega)]
def g_224w_10_3 : vG := ([(1218, [1, 18, 4], [5, 6], 0), (0, [18], [], 6), (44, [16, 17], [], 0), (0, [17], [], 40), (22, [16, 14, 15], [5], 0), (20, [15, 1], [5], 33), (0, [14], [], 297), (30, [13], [], 0), (20, [13, 1], [5], 15), (30, [12], [], 0), (20, [12, 1], [5], 13), (1226, [1], [4, 5], 0), (80, [1, 11, 10], [4, 3], 0), (0, [11], [], 33), (20, [7, 1], [3], 32), (1220, [1, 5], [2, 3], 0), (0, [5], [], 22), (20, [4, 1], [2], 11), (30, [3], [], 0), (1216, [3, 1, 2], [1, 2], 0), (0, [2], [], 20), (5000, [0, 1], [0, 1], 10), (0, [1], [], 285)], (3000, [], [6], 90))
theorem c_224w_10_3 {q0 : Nat} : vOkm T0 (eN e_224 L_224w A_224 mu_224 n_224 B_224 (some q0)) 1 g_224w_10_3 := vOk_inI fun ρ η f0 f1 f2 f3 f4 f5 f6 f7 f8 f9 f10 f11 f12 f13 f14 f15 f16 f17 f18 f19 f20 f21 f22 => q_224w_4 (q0 := q0) (n0 := ρ 1) (n1 := ρ 0) (n2 := ρ 2) (n3 := ρ 3) (n4 := ρ 4) (n5 := ρ 5) (n7 := ρ 7) (n10 := ρ 10) (n11 := ρ 11) (n12 := ρ 12) (n13 := ρ 13) (n14 := ρ 14) (n15 := ρ 15) (n16 := ρ 16) (n17 := ρ 17) (n18 := ρ 18) (H0 := η 0) (H1 := η 1) (H2 := η 2) (H3 := η 3) (H4 := η 4) (H5 := η 5) (H6 := η 6) f22 f21 f20 f19 f18 f17 f16 f15 f14 f13 f12 f11 f10 f9 f8 f7 f6 f5 f4 f3 f2 f1 f0
theorem q_224w_5 {q0 : Nat} {n0 n1 n2 n3 : Int} {H0 H1 H2 H3 : gH} (f0 : (hLe T0 H0 H1 ∧ hFr s_224.2.2.2.2 H0 H1 ∧ hWt T0 H1) ∧ ((Ab_224_10 n1 n0 H0 H1 ∧ Bb_224_10 n1 n0 H0 H1) ∧ preb_224 n1 H0) ∧ some q0 = some (mub_224_10 n1 n0 H0 H1)) (f1 : n2 = 20) (f2 : (hLe T0 H1 H2 ∧ hFr s_216.2.2.2.2 H1 H2 ∧ ((0 : Int) = 0 → H2.length = H1.length) ∧ hWt T0 H2) ∧ postb_216 n3 n0 n2 H1 H2) (f3 : n3 ≠ 0) (f4 : (hLe T0 H2 H3 ∧ hFr s_225.2.2.2.2 H2 H3 ∧ ((0 : Int) = 0 → H3.length = H2.length) ∧ hWt T0 H3) ∧ (postb_225 n0 H2 H3 ∧ nb_225 n0 H2 H3)) : Bb_224_10 n1 n0 H0 H3 := by
  unfold Bb_224_10
  intro z
  have ga := f0.2.1.1.2
  unfold Bb_224_10 at ga
  obtain ⟨z1, y1, y2⟩ := ga z
  have vz : vwR H1 = vwR H0 := vwR_fr f0.1.2.1 (by decide +kernel)
  have q7 := f3
  have f32_ : hV H1 285 32 = hV H0 285 32 := f0.1.2.1.1 285 32 (by decide +kernel)
  have g32 : (0 : Int) ≤ hV H0 285 32 ∧ hV H0 285 32 ≤ 100 := by
    have q := f0.1.2.2 285 32 _ _ rW_32
    rw [f32_] at q
    exact q
  have p0 := PR_fr f2.1.2.1 (by decide +kernel) z1
  have v0 : vwR H2 = vwR H0 := p0.2.1.trans vz
  have ah0 : absR H2 = (absR H1) := p0.1
  have i0 := f2.2
  unfold postb_216 at i0
  rw [f1] at i0
  have cm0 := f3
  have b0 := (isR_or (k := 20) p0.2.2.1 (by decide) i0).resolve_right (fun w => cm0 w.1)
  replace b0 := b0.2
  rw [v0, ah0, kmc_20] at b0
  have g294 : hV H2 294 = hV H1 294 := fRow f2.1.2.1 294 (by decide +kernel)
  have g295 : hV H2 295 = hV H1 295 := fRow f2.1.2.1 295 (by decide +kernel)
  have g297 : hV H2 297 = hV H1 297 := fRow f2.1.2.1 297 (by decide +kernel)
  have g32 : hV H2 285 32 = hV H1 285 32 := f2.1.2.1.1 285 32 (by decide +kernel)
  have gsm := BLr_same g32 g294 g295 g297
  have fz := faultR_no z1 (kdR_pos b0 (by decide))
  obtain ⟨k0, k6, zr, yb, yt⟩ := y1 fz
  have n := f4.2.2 p0.2.2.1 (gsm.2 zr) (by rw [v0, ah0]; exact b0)
  rw [gsm.1, g32, f32_, g294, v0, ah0] at n
  obtain ⟨m1, m2, m3⟩ := n
  refine ⟨m1, fun c => ?_, fun c => ?_⟩
  · obtain ⟨w1, w2, w3⟩ := m3 c
    rcases m2 with ⟨w6, w⟩ | ⟨w6, w⟩
    · exact absurd c (faultR_of m1 (by rw [w]; exact pfailR_lt z (by decide)))
    · rw [w1, w2, w]
      refine ⟨by omega, by omega, w3, ?_, ?_⟩
      · rw [← yb, show (6 - hV H1 294 (hV H0 285 32).toNat).toNat = (6 - (hV H1 294 (hV H0 285 32).toNat + 1)).toNat + 1 by omega, pBlocks_step b0]
      · rw [← yt, show (6 - hV H1 294 (hV H0 285 32).toNat).toNat = (6 - (hV H1 294 (hV H0 285 32).toNat + 1)).toNat + 1 by omega, pTable_step b0]
  · have hn := absR_neg m1 c
    rw [← yb]
    rcases m2 with ⟨w6, w⟩ | ⟨w6, w⟩
    · rw [w, w6, show ((6 : Int) - 6).toNat = 0 from rfl, pBlocks_full b0]
    · rw [show (6 - hV H1 294 (hV H0 285 32).toNat).toNat = (6 - (hV H1 294 (hV H0 285 32).toNat + 1)).toNat + 1 by omega, pBlocks_step b0, ← w]
      exact (pBlocks_stop (by rw [vwR_ok H0 _ hn]; decide)).symm
def g_224w_10_4 : vG := ([(1225, [1], [2, 3], 0), (31, [3], [], 0), (1216, [3, 1, 2], [1, 2], 0), (0, [2], [], 20), (5000, [0, 1], [0, 1], 10)], (4000, [1], [3], 10))
theorem c_224w_10_4 {q0 : Nat} : vOkm T0 (eN e_224 L_224w A_224 mu_224 n_224 B_224 (some q0)) 1 g_224w_10_4 := vOk_inI fun ρ η f0 f1 f2 f3 f4 => q_224w_5 (q0 := q0) (n0 := ρ 1) (n1 := ρ 0) (n2 := ρ 2) (n3 := ρ 3) (H0 := η 0) (H1 := η 1) (H2 := η 2) (H3 := η 3) f4 f3 f2 f1 f0
def p_224w_10 : List vG := [g_224w_10_0,
  g_224w_10_1,
  g_224w_10_2,
  g_224w_10_3,
  g_224w_10_4]
theorem r_224w_10 : vCovBO (eRc e_224 L_224 cs_224 2000 (10, [(0, (3, 12, 285, 0))])) p_224w_10 = true := by decide +kernel
theorem m_224w (d : Nat) : eC e_224w (d + 10) := eC_ref (e := e_224) (L := L_224) (L' := L_224w) (cs := cs_224) (n := 2000) (d := d + 9) (A := A_224) (μ := mu_224) (tp := false) (p0 := p_224_s) (p1 := p_224w_s) (N := n_224) (B := B_224) rfl ⟨m_216 (d + 8), ⟨m_218w (d + 8), ⟨m_220w (d + 6), ⟨m_225w d, ⟨m_226w (d + 1), trivial⟩⟩⟩⟩⟩ rfl (.inl rfl) (by decide +kernel) (fun z => nomatch z) r_224_s (allC c_224_s_0 allN) (allC (.inl ⟨p_224_10, r_224_10, fun q0 => (allC c_224_10_0 (allC c_224_10_1 (allC c_224_10_2 (allC c_224_10_3 (allC c_224_10_4 (allC c_224_10_5 (allC c_224_10_6 (allC c_224_10_7 (allC c_224_10_8 allN)))))))))⟩) allN) (sub0 (sub1 (sub1 (sub1 (sub1 trivial))))) r_224w_s (allC c_224w_s_0 allN) (allC ⟨p_224w_10, r_224w_10, fun q0 => (allC c_224w_10_0 (allC c_224w_10_1 (allC c_224w_10_2 (allC c_224w_10_3 (allC c_224w_10_4 allN)))))⟩ allN)
