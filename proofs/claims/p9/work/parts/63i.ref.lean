/- MixStageModel.tellCues ()V, more fully -/
def nb_226 (a0 : Int) (h0 h : gH) : Prop := RI h0 → (hV h0 285 13 = 0 → ZR h0) → RI h ∧ absR h = ptk (vwR h0) 17 (pCues (vwR h0) (BLr h0) 16 (absR h0)) ∧ (∀ k : Nat, ¬ (k : Int) = hV h0 285 33 → hV h 297 (k) = hV h0 297 (k)) ∧ (hV h 285 13 = 0 → hV h 297 ((hV h0 285 33).toNat) = pTot (vwR h0) (BLr h0) 16 (absR h0) 0)
def n_226 : List Int → gH → gH → Prop := fun xs h0 h => match xs with
  | [a0] => nb_226 a0 h0 h
  | _ => True
noncomputable def e_226w : vE := eV e_226 n_226
noncomputable def L_226w : List vE := [e_216, e_220w, e_227w]
def Bb_226_20 (a0 x0 : Int) (h0 h : gH) : Prop := RI h0 → (hV h0 285 13 = 0 → ZR h0) → RI h ∧ (hV h 285 13 = 0 → 0 ≤ hV h 296 ((hV h0 285 33).toNat) ∧ hV h 296 ((hV h0 285 33).toNat) ≤ 16) ∧ ptk (vwR h0) 17 (pCues (vwR h0) (BLr h0) (16 - hV h 296 ((hV h0 285 33).toNat)).toNat (absR h)) = ptk (vwR h0) 17 (pCues (vwR h0) (BLr h0) 16 (absR h0)) ∧ (hV h 285 13 = 0 → pTot (vwR h0) (BLr h0) (16 - hV h 296 ((hV h0 285 33).toNat)).toNat (absR h) (hV h 297 ((hV h0 285 33).toNat)) = pTot (vwR h0) (BLr h0) 16 (absR h0) 0) ∧ (∀ k : Nat, ¬ (k : Int) = hV h0 285 33 → hV h 297 (k) = hV h0 297 (k))
def B_226 : Int → List Int → gH → gH → Prop := fun c xs h0 h => match c.toNat with
  | 20 => (match xs with
    | [a0, x0] => Bb_226_20 a0 x0 h0 h
    | _ => False)
  | _ => True
theorem q_226w_0 {n0 n1 n2 n3 n4 n5 n6 : Int} {H0 H1 H2 : gH} (f0 : n0 = 285) (f1 : hWt T0 H0 ∧ preb_226 n0 H0) (f2 : n1 = 296) (f3 : n2 = hV H0 (n0).toNat 33) (f4 : n3 = 0) (f5 : hUpd H1 H0 n1 n2 n3) (f6 : n4 = 297) (f7 : n5 = hV H1 (n0).toNat 33) (f8 : n6 = 0) (f9 : hUpd H2 H1 n4 n5 n6) : Bb_226_20 n0 n0 H0 H2 := by
  unfold Bb_226_20
  intro z zr
  have d8 := rdS (q := 285) f3 f0
  have d18 := rdS (q := 285) f7 f0
  have p0 := PR_row (q := 296) f5 f2 (by decide) z
  have v0 : vwR H1 = vwR H0 := p0.2.1
  have ah0 : absR H1 = (absR H0) := p0.1
  have p1 := PR_row (q := 297) f9 f6 (by decide) p0.2.2.1
  have v1 : vwR H2 = vwR H0 := p1.2.1.trans v0
  have ah1 : absR H2 = (absR H0) := p1.1.trans ah0
  have h33_0 : n2 = hV H0 285 33 := by rw [d8, show hV H0 285 33 = hV H0 285 33 from rfl]
  have h33_1 : n5 = hV H0 285 33 := by rw [d18, show hV H1 285 33 = hV H0 285 33 from uPlace f5 285 33 (by rw [f2]; decide)]
  have g33 := f1.1 285 33 _ _ rW_33
  have u1 : hV H1 296 = uF (hV H0 296) n2 n3 := uRow f5 296 f2.symm
  have ps3 : hV H1 297 = hV H0 297 := uRowNe f5 297 (by rw [f2]; decide)
  have u2 : hV H2 297 = uF (hV H1 297) n5 n6 := uRow f9 297 f6.symm
  have pe : hV H2 296 = hV H1 296 := uRowNe f9 296 (by rw [f6]; decide)
  have z1_ := f4
  have z2_ := f8
  rw [z1_] at u1
  rw [ps3, z2_] at u2
  have em : hV H2 296 (hV H0 285 33).toNat = 0 := by rw [pe, u1, uF_at, if_pos (by omega)]
  have es : hV H2 297 (hV H0 285 33).toNat = 0 := by rw [u2, uF_at, if_pos (by omega)]
  rw [em, es, ah1]
  refine ⟨p1.2.2.1, fun _ => by decide, rfl, fun _ => rfl, fun k hk => ?_⟩
  rw [u2, uF_at, if_neg (by omega)]
def g_226w_s_0 : vG := ([(80, [4, 5, 6], [2, 1], 0), (0, [6], [], 0), (20, [5, 0], [1], 33), (0, [4], [], 297), (80, [1, 2, 3], [1, 0], 0), (0, [3], [], 0), (20, [2, 0], [0], 33), (0, [1], [], 296), (6000, [0], [0], 0), (0, [0], [], 285)], (4000, [0], [2], 20))
theorem c_226w_s_0 : vOkm T0 (eN e_226 L_226w A_226 mu_226 n_226 B_226 none) 1 g_226w_s_0 := vOk_inI fun ρ η f0 f1 f2 f3 f4 f5 f6 f7 f8 f9 => q_226w_0 (n0 := ρ 0) (n1 := ρ 1) (n2 := ρ 2) (n3 := ρ 3) (n4 := ρ 4) (n5 := ρ 5) (n6 := ρ 6) (H0 := η 0) (H1 := η 1) (H2 := η 2) f9 f8 f7 f6 f5 f4 f3 f2 f1 f0
def p_226w_s : List vG := [g_226w_s_0]
theorem r_226w_s : vCovBO (eR0 e_226 L_226 cs_226 2000) p_226w_s = true := by decide +kernel
theorem q_226w_1 {q0 : Nat} {n0 n1 n2 n3 : Int} {H0 H1 H2 : gH} (f0 : n0 = 285) (f1 : (hLe T0 H0 H1 ∧ hFr s_226.2.2.2.2 H0 H1 ∧ hWt T0 H1) ∧ ((Ab_226_20 n1 n0 H0 H1 ∧ Bb_226_20 n1 n0 H0 H1) ∧ preb_226 n1 H0) ∧ some q0 = some (mub_226_20 n1 n0 H0 H1)) (f2 : n2 = hV H1 (n0).toNat 13) (f3 : n2 ≠ 0) (f4 : n3 = 21) (f5 : (hLe T0 H1 H2 ∧ hFr s_220.2.2.2.2 H1 H2 ∧ ((0 : Int) = 0 → H2.length = H1.length) ∧ hWt T0 H2) ∧ (postb_220 n0 n3 H1 H2 ∧ nb_220 n0 n3 H1 H2)) : nb_226 n1 H0 H2 := by
  unfold nb_226
  intro z zr
  have ga := f1.2.1.1.2
  unfold Bb_226_20 at ga
  obtain ⟨z1, mb, y1, y2, sz⟩ := ga z zr
  have vz : vwR H1 = vwR H0 := vwR_fr f1.1.2.1 (by decide +kernel)
  have d6 := rdS (q := 285) f2 f0
  have q7 := f3
  have fx : hV H1 285 33 = hV H0 285 33 := f1.1.2.1.1 285 33 (by decide +kernel)
  have f32_ : hV H1 285 32 = hV H0 285 32 := f1.1.2.1.1 285 32 (by decide +kernel)
  have pr := f1.2.1.2
  unfold preb_226 at pr
  have g32 : (0 : Int) ≤ hV H0 285 32 ∧ hV H0 285 32 ≤ 100 := by
    have q := f1.1.2.2 285 32 _ _ rW_32
    rw [f1.1.2.1.1 285 32 (by decide +kernel)] at q
    exact q
  have c0 := f5.2.2 z1 (by rw [f4]; decide)
  try rw [f4] at c0
  rw [vz, kmc_21] at c0
  have v0 : vwR H2 = vwR H0 := (vwR_fr f5.1.2.1 (by decide +kernel)).trans vz
  have lo := z1.2.2.2.1
  have ps2 : hV H2 297 = hV H1 297 := fRow f5.1.2.1 297 (by decide +kernel)
  have hn := absR_neg z1 (by omega)
  rw [pCuesR_neg hn] at y1
  refine ⟨c0.1, c0.2.trans y1, fun k hk => by rw [ps2]; exact sz k hk, fun c => ?_⟩
  exfalso
  have e := c0.2
  rw [ptk_neg hn (absR_ok z1)] at e
  exact absurd c (faultR_of c0.1 (by rw [e]; exact hn))
def g_226w_20_0 : vG := ([(1220, [1, 3], [1, 2], 0), (0, [3], [], 21), (31, [2], [], 0), (20, [2, 1], [1], 13), (5000, [0, 1], [0, 1], 20), (0, [1], [], 285)], (3000, [], [2], 49))
theorem c_226w_20_0 {q0 : Nat} : vOkm T0 (eN e_226 L_226w A_226 mu_226 n_226 B_226 (some q0)) 1 g_226w_20_0 := vOk_inI fun ρ η f0 f1 f2 f3 f4 f5 => q_226w_1 (q0 := q0) (n0 := ρ 1) (n1 := ρ 0) (n2 := ρ 2) (n3 := ρ 3) (H0 := η 0) (H1 := η 1) (H2 := η 2) f5 f4 f3 f2 f1 f0
theorem q_226w_2 {q0 : Nat} {n0 n1 n2 n3 n4 n5 : Int} {H0 H1 H2 H3 : gH} (f0 : n0 = 285) (f1 : (hLe T0 H0 H1 ∧ hFr s_226.2.2.2.2 H0 H1 ∧ hWt T0 H1) ∧ ((Ab_226_20 n1 n0 H0 H1 ∧ Bb_226_20 n1 n0 H0 H1) ∧ preb_226 n1 H0) ∧ some q0 = some (mub_226_20 n1 n0 H0 H1)) (f2 : n2 = hV H1 (n0).toNat 13) (f3 : n2 = 0) (f4 : n3 = 21) (f5 : (hLe T0 H1 H2 ∧ hFr s_216.2.2.2.2 H1 H2 ∧ ((0 : Int) = 0 → H2.length = H1.length) ∧ hWt T0 H2) ∧ postb_216 n4 n0 n3 H1 H2) (f6 : n4 ≠ 0) (f7 : n5 = 21) (f8 : (hLe T0 H2 H3 ∧ hFr s_220.2.2.2.2 H2 H3 ∧ ((0 : Int) = 0 → H3.length = H2.length) ∧ hWt T0 H3) ∧ (postb_220 n0 n5 H2 H3 ∧ nb_220 n0 n5 H2 H3)) : nb_226 n1 H0 H3 := by
  unfold nb_226
  intro z zr
  have ga := f1.2.1.1.2
  unfold Bb_226_20 at ga
  obtain ⟨z1, mb, y1, y2, sz⟩ := ga z zr
  have vz : vwR H1 = vwR H0 := vwR_fr f1.1.2.1 (by decide +kernel)
  have d6 := rdS (q := 285) f2 f0
  have q7 := f3
  have q12 := f6
  have fx : hV H1 285 33 = hV H0 285 33 := f1.1.2.1.1 285 33 (by decide +kernel)
  have f32_ : hV H1 285 32 = hV H0 285 32 := f1.1.2.1.1 285 32 (by decide +kernel)
  have pr := f1.2.1.2
  unfold preb_226 at pr
  have g32 : (0 : Int) ≤ hV H0 285 32 ∧ hV H0 285 32 ≤ 100 := by
    have q := f1.1.2.2 285 32 _ _ rW_32
    rw [f1.1.2.1.1 285 32 (by decide +kernel)] at q
    exact q
  have p0 := PR_fr f5.1.2.1 (by decide +kernel) z1
  have v0 : vwR H2 = vwR H0 := p0.2.1.trans vz
  have ah0 : absR H2 = (absR H1) := p0.1
  have i0 := f5.2
  unfold postb_216 at i0
  rw [f4] at i0
  have cm0 := f6
  have b0 := (isR_or (k := 21) p0.2.2.1 (by decide) i0).resolve_right (fun w => cm0 w.1)
  replace b0 := b0.2
  rw [v0, ah0, kmc_21] at b0
  have c1 := f8.2.2 p0.2.2.1 (by rw [f7]; decide)
  try rw [f7] at c1
  rw [v0, ah0, kmc_21] at c1
  have v1 : vwR H3 = vwR H0 := (vwR_fr f8.1.2.1 (by decide +kernel)).trans v0
  have lo := z1.2.2.2.1
  have ps2 : hV H3 297 = hV H1 297 := (fRow f8.1.2.1 297 (by decide +kernel)).trans (fRow f5.1.2.1 297 (by decide +kernel))
  have cc : ¬ (20 ≤ (vwR H0).1 (absR H1).1 ∧ (vwR H0).1 (absR H1).1 ≤ 25) := by omega
  rw [pCues_stop cc] at y1
  refine ⟨c1.1, c1.2.trans y1, fun k hk => by rw [ps2]; exact sz k hk, fun _ => ?_⟩
  have e := y2 (by omega)
  rw [pTot_stop cc] at e
  rw [ps2]
  exact e
def g_226w_20_1 : vG := ([(1220, [1, 5], [2, 3], 0), (0, [5], [], 21), (31, [4], [], 0), (1216, [4, 1, 3], [1, 2], 0), (0, [3], [], 21), (30, [2], [], 0), (20, [2, 1], [1], 13), (5000, [0, 1], [0, 1], 20), (0, [1], [], 285)], (3000, [], [3], 49))
theorem c_226w_20_1 {q0 : Nat} : vOkm T0 (eN e_226 L_226w A_226 mu_226 n_226 B_226 (some q0)) 1 g_226w_20_1 := vOk_inI fun ρ η f0 f1 f2 f3 f4 f5 f6 f7 f8 => q_226w_2 (q0 := q0) (n0 := ρ 1) (n1 := ρ 0) (n2 := ρ 2) (n3 := ρ 3) (n4 := ρ 4) (n5 := ρ 5) (H0 := η 0) (H1 := η 1) (H2 := η 2) (H3 := η 3) f8 f7 f6 f5 f4 f3 f2 f1 f0
theorem q_226w_3 {q0 : Nat} {n0 n1 n2 n3 n4 : Int} {H0 H1 H2 H3 : gH} (f0 : n0 = 285) (f1 : (hLe T0 H0 H1 ∧ hFr s_226.2.2.2.2 H0 H1 ∧ hWt T0 H1) ∧ ((Ab_226_20 n1 n0 H0 H1 ∧ Bb_226_20 n1 n0 H0 H1) ∧ preb_226 n1 H0) ∧ some q0 = some (mub_226_20 n1 n0 H0 H1)) (f2 : n2 = hV H1 (n0).toNat 13) (f3 : n2 = 0) (f4 : n3 = 21) (f5 : (hLe T0 H1 H2 ∧ hFr s_216.2.2.2.2 H1 H2 ∧ ((0 : Int) = 0 → H2.length = H1.length) ∧ hWt T0 H2) ∧ postb_216 n4 n0 n3 H1 H2) (f6 : n4 = 0) (f7 : (hLe T0 H2 H3 ∧ hFr s_227.2.2.2.2 H2 H3 ∧ ((0 : Int) = 0 → H3.length = H2.length) ∧ hWt T0 H3) ∧ (postb_227 n0 H2 H3 ∧ nb_227 n0 H2 H3)) : Bb_226_20 n1 n0 H0 H3 := by
  unfold Bb_226_20
  intro z zr
  have ga := f1.2.1.1.2
  unfold Bb_226_20 at ga
  obtain ⟨z1, mb, y1, y2, sz⟩ := ga z zr
  have vz : vwR H1 = vwR H0 := vwR_fr f1.1.2.1 (by decide +kernel)
  have d6 := rdS (q := 285) f2 f0
  have q7 := f3
  have q12 := f6
  have fx : hV H1 285 33 = hV H0 285 33 := f1.1.2.1.1 285 33 (by decide +kernel)
  have f32_ : hV H1 285 32 = hV H0 285 32 := f1.1.2.1.1 285 32 (by decide +kernel)
  have pr := f1.2.1.2
  unfold preb_226 at pr
  have g32 : (0 : Int) ≤ hV H0 285 32 ∧ hV H0 285 32 ≤ 100 := by
    have q := f1.1.2.2 285 32 _ _ rW_32
    rw [f1.1.2.1.1 285 32 (by decide +kernel)] at q
    exact q
  have p0 := PR_fr f5.1.2.1 (by decide +kernel) z1
  have v0 : vwR H2 = vwR H0 := p0.2.1.trans vz
  have ah0 : absR H2 = (absR H1) := p0.1
  have i0 := f5.2
  unfold postb_216 at i0
  rw [f4] at i0
  have cm0 := f6
  have b0 := (isR_or (k := 21) p0.2.2.1 (by decide) i0).resolve_left (fun w => absurd (w.1.symm.trans cm0) (by decide))
  replace b0 := b0.2
  rw [v0, ah0, kmc_21] at b0
  have lo := z1.2.2.2.1
  have r294 : hV H2 294 = hV H1 294 := fRow f5.1.2.1 294 (by decide +kernel)
  have r295 : hV H2 295 = hV H1 295 := fRow f5.1.2.1 295 (by decide +kernel)
  have r296 : hV H2 296 = hV H1 296 := fRow f5.1.2.1 296 (by decide +kernel)
  have r297 : hV H2 297 = hV H1 297 := fRow f5.1.2.1 297 (by decide +kernel)
  have b294 : hV H1 294 = hV H0 294 := fRow f1.1.2.1 294 (by decide +kernel)
  have b295 : hV H1 295 = hV H0 295 := fRow f1.1.2.1 295 (by decide +kernel)
  have s32_ : hV H2 285 32 = hV H1 285 32 := f5.1.2.1.1 285 32 (by decide +kernel)
  have s33_ : hV H2 285 33 = hV H1 285 33 := f5.1.2.1.1 285 33 (by decide +kernel)
  have s13_ : hV H2 285 13 = hV H1 285 13 := f5.1.2.1.1 285 13 (by decide +kernel)
  have kp := BLr_keep (a := H0) (b := H2) (q := hV H0 285 33) (s32_.trans f32_) (r294.trans b294) (r295.trans b295) (fun k hk => by rw [r297]; exact sz k hk) g32.1 (by omega)
  have fz : hV H1 285 13 = 0 := by omega
  have mb1 := mb fz
  have yt := y2 fz
  have n := f7.2.2 p0.2.2.1 (fun _ => kp.2 (zr (Classical.byContradiction fun cz => by
    have hn0 := absR_neg z cz
    rw [pCuesR_neg hn0, ptk_neg hn0 (absR_ok z)] at y1
    have hp1 := absR_pos z1 fz
    have w1 : (ptk (vwR H0) 17 (pCues (vwR H0) (BLr H0) (16 - hV H1 296 (hV H0 285 33).toNat).toNat (absR H1))).1 < 0 := by rw [y1]; exact hn0
    exact absurd (show hV H0 285 13 = 0 by have := f1.2.1.1; unfold Ab_226_20 at this; have := z.2.2.2.1; omega) cz)))
  rw [kp.1, v0, ah0, r296, r297, s33_, fx] at n
  obtain ⟨n1, n2, n3, n4⟩ := n
  refine ⟨n1, fun c => ?_, ?_, fun c => ?_, fun k hk => ((n3 k hk).2).trans (sz k hk)⟩
  · have u := n4 c
    rcases n2 with ⟨_, w⟩ | ⟨_, _, _, w⟩ | ⟨_, _, w16, _⟩
    · exact absurd c (faultR_of n1 (by rw [w]; exact pfailR_lt z (by decide)))
    · exact absurd c (faultR_of n1 (by rw [w]; exact pfailR_lt z (by decide)))
    · omega
  · rw [← y1]
    rcases n2 with ⟨w0, w⟩ | ⟨w1, w2, w16, w⟩ | ⟨w1, w2, w16, w⟩
    · rw [w, pCuesR_neg (pfailR_lt z (by decide)), ptk_neg (pfailR_lt z (by decide)) pfail_ok, cues_out (vwR_ok H0) (absR_ok z1) w0 b0]
    · rw [w, w16, show ((16 : Int) - 16).toNat = 0 from rfl, pCues_full ⟨w1, w2⟩, pCuesR_neg (pfailR_lt z (by decide))]
    · rw [show (16 - hV H1 296 (hV H0 285 33).toNat).toNat = (15 - hV H1 296 (hV H0 285 33).toNat).toNat + 1 by omega, pCues_step ⟨w1, w2⟩, ← w]
      by_cases c : hV H3 285 13 = 0
      · rw [(n4 c).1, show (16 - (hV H1 296 (hV H0 285 33).toNat + 1)).toNat = (15 - hV H1 296 (hV H0 285 33).toNat).toNat by omega]
      · rw [pCuesR_neg (absR_neg n1 c), pCuesR_neg (absR_neg n1 c)]
  · have u := n4 c
    rcases n2 with ⟨_, w⟩ | ⟨_, _, _, w⟩ | ⟨w1, w2, w16, w⟩
    · exact absurd c (faultR_of n1 (by rw [w]; exact pfailR_lt z (by decide)))
    · exact absurd c (faultR_of n1 (by rw [w]; exact pfailR_lt z (by decide)))
    · rw [u.1, u.2, w, ← yt, show (16 - hV H1 296 (hV H0 285 33).toNat).toNat = (16 - (hV H1 296 (hV H0 285 33).toNat + 1)).toNat + 1 by omega, pTot_step ⟨w1, w2⟩]
def g_226w_20_2 : vG := ([(1227, [1], [2, 3], 0), (30, [4], [], 0), (1216, [4, 1, 3], [1, 2], 0), (0, [3], [], 21), (30, [2], [], 0), (20, [2, 1], [1], 13), (5000, [0, 1], [0, 1], 20), (0, [1], [], 285)], (4000, [1], [3], 20))
theorem c_226w_20_2 {q0 : Nat} : vOkm T0 (eN e_226 L_226w A_226 mu_226 n_226 B_226 (some q0)) 1 g_226w_20_2 := vOk_inI fun ρ η f0 f1 f2 f3 f4 f5 f6 f7 => q_226w_3 (q0 := q0) (n0 := ρ 1) (n1 := ρ 0) (n2 := ρ 2) (n3 := ρ 3) (n4 := ρ 4) (H0 := η 0) (H1 := η 1) (H2 := η 2) (H3 := η 3) f7 f6 f5 f4 f3 f2 f1 f0
def p_226w_20 : List vG := [g_226w_20_0,
  g_226w_20_1,
  g_226w_20_2]
theorem r_226w_20 : vCovBO (eRc e_226 L_226 cs_226 2000 (20, [(0, (3, 12, 285, 0))])) p_226w_20 = true := by decide +kernel
theorem m_226w (d : Nat) : eC e_226w (d + 8) := eC_ref (e := e_226) (L := L_226) (L' := L_226w) (cs := cs_226) (n := 2000) (d := d + 7) (A := A_226) (μ := mu_226) (tp := false) (p0 := p_226_s) (p1 := p_226w_s) (N := n_226) (B := B_226) rfl ⟨m_216 (d + 6), ⟨m_220w (d + 4), ⟨m_227w d, trivial⟩⟩⟩ rfl (.inl rfl) (by decide +kernel) (fun z => nomatch z) r_226_s (allC c_226_s_0 allN) (allC (.inl ⟨p_226_20, r_226_20, fun q0 => (allC c_226_20_0 (allC c_226_20_1 (allC c_226_20_2 (allC c_226_20_3 allN))))⟩) allN) (sub0 (sub1 (sub1 trivial))) r_226w_s (allC c_226w_s_0 allN) (allC ⟨p_226w_20, r_226w_20, fun q0 => (allC c_226w_20_0 (allC c_226w_20_1 (allC c_226w_20_2 allN)))⟩ allN)
