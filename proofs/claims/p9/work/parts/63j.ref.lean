/- MixStageModel.tellBlock ()V, more fully -/
def nb_225 (a0 : Int) (h0 h : gH) : Prop := RI h0 → ZR h0 → (vwR h0).1 (absR h0).1 = 16 → RI h ∧ ((hV h0 294 ((hV h0 285 32).toNat) = 6 ∧ absR h = pfail (vwR h0) 2 (absR h0)) ∨ (¬ hV h0 294 ((hV h0 285 32).toNat) = 6 ∧ absR h = pBlock (vwR h0) (BLr h0) (absR h0))) ∧ (hV h 285 13 = 0 → hV h 294 ((hV h0 285 32).toNat) = hV h0 294 ((hV h0 285 32).toNat) + 1 ∧ BLr h = BLr h0 ++ [pBsz (vwR h0) (BLr h0) (absR h0)] ∧ ZR h)
def n_225 : List Int → gH → gH → Prop := fun xs h0 h => match xs with
  | [a0] => nb_225 a0 h0 h
  | _ => True
noncomputable def e_225w : vE := eV e_225 n_225
noncomputable def L_225w : List vE := [e_217w, e_218w, e_219w, e_220w, e_226w]
def Bb_225_43 (a0 x0 x1 x2 : Int) (h0 h : gH) : Prop := RI h0 → ZR h0 → (vwR h0).1 (absR h0).1 = 16 → RI h ∧ hV h 285 13 = 0 ∧ ¬ hV h0 294 ((hV h0 285 32).toNat) = 6 ∧ (hV h 294) = (hV h0 294) ∧ (hV h 295) = (hV h0 295) ∧ (hV h 297) = (hV h0 297) ∧ x1 = (ptk (vwR h0) 16 (absR h0)).1 ∧ 0 ≤ x1 ∧ x1 < hV h 285 11 ∧ hV h 288 ((x1).toNat) = 1 ∧ (absR h).1 = pt1 (vwR h0) 2 (ptk (vwR h0) 16 (absR h0)).1 ∧ W3 (ptk (vwR h0) 16 (absR h0)).2 x1 (MBk h0 ((vwR h0).2.2.1 (ptk (vwR h0) 16 (absR h0)).1) x2) h ∧ 0 ≤ x2 ∧ x2 ≤ hV h0 294 ((hV h0 285 32).toNat)
def B_225 : Int → List Int → gH → gH → Prop := fun c xs h0 h => match c.toNat with
  | 43 => (match xs with
    | [a0, x0, x1, x2] => Bb_225_43 a0 x0 x1 x2 h0 h
    | _ => False)
  | _ => True
theorem q_225w_0 {n0 n1 n2 n3 n4 n5 n6 n7 n8 : Int} {H0 H1 H2 : gH} (f0 : n0 = 285) (f1 : n1 = 294) (f2 : n2 = hV H0 (n0).toNat 32) (f3 : n3 ≤ 6) (f4 : 0 ≤ n3) (f5 : n3 = hV H0 (n1).toNat (n2).toNat) (f6 : n4 = 6) (f7 : n3 ≠ n4) (f8 : (hLe T0 H0 H1 ∧ hFr s_219.2.2.2.2 H0 H1 ∧ ((0 : Int) = 0 → H1.length = H0.length) ∧ hWt T0 H1) ∧ (postb_219 n0 H0 H1 ∧ nb_219 n0 H0 H1)) (f9 : n5 = hV H1 (n0).toNat 11) (f10 : n6 = 1) (f11 : (hLe T0 H1 H2 ∧ hFr s_220.2.2.2.2 H1 H2 ∧ ((0 : Int) = 0 → H2.length = H1.length) ∧ hWt T0 H2) ∧ (postb_220 n0 n6 H1 H2 ∧ nb_220 n0 n6 H1 H2)) (f12 : n7 = hV H2 (n0).toNat 13) (f13 : n7 ≤ 0) (f14 : n8 = 0) : Bb_225_43 n0 n0 n5 n8 H0 H2 := by
  unfold Bb_225_43
  intro z zr kd
  have d8 := rdS (q := 285) f2 f0
  have d11 := rdW (q := 294) f5 f1
  have d18 := rdS (q := 285) f9 f0
  have d24 := rdS (q := 285) f12 f0
  have q13 := f7
  have qc12 := f6
  have q25 := f13
  rw [d8] at d11
  have rg9 := f3
  have rg10 := f4
  have c0 := f8.2.2 z (by rw [kd]; decide)
  rw [kd] at c0
  have v0 : vwR H1 = vwR H0 := (vwR_fr f8.1.2.1 (by decide +kernel))
  have c1 := f11.2.2 c0.1 (by rw [f10]; decide)
  try rw [f10] at c1
  rw [v0, c0.2, kmc_1] at c1
  have v1 : vwR H2 = vwR H0 := (vwR_fr f11.1.2.1 (by decide +kernel)).trans v0
  have r294 : hV H2 294 = hV H0 294 := (fRow f11.1.2.1 294 (by decide +kernel)).trans (fRow f8.1.2.1 294 (by decide +kernel))
  have r295 : hV H2 295 = hV H0 295 := (fRow f11.1.2.1 295 (by decide +kernel)).trans (fRow f8.1.2.1 295 (by decide +kernel))
  have r297 : hV H2 297 = hV H0 297 := (fRow f11.1.2.1 297 (by decide +kernel)).trans (fRow f8.1.2.1 297 (by decide +kernel))
  have f7 : hV H2 285 13 = 0 := by have := c1.1.2.2.2.1; omega
  have hpe := absR_pos c1.1 f7
  have hq := hpe.2
  rw [c1.2] at hq
  have fn := faultR_no c0.1 (by rw [c0.2]; exact (pb_tk z hq).1)
  have pn := absR_pos c0.1 fn
  have kk := (pt1R_kind z hq).2
  have kn := kindR_at c0.1 fn
  rw [v0, c0.2] at kn
  have k1 := km_inj ((kn.symm.trans kk).trans kmc_1.symm)
  have tr := (TRs_fr f11.1.2.1 (by decide +kernel))
  have tn := ptkR_next z hq
  have xc := f14
  have te := hpe.1
  rw [c1.2] at te
  have te2 : (ptk (vwR H0) 2 (ptk (vwR H0) 16 (absR H0))).1 = (ptk (vwR H0) 16 (absR H0)).1 + 1 := tn
  have pn1 := pn.1
  rw [c0.2] at pn1
  have w15 : hV H2 285 15 = hV H1 285 15 := f11.1.2.1.1 285 15 (by decide +kernel)
  have w16 : hV H2 285 16 = hV H1 285 16 := f11.1.2.1.1 285 16 (by decide +kernel)
  have e2 : (absR H2).2 = (ptk (vwR H0) 16 (absR H0)).2 := by rw [c1.2]; exact ptk_w hq
  have e3 := absR_2 f7
  have x16 := c1.1.2.2.2.2.2.2.2.2.1
  have x15 := c1.1.2.2.2.2.2.2.1
  refine ⟨c1.1, f7, by omega, r294, r295, r297, ?_, ?_, ?_, ?_, ?_, ?_, by omega, by omega⟩
  · rw [pn1]
    exact d18
  · rw [d18]
    exact c0.1.2.1
  · rw [d18]
    omega
  · rw [tr.2.1, d18]
    exact k1
  · rw [c1.2]
    rfl
  · refine ⟨fun c => ?_, fun c => ⟨fun mm => ?_, fun _ => ?_⟩⟩
    · have c15 : ¬ hV H2 285 15 = 0 := fun e => by
        rw [if_pos e] at e3
        exact c (e2.symm.trans e3)
      refine ⟨c15, ?_, e2⟩
      rw [w16, tr.2.2.1, d18]
      exact c0.1.2.2.2.2.2.2.2.2.2.2 fn (by rw [← w15]; exact c15)
    · obtain ⟨j, a, b⟩ := mm
      omega
    · by_cases e : hV H2 285 15 = 0
      · exact e
      · rw [if_neg e, e2, c] at e3
        omega
def g_225w_s_0 : vG := ([(0, [8], [], 0), (35, [7], [], 0), (20, [7, 0], [2], 13), (1220, [0, 6], [1, 2], 0), (0, [6], [], 1), (20, [5, 0], [1], 11), (1219, [0], [0, 1], 0), (41, [3, 4], [], 0), (0, [4], [], 6), (22, [3, 1, 2], [0], 0), (90, [3], [], 0), (91, [3], [], 6), (20, [2, 0], [0], 32), (0, [1], [], 294), (0, [0], [], 285)], (4000, [0, 5, 8], [2], 43))
theorem c_225w_s_0 : vOkm T0 (eN e_225 L_225w A_225 mu_225 n_225 B_225 none) 1 g_225w_s_0 := vOk_inI fun ρ η f0 f1 f2 f3 f4 f5 f6 f7 f8 f9 f10 f11 f12 f13 f14 => q_225w_0 (n0 := ρ 0) (n1 := ρ 1) (n2 := ρ 2) (n3 := ρ 3) (n4 := ρ 4) (n5 := ρ 5) (n6 := ρ 6) (n7 := ρ 7) (n8 := ρ 8) (H0 := η 0) (H1 := η 1) (H2 := η 2) f14 f13 f12 f11 f10 f9 f8 f7 f6 f5 f4 f3 f2 f1 f0
theorem q_225w_1 {n0 n1 n2 n3 n4 n5 n6 n7 : Int} {H0 H1 H2 : gH} (f0 : n0 = 285) (f1 : n1 = 294) (f2 : n2 = hV H0 (n0).toNat 32) (f3 : n3 ≤ 6) (f4 : 0 ≤ n3) (f5 : n3 = hV H0 (n1).toNat (n2).toNat) (f6 : n4 = 6) (f7 : n3 ≠ n4) (f8 : (hLe T0 H0 H1 ∧ hFr s_219.2.2.2.2 H0 H1 ∧ ((0 : Int) = 0 → H1.length = H0.length) ∧ hWt T0 H1) ∧ (postb_219 n0 H0 H1 ∧ nb_219 n0 H0 H1)) (f9 : n5 = hV H1 (n0).toNat 11) (f10 : n6 = 1) (f11 : (hLe T0 H1 H2 ∧ hFr s_220.2.2.2.2 H1 H2 ∧ ((0 : Int) = 0 → H2.length = H1.length) ∧ hWt T0 H2) ∧ (postb_220 n0 n6 H1 H2 ∧ nb_220 n0 n6 H1 H2)) (f12 : n7 = hV H2 (n0).toNat 13) (f13 : 0 < n7) : nb_225 n0 H0 H2 := by
  unfold nb_225
  intro z zr kd
  have d8 := rdS (q := 285) f2 f0
  have d11 := rdW (q := 294) f5 f1
  have d18 := rdS (q := 285) f9 f0
  have d24 := rdS (q := 285) f12 f0
  have q13 := f7
  have qc12 := f6
  have q25 := f13
  rw [d8] at d11
  have rg9 := f3
  have rg10 := f4
  have c0 := f8.2.2 z (by rw [kd]; decide)
  rw [kd] at c0
  have v0 : vwR H1 = vwR H0 := (vwR_fr f8.1.2.1 (by decide +kernel))
  have c1 := f11.2.2 c0.1 (by rw [f10]; decide)
  try rw [f10] at c1
  rw [v0, c0.2, kmc_1] at c1
  have v1 : vwR H2 = vwR H0 := (vwR_fr f11.1.2.1 (by decide +kernel)).trans v0
  have hz : ¬ hV H2 285 13 = 0 := by omega
  have hn := absR_neg c1.1 hz
  have hn2 := hn
  rw [c1.2] at hn2
  refine ⟨c1.1, .inr ⟨by omega, ?_⟩, fun c => absurd c hz⟩
  rw [c1.2]
  unfold pBlock
  have e : pNm2 (vwR H0) (BLr H0) (ptk (vwR H0) 16 (absR H0)) = ptk (vwR H0) 2 (ptk (vwR H0) 16 (absR H0)) := by
    unfold pNm2 ptk pgz
    have hn3 : pt1 (vwR H0) 2 (ptk (vwR H0) 16 (absR H0)).1 < 0 := hn2
    unfold ptk pgz at hn3
    rw [if_pos hn3, if_pos hn3]
  rw [e, pCuesR_neg hn2, ptk_neg hn2 ptk_ok]
def g_225w_s_1 : vG := ([(34, [7], [], 0), (20, [7, 0], [2], 13), (1220, [0, 6], [1, 2], 0), (0, [6], [], 1), (20, [5, 0], [1], 11), (1219, [0], [0, 1], 0), (41, [3, 4], [], 0), (0, [4], [], 6), (22, [3, 1, 2], [0], 0), (90, [3], [], 0), (91, [3], [], 6), (20, [2, 0], [0], 32), (0, [1], [], 294), (0, [0], [], 285)], (3000, [], [2], 40))
theorem c_225w_s_1 : vOkm T0 (eN e_225 L_225w A_225 mu_225 n_225 B_225 none) 1 g_225w_s_1 := vOk_inI fun ρ η f0 f1 f2 f3 f4 f5 f6 f7 f8 f9 f10 f11 f12 f13 => q_225w_1 (n0 := ρ 0) (n1 := ρ 1) (n2 := ρ 2) (n3 := ρ 3) (n4 := ρ 4) (n5 := ρ 5) (n6 := ρ 6) (n7 := ρ 7) (H0 := η 0) (H1 := η 1) (H2 := η 2) f13 f12 f11 f10 f9 f8 f7 f6 f5 f4 f3 f2 f1 f0
theorem q_225w_2 {n0 n1 n2 n3 n4 n5 n6 n7 n8 n9 : Int} {H0 H1 H2 H3 : gH} (f0 : n0 = 285) (f1 : n1 = 294) (f2 : n2 = hV H0 (n0).toNat 32) (f3 : n3 ≤ 6) (f4 : 0 ≤ n3) (f5 : n3 = hV H0 (n1).toNat (n2).toNat) (f6 : n4 = 6) (f7 : n3 = n4) (f8 : n5 = 2) (f9 : (hLe T0 H0 H1 ∧ hFr s_217.2.2.2.2 H0 H1 ∧ ((0 : Int) = 0 → H1.length = H0.length) ∧ hWt T0 H1) ∧ (postb_217 n0 n5 H0 H1 ∧ nb_217 n0 n5 H0 H1)) (f10 : (hLe T0 H1 H2 ∧ hFr s_219.2.2.2.2 H1 H2 ∧ ((0 : Int) = 0 → H2.length = H1.length) ∧ hWt T0 H2) ∧ (postb_219 n0 H1 H2 ∧ nb_219 n0 H1 H2)) (f11 : n6 = hV H2 (n0).toNat 11) (f12 : n7 = 1) (f13 : (hLe T0 H2 H3 ∧ hFr s_220.2.2.2.2 H2 H3 ∧ ((0 : Int) = 0 → H3.length = H2.length) ∧ hWt T0 H3) ∧ (postb_220 n0 n7 H2 H3 ∧ nb_220 n0 n7 H2 H3)) (f14 : n8 = hV H3 (n0).toNat 13) (f15 : n8 ≤ 0) : Bb_225_43 n0 n0 n6 n9 H0 H3 := by
  unfold Bb_225_43
  intro z zr kd
  have d8 := rdS (q := 285) f2 f0
  have d11 := rdW (q := 294) f5 f1
  have d20 := rdS (q := 285) f11 f0
  have d26 := rdS (q := 285) f14 f0
  have q13 := f7
  have qc12 := f6
  have q27 := f15
  rw [d8] at d11
  have rg9 := f3
  have rg10 := f4
  have c0 := f9.2.2 z
  rw [f8] at c0
  have hn := pfailR_lt z (f := 2) (p := absR H0) (by decide)
  have hn0 := hn
  rw [← c0.2] at hn0
  have c1 := f10.2.2 c0.1 (by rw [vwR_ok _ _ hn0]; decide)
  rw [ptk_neg hn0 (absR_ok c0.1), c0.2] at c1
  have c2 := f13.2.2 c1.1 (by rw [f12]; decide)
  rw [c1.2, ptk_neg hn pfail_ok] at c2
  have hz := faultR_of c2.1 (by rw [c2.2]; exact hn)
  have lo := c2.1.2.2.2.1
  exfalso
  omega
def g_225w_s_2 : vG := ([(35, [8], [], 0), (20, [8, 0], [3], 13), (1220, [0, 7], [2, 3], 0), (0, [7], [], 1), (20, [6, 0], [2], 11), (1219, [0], [1, 2], 0), (1217, [0, 5], [0, 1], 0), (0, [5], [], 2), (40, [3, 4], [], 0), (0, [4], [], 6), (22, [3, 1, 2], [0], 0), (90, [3], [], 0), (91, [3], [], 6), (20, [2, 0], [0], 32), (0, [1], [], 294), (0, [0], [], 285)], (4000, [0, 6, 9], [3], 43))
theorem c_225w_s_2 : vOkm T0 (eN e_225 L_225w A_225 mu_225 n_225 B_225 none) 1 g_225w_s_2 := vOk_inI fun ρ η f0 f1 f2 f3 f4 f5 f6 f7 f8 f9 f10 f11 f12 f13 f14 f15 => q_225w_2 (n0 := ρ 0) (n1 := ρ 1) (n2 := ρ 2) (n3 := ρ 3) (n4 := ρ 4) (n5 := ρ 5) (n6 := ρ 6) (n7 := ρ 7) (n8 := ρ 8) (n9 := ρ 9) (H0 := η 0) (H1 := η 1) (H2 := η 2) (H3 := η 3) f15 f14 f13 f12 f11 f10 f9 f8 f7 f6 f5 f4 f3 f2 f1 f0
theorem q_225w_3 {n0 n1 n2 n3 n4 n5 n6 n7 n8 : Int} {H0 H1 H2 H3 : gH} (f0 : n0 = 285) (f1 : n1 = 294) (f2 : n2 = hV H0 (n0).toNat 32) (f3 : n3 ≤ 6) (f4 : 0 ≤ n3) (f5 : n3 = hV H0 (n1).toNat (n2).toNat) (f6 : n4 = 6) (f7 : n3 = n4) (f8 : n5 = 2) (f9 : (hLe T0 H0 H1 ∧ hFr s_217.2.2.2.2 H0 H1 ∧ ((0 : Int) = 0 → H1.length = H0.length) ∧ hWt T0 H1) ∧ (postb_217 n0 n5 H0 H1 ∧ nb_217 n0 n5 H0 H1)) (f10 : (hLe T0 H1 H2 ∧ hFr s_219.2.2.2.2 H1 H2 ∧ ((0 : Int) = 0 → H2.length = H1.length) ∧ hWt T0 H2) ∧ (postb_219 n0 H1 H2 ∧ nb_219 n0 H1 H2)) (f11 : n6 = hV H2 (n0).toNat 11) (f12 : n7 = 1) (f13 : (hLe T0 H2 H3 ∧ hFr s_220.2.2.2.2 H2 H3 ∧ ((0 : Int) = 0 → H3.length = H2.length) ∧ hWt T0 H3) ∧ (postb_220 n0 n7 H2 H3 ∧ nb_220 n0 n7 H2 H3)) (f14 : n8 = hV H3 (n0).toNat 13) (f15 : 0 < n8) : nb_225 n0 H0 H3 := by
  unfold nb_225
  intro z zr kd
  have d8 := rdS (q := 285) f2 f0
  have d11 := rdW (q := 294) f5 f1
  have d20 := rdS (q := 285) f11 f0
  have d26 := rdS (q := 285) f14 f0
  have q13 := f7
  have qc12 := f6
  have q27 := f15
  rw [d8] at d11
  have rg9 := f3
  have rg10 := f4
  have c0 := f9.2.2 z
  rw [f8] at c0
  have hn := pfailR_lt z (f := 2) (p := absR H0) (by decide)
  have hn0 := hn
  rw [← c0.2] at hn0
  have c1 := f10.2.2 c0.1 (by rw [vwR_ok _ _ hn0]; decide)
  rw [ptk_neg hn0 (absR_ok c0.1), c0.2] at c1
  have c2 := f13.2.2 c1.1 (by rw [f12]; decide)
  rw [c1.2, ptk_neg hn pfail_ok] at c2
  have hz := faultR_of c2.1 (by rw [c2.2]; exact hn)
  have lo := c2.1.2.2.2.1
  exact ⟨c2.1, .inl ⟨by omega, c2.2⟩, fun c => absurd c hz⟩
def g_225w_s_3 : vG := ([(34, [8], [], 0), (20, [8, 0], [3], 13), (1220, [0, 7], [2, 3], 0), (0, [7], [], 1), (20, [6, 0], [2], 11), (1219, [0], [1, 2], 0), (1217, [0, 5], [0, 1], 0), (0, [5], [], 2), (40, [3, 4], [], 0), (0, [4], [], 6), (22, [3, 1, 2], [0], 0), (90, [3], [], 0), (91, [3], [], 6), (20, [2, 0], [0], 32), (0, [1], [], 294), (0, [0], [], 285)], (3000, [], [3], 40))
theorem c_225w_s_3 : vOkm T0 (eN e_225 L_225w A_225 mu_225 n_225 B_225 none) 1 g_225w_s_3 := vOk_inI fun ρ η f0 f1 f2 f3 f4 f5 f6 f7 f8 f9 f10 f11 f12 f13 f14 f15 => q_225w_3 (n0 := ρ 0) (n1 := ρ 1) (n2 := ρ 2) (n3 := ρ 3) (n4 := ρ 4) (n5 := ρ 5) (n6 := ρ 6) (n7 := ρ 7) (n8 := ρ 8) (H0 := η 0) (H1 := η 1) (H2 := η 2) (H3 := η 3) f15 f14 f13 f12 f11 f10 f9 f8 f7 f6 f5 f4 f3 f2 f1 f0
def p_225w_s : List vG := [g_225w_s_0,
  g_225w_s_1,
  g_225w_s_2,
  g_225w_s_3]
theorem r_225w_s : vCovBO (eR0 e_225 L_225 cs_225 2000) p_225w_s = true := by decide +kernel
theorem q_225w_4 {q0 : Nat} {n0 n1 n2 n3 n4 n5 n6 n7 n8 n9 n10 n11 n12 n13 n14 n15 n16 n17 n18 n19 n20 n21 n22 n23 n24 n25 n26 n27 n28 n29 : Int} {H0 H1 H2 H3 H4 H5 : gH} (f0 : n0 ≤ 6) (f1 : 0 ≤ n0) (f2 : n1 ≤ 500) (f3 : 0 ≤ n1) (f4 : n2 = 285) (f5 : (hLe T0 H0 H1 ∧ hFr s_225.2.2.2.2 H0 H1 ∧ hWt T0 H1) ∧ ((Ab_225_43 n3 n2 n1 n0 H0 H1 ∧ Bb_225_43 n3 n2 n1 n0 H0 H1) ∧ preb_225 n3 H0) ∧ some q0 = some (mub_225_43 n3 n2 n1 n0 H0 H1)) (f6 : n4 = 294) (f7 : n5 ≤ 7) (f8 : 0 ≤ n5) (f9 : n5 = hV H1 (n2).toNat 32) (f10 : n6 ≤ 6) (f11 : 0 ≤ n6) (f12 : n6 = hV H1 (n4).toNat (n5).toNat) (f13 : n6 ≤ n0) (f14 : n7 = 295) (f15 : n8 = 6) (f16 : n9 ≤ 7) (f17 : 0 ≤ n9) (f18 : n9 = hV H1 (n2).toNat 32) (f19 : n10 = w32 (n8 * n9)) (f20 : n11 = 294) (f21 : n12 ≤ 7) (f22 : 0 ≤ n12) (f23 : n12 = hV H1 (n2).toNat 32) (f24 : n13 ≤ 6) (f25 : 0 ≤ n13) (f26 : n13 = hV H1 (n11).toNat (n12).toNat) (f27 : n14 = w32 (n10 + n13)) (f28 : n15 = 291) (f29 : n16 = hV H1 (n15).toNat (n1).toNat) (f30 : hUpd H2 H1 n7 n14 n16) (f31 : n17 = 7) (f32 : n18 ≤ 7) (f33 : 0 ≤ n18) (f34 : n18 = hV H2 (n2).toNat 32) (f35 : n19 = w32 (n17 * n18)) (f36 : n20 = 294) (f37 : n21 ≤ 7) (f38 : 0 ≤ n21) (f39 : n21 = hV H2 (n2).toNat 32) (f40 : n22 ≤ 6) (f41 : 0 ≤ n22) (f42 : n22 = hV H2 (n20).toNat (n21).toNat) (f43 : n23 = w32 (n19 + n22)) (f44 : n24 = 33) (f45 : hUpd H3 H2 n2 n24 n23) (f46 : (hLe T0 H3 H4 ∧ hFr s_226.2.2.2.2 H3 H4 ∧ ((0 : Int) = 0 → H4.length = H3.length) ∧ hWt T0 H4) ∧ (postb_226 n2 H3 H4 ∧ nb_226 n2 H3 H4)) (f47 : n25 = 294) (f48 : n26 ≤ 7) (f49 : 0 ≤ n26) (f50 : n26 = hV H4 (n2).toNat 32) (f51 : n27 ≤ 6) (f52 : 0 ≤ n27) (f53 : n27 = hV H4 (n25).toNat (n26).toNat) (f54 : n28 = 1) (f55 : n29 = w32 (n27 + n28)) (f56 : hUpd H5 H4 n25 n26 n29) : nb_225 n3 H0 H5 := by
  unfold nb_225
  intro z zr kd
  have ga := f5.2.1.1.2
  unfold Bb_225_43 at ga
  obtain ⟨z1, fz, h6, r294, r295, r297, t1, t0, tl, k1, ea, w3, k20, k26⟩ := ga z zr kd
  have vz : vwR H1 = vwR H0 := vwR_fr f5.1.2.1 (by decide +kernel)
  have d13 := rdS (q := 285) f9 f4
  have d16 := rdW (q := 294) f12 f6
  have d25 := rdS (q := 285) f18 f4
  have d33 := rdS (q := 285) f23 f4
  have d36 := rdW (q := 294) f26 f20
  have d41 := rdW (q := 291) f29 f28
  have d48 := rdS (q := 285) f34 f4
  have d56 := rdS (q := 285) f39 f4
  have d59 := rdW (q := 294) f42 f36
  have d71 := rdS (q := 285) f50 f4
  have d74 := rdW (q := 294) f53 f47
  have q17 := f13
  have f32_ : hV H1 285 32 = hV H0 285 32 := f5.1.2.1.1 285 32 (by decide +kernel)
  have rg0 := f0
  have rg1 := f1
  have rg2 := f2
  have rg3 := f3
  have rg10 := f7
  have rg11 := f8
  have rg14 := f10
  have rg15 := f11
  have rg22 := f16
  have rg23 := f17
  have rg30 := f21
  have rg31 := f22
  have rg34 := f24
  have rg35 := f25
  have rg45 := f32
  have rg46 := f33
  have rg53 := f37
  have rg54 := f38
  have rg57 := f40
  have rg58 := f41
  have rg68 := f48
  have rg69 := f49
  have rg72 := f51
  have rg73 := f52
  have nz : hV H1 291 (n1).toNat = (vwR H0).2.2.1 (ptk (vwR H0) 16 (absR H0)).1 := by
    rw [← t1, ← vz]
    show _ = if kR H1 n1 = 1 then _ else _
    have ok : okR H1 n1 := ⟨t0, by have := z1.2.2.1; omega, by have := z1.2.2.2.2.2.2.2.2.2.1 fz; omega⟩
    unfold kR
    rw [if_pos ok, if_pos k1]
  have nb := (z1.1.2.2.2 (n1).toNat (by have := z1.2.2.2.2.2.2.2.2.2.1 fz; omega)).2.2.2 k1
  have p0 := PR_row (q := 295) f30 f14 (by decide) z1
  have v0 : vwR H2 = vwR H0 := p0.2.1.trans vz
  have ah0 : absR H2 = (absR H1) := p0.1
  have p1 := PR_slot (s := 33) f45 f4 f44 (by decide) p0.2.2.1
  have v1 : vwR H3 = vwR H0 := p1.2.1.trans v0
  have ah1 : absR H3 = (absR H1) := p1.1.trans ah0
  have e32_0 : n5 = hV H0 285 32 := by rw [d13, show hV H1 285 32 = hV H1 285 32 from rfl, f32_]
  have e32_1 : n9 = hV H0 285 32 := by rw [d25, show hV H1 285 32 = hV H1 285 32 from rfl, f32_]
  have e32_2 : n12 = hV H0 285 32 := by rw [d33, show hV H1 285 32 = hV H1 285 32 from rfl, f32_]
  have e32_3 : n18 = hV H0 285 32 := by rw [d48, show hV H2 285 32 = hV H1 285 32 from uPlace f30 285 32 (by rw [f14]; decide), f32_]
  have e32_4 : n21 = hV H0 285 32 := by rw [d56, show hV H2 285 32 = hV H1 285 32 from uPlace f30 285 32 (by rw [f14]; decide), f32_]
  have e32_5 : n26 = hV H0 285 32 := by rw [d71, show hV H4 285 32 = hV H1 285 32 from (f46.1.2.1.1 285 32 (by decide +kernel)).trans ((uSlot f45 285 32 (by rw [f44]; decide)).trans (uPlace f30 285 32 (by rw [f14]; decide))), f32_]
  have eb_0 : n6 = hV H0 294 (hV H0 285 32).toNat := by rw [d16, show hV H1 294 = hV H1 294 from rfl, r294, e32_0]
  have eb_1 : n13 = hV H0 294 (hV H0 285 32).toNat := by rw [d36, show hV H1 294 = hV H1 294 from rfl, r294, e32_2]
  have eb_2 : n22 = hV H0 294 (hV H0 285 32).toNat := by rw [d59, show hV H2 294 = hV H1 294 from uRowNe f30 294 (by rw [f14]; decide), r294, e32_4]
  have eb_3 : n27 = hV H0 294 (hV H0 285 32).toNat := by rw [d74, show hV H4 294 = hV H1 294 from (fRow f46.1.2.1 294 (by decide +kernel)).trans ((uRowNe f45 294 (by rw [f4]; decide)).trans (uRowNe f30 294 (by rw [f14]; decide))), r294, e32_5]
  have bnd : 0 ≤ hV H0 294 (hV H0 285 32).toNat ∧ hV H0 294 (hV H0 285 32).toNat ≤ 6 := by omega
  have s26 : n10 = 6 * n9 := by
    have q := f19
    rw [f15] at q
    rw [q]
    exact w32_id (by omega) (by omega)
  have s37 : n14 = n10 + n13 := by
    have q := f27
    rw [q]
    exact w32_id (by omega) (by omega)
  have s49 : n19 = 7 * n18 := by
    have q := f35
    rw [f31] at q
    rw [q]
    exact w32_id (by omega) (by omega)
  have s60 : n23 = n19 + n22 := by
    have q := f43
    rw [q]
    exact w32_id (by omega) (by omega)
  have s76 : n29 = n27 + 1 := by
    have q := f55
    rw [f54] at q
    rw [q]
    exact w32_id (by omega) (by omega)
  have u1 : hV H2 295 = uF (hV H1 295) n14 n16 := uRow f30 295 f14.symm
  have e33 : hV H3 285 33 = n23 := uSame f45 285 33 (by rw [f4]; rfl) (by rw [f44]; rfl)
  have v295 : hV H3 295 = hV H2 295 := uRowNe f45 295 (by rw [f4]; decide)
  have v294 : hV H3 294 = hV H1 294 := (uRowNe f45 294 (by rw [f4]; decide)).trans (uRowNe f30 294 (by rw [f14]; decide))
  have v297 : hV H3 297 = hV H1 297 := (uRowNe f45 297 (by rw [f4]; decide)).trans (uRowNe f30 297 (by rw [f14]; decide))
  have v32 : hV H3 285 32 = hV H0 285 32 := ((uSlot f45 285 32 (by rw [f44]; decide)).trans (uPlace f30 285 32 (by rw [f14]; decide))).trans f32_
  rw [r295] at u1
  have ixe : n14 = 6 * hV H0 285 32 + hV H0 294 (hV H0 285 32).toNat := by omega
  have pte : hV H3 285 33 = 7 * hV H0 285 32 + hV H0 294 (hV H0 285 32).toNat := by rw [e33]; omega
  have k295 : ∀ k : Nat, (k : Int) < hV H0 294 (hV H0 285 32).toNat → hV H3 295 ((6 * hV H0 285 32).toNat + k) = hV H0 295 ((6 * hV H0 285 32).toNat + k) := fun k hk => by rw [v295, u1, uF_at, if_neg (by omega)]
  have blb : BLr H3 = BLr H0 := by
    unfold BLr
    rw [v32, v294, r294]
    refine BLg_congr (fun k _ hk => ⟨k295 k (by omega), by rw [v297, r297]⟩)
  have zb : ZR H3 := fun k hk => by
    rw [v32, v294, r294] at hk
    rw [v32, k295 k hk, v297, r297]
    exact zr k hk
  have n := f46.2.2 p1.2.2.1 (fun _ => zb)
  rw [blb, v1, ah1] at n
  obtain ⟨y1, y2, y3, y4⟩ := n
  have pl : (vwR H0).2.2.2 (ptk (vwR H0) 16 (absR H0)).1 = hV H1 289 (n1).toNat := by
    rw [← t1, ← vz]
    show lR H1 n1 = _
    unfold lR
    exact if_pos ⟨t0, by have := z1.2.2.1; omega, by have := z1.2.2.2.2.2.2.2.2.2.1 fz; omega⟩
  have pa := absR_pos z1 fz
  have pe : absR H1 = pNm2 (vwR H0) (BLr H0) (ptk (vwR H0) 16 (absR H0)) := by
    classical
    have w := W3_end fz w3
    have mm := MBk_all zr (nm := (vwR H0).2.2.1 (ptk (vwR H0) 16 (absR H0)).1)
    refine Prod.ext ea (w.trans ?_)
    have hq : ¬ pt1 (vwR H0) 2 (ptk (vwR H0) 16 (absR H0)).1 < 0 := by rw [← ea]; omega
    show _ = if pt1 (vwR H0) 2 (ptk (vwR H0) 16 (absR H0)).1 < 0 then 0 else if (ptk (vwR H0) 16 (absR H0)).2 = 0 ∧ ¬ pfd (BLr H0) ((vwR H0).2.2.1 (ptk (vwR H0) 16 (absR H0)).1) = -1 then 8 * (vwR H0).2.2.2 (ptk (vwR H0) 16 (absR H0)).1 + 3 else (ptk (vwR H0) 16 (absR H0)).2
    rw [if_neg hq, pl, show n0 = hV H0 294 (hV H0 285 32).toNat by omega]
    simp only [mm]
  have pq := PR_row (q := 294) f56 f47 (by decide) y1
  have u3 : hV H5 294 = uF (hV H4 294) n26 n29 := uRow f56 294 f47.symm
  have q294 : hV H4 294 = hV H0 294 := by rw [show hV H4 294 = hV H3 294 from fRow f46.1.2.1 294 (by decide +kernel), v294, r294]
  rw [q294] at u3
  have q295 : hV H5 295 = hV H3 295 := (uRowNe f56 295 (by rw [f47]; decide)).trans (fRow f46.1.2.1 295 (by decide +kernel))
  have q297 : hV H5 297 = hV H4 297 := uRowNe f56 297 (by rw [f47]; decide)
  have q32 : hV H5 285 32 = hV H0 285 32 := (uPlace f56 285 32 (by rw [f47]; decide)).trans ((f46.1.2.1.1 285 32 (by decide +kernel)).trans v32)
  have nb3 : hV H5 294 (hV H0 285 32).toNat = hV H0 294 (hV H0 285 32).toNat + 1 := by rw [u3, uF_at, if_pos (by omega)]; omega
  rw [pe] at y2 y4
  refine ⟨pq.2.2.1, .inr ⟨h6, pq.1.trans y2⟩, fun c => ?_⟩
  have c1 : hV H4 285 13 = 0 := by rw [← pq.2.2.2.2.1]; exact c
  have sz := y4 c1
  rw [pte] at sz y3
  have nmn : hV H5 295 ((6 * hV H0 285 32).toNat + (hV H0 294 (hV H0 285 32).toNat).toNat) = (vwR H0).2.2.1 (ptk (vwR H0) 16 (absR H0)).1 := by
    rw [q295, v295, u1, uF_at, if_pos (by omega), ← nz]
    exact d41
  have szn : hV H5 297 ((7 * hV H0 285 32).toNat + (hV H0 294 (hV H0 285 32).toNat).toNat) = pTot (vwR H0) (BLr H0) 16 (pNm2 (vwR H0) (BLr H0) (ptk (vwR H0) 16 (absR H0))) 0 := by
    rw [q297, ← sz]
    congr 1
    omega
  refine ⟨nb3, ?_, fun k hk => ?_⟩
  · unfold BLr
    rw [q32, nb3, show (hV H0 294 (hV H0 285 32).toNat + 1).toNat = (hV H0 294 (hV H0 285 32).toNat).toNat + 1 by omega, BLg_add, Nat.zero_add]
    congr 1
    · refine BLg_congr (fun k _ hk => ⟨by rw [q295]; exact k295 k (by omega), ?_⟩)
      rw [q297, y3 _ (by omega), v297, r297]
    · unfold pBsz
      rw [nmn, szn]
      rfl
  · rw [q32, nb3] at hk
    rw [q32]
    by_cases ck : (k : Int) = hV H0 294 (hV H0 285 32).toNat
    · rw [show k = (hV H0 294 (hV H0 285 32).toNat).toNat by omega, nmn, szn]
      exact ⟨by rw [← nz]; exact nb, pTot_nn (ZR_nn zr) (by decide)⟩
    · rw [q295, k295 k (by omega), q297, y3 _ (by omega), v297, r297]
      exact zr k (by omega)
def g_225w_43_0 : vG := ([(80, [25, 26, 29], [5, 4], 0), (1, [29, 27, 28], [], 0), (0, [28], [], 1), (22, [27, 25, 26], [4], 0), (90, [27], [], 0), (91, [27], [], 6), (20, [26, 1], [4], 32), (90, [26], [], 0), (91, [26], [], 7), (0, [25], [], 294), (1226, [1], [3, 4], 0), (80, [1, 24, 23], [3, 2], 0), (0, [24], [], 33), (1, [23, 19, 22], [], 0), (22, [22, 20, 21], [2], 0), (90, [22], [], 0), (91, [22], [], 6), (20, [21, 1], [2], 32), (90, [21], [], 0), (91, [21], [], 7), (0, [20], [], 294), (3, [19, 17, 18], [], 0), (20, [18, 1], [2], 32), (90, [18], [], 0), (91, [18], [], 7), (0, [17], [], 7), (80, [7, 14, 16], [2, 1], 1), (22, [16, 15, 2], [1], 0), (0, [15], [], 291), (1, [14, 10, 13], [], 0), (22, [13, 11, 12], [1], 0), (90, [13], [], 0), (91, [13], [], 6), (20, [12, 1], [1], 32), (90, [12], [], 0), (91, [12], [], 7), (0, [11], [], 294), (3, [10, 8, 9], [], 0), (20, [9, 1], [1], 32), (90, [9], [], 0), (91, [9], [], 7), (0, [8], [], 6), (0, [7], [], 295), (43, [3, 6], [], 0), (22, [6, 4, 5], [1], 0), (90, [6], [], 0), (91, [6], [], 6), (20, [5, 1], [1], 32), (90, [5], [], 0), (91, [5], [], 7), (0, [4], [], 294), (5000, [0, 1, 2, 3], [0, 1], 43), (0, [1], [], 285), (90, [2], [], 0), (91, [2], [], 500), (90, [3], [], 0), (91, [3], [], 6)], (3000, [], [5], 158))
theorem c_225w_43_0 {q0 : Nat} : vOkm T0 (eN e_225 L_225w A_225 mu_225 n_225 B_225 (some q0)) 1 g_225w_43_0 := vOk_inI fun ρ η f0 f1 f2 f3 f4 f5 f6 f7 f8 f9 f10 f11 f12 f13 f14 f15 f16 f17 f18 f19 f20 f21 f22 f23 f24 f25 f26 f27 f28 f29 f30 f31 f32 f33 f34 f35 f36 f37 f38 f39 f40 f41 f42 f43 f44 f45 f46 f47 f48 f49 f50 f51 f52 f53 f54 f55 f56 => q_225w_4 (q0 := q0) (n0 := ρ 3) (n1 := ρ 2) (n2 := ρ 1) (n3 := ρ 0) (n4 := ρ 4) (n5 := ρ 5) (n6 := ρ 6) (n7 := ρ 7) (n8 := ρ 8) (n9 := ρ 9) (n10 := ρ 10) (n11 := ρ 11) (n12 := ρ 12) (n13 := ρ 13) (n14 := ρ 14) (n15 := ρ 15) (n16 := ρ 16) (n17 := ρ 17) (n18 := ρ 18) (n19 := ρ 19) (n20 := ρ 20) (n21 := ρ 21) (n22 := ρ 22) (n23 := ρ 23) (n24 := ρ 24) (n25 := ρ 25) (n26 := ρ 26) (n27 := ρ 27) (n28 := ρ 28) (n29 := ρ 29) (H0 := η 0) (H1 := η 1) (H2 := η 2) (H3 := η 3) (H4 := η 4) (H5 := η 5) f56 f55 f54 f53 f52 f51 f50 f49 f48 f47 f46 f45 f44 f43 f42 f41 f40 f39 f38 f37 f36 f35 f34 f33 f32 f31 f30 f29 f28 f27 f26 f25 f24 f23 f22 f21 f20 f19 f18 f17 f16 f15 f14 f13 f12 f11 f10 f9 f8 f7 f6 f5 f4 f3 f2 f1 f0
theorem q_225w_5 {q0 : Nat} {n0 n1 n2 n3 n4 n5 n6 n7 n8 n9 n10 n11 n12 n13 n14 n15 n16 : Int} {H0 H1 : gH} (f0 : n0 ≤ 6) (f1 : 0 ≤ n0) (f2 : n1 ≤ 500) (f3 : 0 ≤ n1) (f4 : n2 = 285) (f5 : (hLe T0 H0 H1 ∧ hFr s_225.2.2.2.2 H0 H1 ∧ hWt T0 H1) ∧ ((Ab_225_43 n3 n2 n1 n0 H0 H1 ∧ Bb_225_43 n3 n2 n1 n0 H0 H1) ∧ preb_225 n3 H0) ∧ some q0 = some (mub_225_43 n3 n2 n1 n0 H0 H1)) (f6 : n4 = 294) (f7 : n5 ≤ 7) (f8 : 0 ≤ n5) (f9 : n5 = hV H1 (n2).toNat 32) (f10 : n6 ≤ 6) (f11 : 0 ≤ n6) (f12 : n6 = hV H1 (n4).toNat (n5).toNat) (f13 : n0 < n6) (f14 : n7 = 295) (f15 : n8 = 6) (f16 : n9 ≤ 7) (f17 : 0 ≤ n9) (f18 : n9 = hV H1 (n2).toNat 32) (f19 : n10 = w32 (n8 * n9)) (f20 : n11 = w32 (n10 + n0)) (f21 : n12 = hV H1 (n7).toNat (n11).toNat) (f22 : n13 = 291) (f23 : n14 = hV H1 (n13).toNat (n1).toNat) (f24 : n15 = (lg_cmp (Int64.ofInt n12) (Int64.ofInt n14)).toInt) (f25 : n15 ≠ 0) (f26 : n16 = w32 (n0 + 1)) : Bb_225_43 n3 n2 n1 n16 H0 H1 := by
  unfold Bb_225_43
  intro z zr kd
  have ga := f5.2.1.1.2
  unfold Bb_225_43 at ga
  obtain ⟨z1, fz, h6, r294, r295, r297, t1, t0, tl, k1, ea, w3, k20, k26⟩ := ga z zr kd
  have vz : vwR H1 = vwR H0 := vwR_fr f5.1.2.1 (by decide +kernel)
  have d13 := rdS (q := 285) f9 f4
  have d16 := rdW (q := 294) f12 f6
  have d25 := rdS (q := 285) f18 f4
  have d28 := rdW (q := 295) f21 f14
  have d32 := rdW (q := 291) f23 f22
  have q17 := f13
  have q34 := f25
  have q35 := f26
  unfold w32 at q35
  have f32_ : hV H1 285 32 = hV H0 285 32 := f5.1.2.1.1 285 32 (by decide +kernel)
  have rg0 := f0
  have rg1 := f1
  have rg2 := f2
  have rg3 := f3
  have rg10 := f7
  have rg11 := f8
  have rg14 := f10
  have rg15 := f11
  have rg22 := f16
  have rg23 := f17
  have nz : hV H1 291 (n1).toNat = (vwR H0).2.2.1 (ptk (vwR H0) 16 (absR H0)).1 := by
    rw [← t1, ← vz]
    show _ = if kR H1 n1 = 1 then _ else _
    have ok : okR H1 n1 := ⟨t0, by have := z1.2.2.1; omega, by have := z1.2.2.2.2.2.2.2.2.2.1 fz; omega⟩
    unfold kR
    rw [if_pos ok, if_pos k1]
  have nb := (z1.1.2.2.2 (n1).toNat (by have := z1.2.2.2.2.2.2.2.2.2.1 fz; omega)).2.2.2 k1
  have e32_0 := d13
  rw [f32_] at e32_0
  have e32_1 := d25
  rw [f32_] at e32_1
  have eb := d16
  rw [r294, e32_0] at eb
  have s26 : n10 = 6 * n9 := by
    have q := f19
    rw [f15] at q
    rw [q]
    exact w32_id (by omega) (by omega)
  have s27 : n11 = n10 + n0 := by
    have q := f20
    rw [q]
    exact w32_id (by omega) (by omega)
  have s35 : n16 = n0 + 1 := by
    have q := f26
    rw [q]
    exact w32_id (by omega) (by omega)
  have ix : (n11).toNat = (6 * hV H0 285 32).toNat + (n0).toNat := by omega
  have zb := (zr (n0).toNat (by omega)).1
  rw [← ix] at zb
  have nd := d28
  rw [r295] at nd
  have ne := d32
  have lq := lcR f24 (by rw [nd]; exact zb) (by rw [ne]; exact nb)
  refine ⟨z1, fz, h6, r294, r295, r297, t1, t0, tl, k1, ea, ?_, by omega, by omega⟩
  have mi := MBk_no (h := H0) (nm := (vwR H0).2.2.1 (ptk (vwR H0) 16 (absR H0)).1) (x := n0) (by omega) (fun e => absurd (lq.mpr (by rw [nd, ne, ix, e, nz])) (by omega))
  rw [show n16 = n0 + 1 by omega]
  exact ⟨w3.1, fun c => ⟨fun mm => (w3.2 c).1 (mi.mp mm), fun mm => (w3.2 c).2 (fun y => mm (mi.mpr y))⟩⟩
def g_225w_43_1 : vG := ([(10, [16, 3], [], 1), (31, [15], [], 0), (65, [15, 12, 14], [], 0), (22, [14, 13, 2], [1], 0), (0, [13], [], 291), (22, [12, 7, 11], [1], 0), (1, [11, 10, 3], [], 0), (3, [10, 8, 9], [], 0), (20, [9, 1], [1], 32), (90, [9], [], 0), (91, [9], [], 7), (0, [8], [], 6), (0, [7], [], 295), (42, [3, 6], [], 0), (22, [6, 4, 5], [1], 0), (90, [6], [], 0), (91, [6], [], 6), (20, [5, 1], [1], 32), (90, [5], [], 0), (91, [5], [], 7), (0, [4], [], 294), (5000, [0, 1, 2, 3], [0, 1], 43), (0, [1], [], 285), (90, [2], [], 0), (91, [2], [], 500), (90, [3], [], 0), (91, [3], [], 6)], (4000, [1, 2, 16], [1], 43))
theorem c_225w_43_1 {q0 : Nat} : vOkm T0 (eN e_225 L_225w A_225 mu_225 n_225 B_225 (some q0)) 1 g_225w_43_1 := vOk_inI fun ρ η f0 f1 f2 f3 f4 f5 f6 f7 f8 f9 f10 f11 f12 f13 f14 f15 f16 f17 f18 f19 f20 f21 f22 f23 f24 f25 f26 => q_225w_5 (q0 := q0) (n0 := ρ 3) (n1 := ρ 2) (n2 := ρ 1) (n3 := ρ 0) (n4 := ρ 4) (n5 := ρ 5) (n6 := ρ 6) (n7 := ρ 7) (n8 := ρ 8) (n9 := ρ 9) (n10 := ρ 10) (n11 := ρ 11) (n12 := ρ 12) (n13 := ρ 13) (n14 := ρ 14) (n15 := ρ 15) (n16 := ρ 16) (H0 := η 0) (H1 := η 1) f26 f25 f24 f23 f22 f21 f20 f19 f18 f17 f16 f15 f14 f13 f12 f11 f10 f9 f8 f7 f6 f5 f4 f3 f2 f1 f0
theorem q_225w_6 {q0 : Nat} {n0 n1 n2 n3 n4 n5 n6 n7 n8 n9 n10 n11 n12 n13 n14 n15 n16 n17 : Int} {H0 H1 H2 : gH} (f0 : n0 ≤ 6) (f1 : 0 ≤ n0) (f2 : n1 ≤ 500) (f3 : 0 ≤ n1) (f4 : n2 = 285) (f5 : (hLe T0 H0 H1 ∧ hFr s_225.2.2.2.2 H0 H1 ∧ hWt T0 H1) ∧ ((Ab_225_43 n3 n2 n1 n0 H0 H1 ∧ Bb_225_43 n3 n2 n1 n0 H0 H1) ∧ preb_225 n3 H0) ∧ some q0 = some (mub_225_43 n3 n2 n1 n0 H0 H1)) (f6 : n4 = 294) (f7 : n5 ≤ 7) (f8 : 0 ≤ n5) (f9 : n5 = hV H1 (n2).toNat 32) (f10 : n6 ≤ 6) (f11 : 0 ≤ n6) (f12 : n6 = hV H1 (n4).toNat (n5).toNat) (f13 : n0 < n6) (f14 : n7 = 295) (f15 : n8 = 6) (f16 : n9 ≤ 7) (f17 : 0 ≤ n9) (f18 : n9 = hV H1 (n2).toNat 32) (f19 : n10 = w32 (n8 * n9)) (f20 : n11 = w32 (n10 + n0)) (f21 : n12 = hV H1 (n7).toNat (n11).toNat) (f22 : n13 = 291) (f23 : n14 = hV H1 (n13).toNat (n1).toNat) (f24 : n15 = (lg_cmp (Int64.ofInt n12) (Int64.ofInt n14)).toInt) (f25 : n15 = 0) (f26 : n16 = 3) (f27 : (hLe T0 H1 H2 ∧ hFr s_218.2.2.2.2 H1 H2 ∧ ((0 : Int) = 0 → H2.length = H1.length) ∧ hWt T0 H2) ∧ (postb_218 n2 n16 n1 H1 H2 ∧ nb_218 n2 n16 n1 H1 H2)) (f28 : n17 = w32 (n0 + 1)) : Bb_225_43 n3 n2 n1 n17 H0 H2 := by
  unfold Bb_225_43
  intro z zr kd
  have ga := f5.2.1.1.2
  unfold Bb_225_43 at ga
  obtain ⟨z1, fz, h6, r294, r295, r297, t1, t0, tl, k1, ea, w3, k20, k26⟩ := ga z zr kd
  have vz : vwR H1 = vwR H0 := vwR_fr f5.1.2.1 (by decide +kernel)
  have d13 := rdS (q := 285) f9 f4
  have d16 := rdW (q := 294) f12 f6
  have d25 := rdS (q := 285) f18 f4
  have d28 := rdW (q := 295) f21 f14
  have d32 := rdW (q := 291) f23 f22
  have q17 := f13
  have q34 := f25
  have q37 := f28
  unfold w32 at q37
  have f32_ : hV H1 285 32 = hV H0 285 32 := f5.1.2.1.1 285 32 (by decide +kernel)
  have rg0 := f0
  have rg1 := f1
  have rg2 := f2
  have rg3 := f3
  have rg10 := f7
  have rg11 := f8
  have rg14 := f10
  have rg15 := f11
  have rg22 := f16
  have rg23 := f17
  have nz : hV H1 291 (n1).toNat = (vwR H0).2.2.1 (ptk (vwR H0) 16 (absR H0)).1 := by
    rw [← t1, ← vz]
    show _ = if kR H1 n1 = 1 then _ else _
    have ok : okR H1 n1 := ⟨t0, by have := z1.2.2.1; omega, by have := z1.2.2.2.2.2.2.2.2.2.1 fz; omega⟩
    unfold kR
    rw [if_pos ok, if_pos k1]
  have nb := (z1.1.2.2.2 (n1).toNat (by have := z1.2.2.2.2.2.2.2.2.2.1 fz; omega)).2.2.2 k1
  have e32_0 := d13
  rw [f32_] at e32_0
  have e32_1 := d25
  rw [f32_] at e32_1
  have eb := d16
  rw [r294, e32_0] at eb
  have s26 : n10 = 6 * n9 := by
    have q := f19
    rw [f15] at q
    rw [q]
    exact w32_id (by omega) (by omega)
  have s27 : n11 = n10 + n0 := by
    have q := f20
    rw [q]
    exact w32_id (by omega) (by omega)
  have s37 : n17 = n0 + 1 := by
    have q := f28
    rw [q]
    exact w32_id (by omega) (by omega)
  have ix : (n11).toNat = (6 * hV H0 285 32).toNat + (n0).toNat := by omega
  have zb := (zr (n0).toNat (by omega)).1
  rw [← ix] at zb
  have nd := d28
  rw [r295] at nd
  have ne := d32
  have lq := lcR f24 (by rw [nd]; exact zb) (by rw [ne]; exact nb)
  have ww := f27.2.2
  unfold nb_218 at ww
  rw [f26] at ww
  have mi := MBk_hit (h := H0) (nm := (vwR H0).2.2.1 (ptk (vwR H0) 16 (absR H0)).1) (x := n0) (by omega) (by rw [← ix, ← nd, lq.mp (by omega), ne, nz])
  rw [← show n17 = n0 + 1 by omega] at mi
  have wu := W3_wrong z1 fz ww w3 t0 tl mi
  have s294 : hV H2 294 = hV H1 294 := fRow f27.1.2.1 294 (by decide +kernel)
  have s295 : hV H2 295 = hV H1 295 := fRow f27.1.2.1 295 (by decide +kernel)
  have s297 : hV H2 297 = hV H1 297 := fRow f27.1.2.1 297 (by decide +kernel)
  refine ⟨wu.1, wu.2.2.2.1, h6, s294.trans r294, s295.trans r295, s297.trans r297, t1, t0, by rw [wu.2.2.2.2.2]; exact tl, by rw [wu.2.2.2.2.1.2.1]; exact k1, wu.2.1.trans ea, wu.2.2.1, by omega, by omega⟩
def g_225w_43_2 : vG := ([(10, [17, 3], [], 1), (1218, [1, 16, 2], [1, 2], 0), (0, [16], [], 3), (30, [15], [], 0), (65, [15, 12, 14], [], 0), (22, [14, 13, 2], [1], 0), (0, [13], [], 291), (22, [12, 7, 11], [1], 0), (1, [11, 10, 3], [], 0), (3, [10, 8, 9], [], 0), (20, [9, 1], [1], 32), (90, [9], [], 0), (91, [9], [], 7), (0, [8], [], 6), (0, [7], [], 295), (42, [3, 6], [], 0), (22, [6, 4, 5], [1], 0), (90, [6], [], 0), (91, [6], [], 6), (20, [5, 1], [1], 32), (90, [5], [], 0), (91, [5], [], 7), (0, [4], [], 294), (5000, [0, 1, 2, 3], [0, 1], 43), (0, [1], [], 285), (90, [2], [], 0), (91, [2], [], 500), (90, [3], [], 0), (91, [3], [], 6)], (4000, [1, 2, 17], [2], 43))
theorem c_225w_43_2 {q0 : Nat} : vOkm T0 (eN e_225 L_225w A_225 mu_225 n_225 B_225 (some q0)) 1 g_225w_43_2 := vOk_inI fun ρ η f0 f1 f2 f3 f4 f5 f6 f7 f8 f9 f10 f11 f12 f13 f14 f15 f16 f17 f18 f19 f20 f21 f22 f23 f24 f25 f26 f27 f28 => q_225w_6 (q0 := q0) (n0 := ρ 3) (n1 := ρ 2) (n2 := ρ 1) (n3 := ρ 0) (n4 := ρ 4) (n5 := ρ 5) (n6 := ρ 6) (n7 := ρ 7) (n8 := ρ 8) (n9 := ρ 9) (n10 := ρ 10) (n11 := ρ 11) (n12 := ρ 12) (n13 := ρ 13) (n14 := ρ 14) (n15 := ρ 15) (n16 := ρ 16) (n17 := ρ 17) (H0 := η 0) (H1 := η 1) (H2 := η 2) f28 f27 f26 f25 f24 f23 f22 f21 f20 f19 f18 f17 f16 f15 f14 f13 f12 f11 f10 f9 f8 f7 f6 f5 f4 f3 f2 f1 f0
def p_225w_43 : List vG := [g_225w_43_0,
  g_225w_43_1,
  g_225w_43_2]
theorem r_225w_43 : vCovBO (eRc e_225 L_225 cs_225 2000 (43, [(0, (3, 12, 285, 0)), (1, (0, 0, 500, 0)), (2, (0, 0, 6, 0))])) p_225w_43 = true := by decide +kernel
theorem m_225w (d : Nat) : eC e_225w (d + 9) := eC_ref (e := e_225) (L := L_225) (L' := L_225w) (cs := cs_225) (n := 2000) (d := d + 8) (A := A_225) (μ := mu_225) (tp := false) (p0 := p_225_s) (p1 := p_225w_s) (N := n_225) (B := B_225) rfl ⟨m_217w (d + 7), ⟨m_218w (d + 7), ⟨m_219w (d + 6), ⟨m_220w (d + 5), ⟨m_226w d, trivial⟩⟩⟩⟩⟩ rfl (.inl rfl) (by decide +kernel) (fun z => nomatch z) r_225_s (allC c_225_s_0 (allC c_225_s_1 (allC c_225_s_2 (allC c_225_s_3 allN)))) (allC (.inl ⟨p_225_43, r_225_43, fun q0 => (allC c_225_43_0 (allC c_225_43_1 (allC c_225_43_2 (allC c_225_43_3 (allC c_225_43_4 (allC c_225_43_5 (allC c_225_43_6 (allC c_225_43_7 (allC c_225_43_8 (allC c_225_43_9 (allC c_225_43_10 (allC c_225_43_11 (allC c_225_43_12 (allC c_225_43_13 allN))))))))))))))⟩) allN) (sub1 (sub1 (sub1 (sub1 (sub1 trivial))))) r_225w_s (allC c_225w_s_0 (allC c_225w_s_1 (allC c_225w_s_2 (allC c_225w_s_3 allN)))) (allC ⟨p_225w_43, r_225w_43, fun q0 => (allC c_225w_43_0 (allC c_225w_43_1 (allC c_225w_43_2 allN)))⟩ allN)
