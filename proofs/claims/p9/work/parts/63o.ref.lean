/- MixStageModel.tellRule ()V, more fully -/
def nb_232 (a0 : Int) (h0 h : gH) : Prop := RI h0 → RI h ∧ ((¬ (((vwR h0).1 (absR h0).1) = 38 ∨ ((vwR h0).1 (absR h0).1) = 40) ∧ absR h = pfail (vwR h0) 1 (absR h0)) ∨ ((((vwR h0).1 (absR h0).1) = 38 ∨ ((vwR h0).1 (absR h0).1) = 40) ∧ hV h0 306 ((hV h0 285 35).toNat) = 12 ∧ absR h = pfail (vwR h0) 2 (absR h0)) ∨ ((((vwR h0).1 (absR h0).1) = 38 ∨ ((vwR h0).1 (absR h0).1) = 40) ∧ ¬ hV h0 306 ((hV h0 285 35).toNat) = 12 ∧ absR h = ptk (vwR h0) 4 (if ((vwR h0).1 (absR h0).1) = 38 then pRight (vwR h0) (absR h0) else pLoud (vwR h0) (absR h0)))) ∧ (hV h 285 13 = 0 → hV h 306 ((hV h0 285 35).toNat) = hV h0 306 ((hV h0 285 35).toNat) + 1)
def n_232 : List Int → gH → gH → Prop := fun xs h0 h => match xs with
  | [a0] => nb_232 a0 h0 h
  | _ => True
noncomputable def e_232w : vE := eV e_232 n_232
noncomputable def L_232w : List vE := [e_216, e_217w, e_219w, e_220w, e_223w, e_233w, e_236w]
def Bb_232_53 (a0 x0 : Int) (h0 h : gH) : Prop := RI h0 → RI h ∧ absR h = absR h0 ∧ (hV h 306) = (hV h0 306) ∧ ¬ hV h0 306 ((hV h0 285 35).toNat) = 12 ∧ (((vwR h0).1 (absR h0).1) = 38 ∨ ((vwR h0).1 (absR h0).1) = 40)
def Bb_232_125 (a0 x0 x1 : Int) (h0 h : gH) : Prop := RI h0 → RI h ∧ absR h = ptk (vwR h0) ((vwR h0).1 (absR h0).1) (absR h0) ∧ (hV h 306) = (hV h0 306) ∧ ¬ hV h0 306 ((hV h0 285 35).toNat) = 12 ∧ ((hV h 307 ((x1).toNat) = 1 ∧ ((vwR h0).1 (absR h0).1) = 40) ∨ (hV h 307 ((x1).toNat) = 0 ∧ ((vwR h0).1 (absR h0).1) = 38))
def Bb_232_202 (a0 x0 x1 x2 x3 : Int) (h0 h : gH) : Prop := RI h0 → RI h ∧ (hV h 306) = (hV h0 306) ∧ ¬ hV h0 306 ((hV h0 285 35).toNat) = 12 ∧ ((vwR h0).1 (absR h0).1) = 38 ∧ (x2 = 1 → ∃ f : Nat, (0 ≤ (absR h).1 → 502 ≤ (f : Int) + (absR h).1) ∧ pCond (vwR h0) f (absR h) = pRight (vwR h0) (absR h0)) ∧ (x2 = 0 → absR h = pRight (vwR h0) (absR h0))
def Bb_232_255 (a0 x0 x1 : Int) (h0 h : gH) : Prop := RI h0 → RI h ∧ (hV h 306) = (hV h0 306) ∧ ¬ hV h0 306 ((hV h0 285 35).toNat) = 12 ∧ (((vwR h0).1 (absR h0).1) = 38 ∨ ((vwR h0).1 (absR h0).1) = 40) ∧ absR h = (if ((vwR h0).1 (absR h0).1) = 38 then pRight (vwR h0) (absR h0) else pLoud (vwR h0) (absR h0))
def B_232 : Int → List Int → gH → gH → Prop := fun c xs h0 h => match c.toNat with
  | 53 => (match xs with
    | [a0, x0] => Bb_232_53 a0 x0 h0 h
    | _ => False)
  | 125 => (match xs with
    | [a0, x0, x1] => Bb_232_125 a0 x0 x1 h0 h
    | _ => False)
  | 202 => (match xs with
    | [a0, x0, x1, x2, x3] => Bb_232_202 a0 x0 x1 x2 x3 h0 h
    | _ => False)
  | 255 => (match xs with
    | [a0, x0, x1] => Bb_232_255 a0 x0 x1 h0 h
    | _ => False)
  | _ => True
theorem q_232w_0 {n0 n1 n2 n3 n4 n5 n6 n7 : Int} {H0 H1 : gH} (f0 : n0 = 285) (f1 : n1 = 42) (f2 : (hLe T0 H0 H1 ∧ hFr s_216.2.2.2.2 H0 H1 ∧ ((0 : Int) = 0 → H1.length = H0.length) ∧ hWt T0 H1) ∧ postb_216 n2 n0 n1 H0 H1) (f3 : n2 ≠ 0) (f4 : n3 = 306) (f5 : n4 = hV H1 (n0).toNat 35) (f6 : n5 = hV H1 (n3).toNat (n4).toNat) (f7 : n6 = 12) (f8 : n5 ≠ n6) (f9 : n7 = hV H1 (n0).toNat 13) (f10 : n7 ≤ 0) : Bb_232_53 n0 n0 H0 H1 := by
  unfold Bb_232_53
  intro z
  have d13 := rdS (q := 285) f5 f0
  have d16 := rdW (q := 306) f6 f4
  have d22 := rdS (q := 285) f9 f0
  have q6 := f3
  have q18 := f8
  have qc17 := f7
  have q23 := f10
  have p0 := PR_fr f2.1.2.1 (by decide +kernel) z
  have v0 : vwR H1 = vwR H0 := p0.2.1
  have ah0 : absR H1 = (absR H0) := p0.1
  have i0 := f2.2
  unfold postb_216 at i0
  rw [f1] at i0
  have cm0 := f3
  have b0 := (isR_or (k := 42) p0.2.2.1 (by decide) i0).resolve_right (fun w => cm0 w.1)
  replace b0 := b0.2
  rw [v0, ah0, kmc_42] at b0
  have r6 : hV H1 306 = hV H0 306 := fRow f2.1.2.1 306 (by decide +kernel)
  have e35 : hV H1 285 35 = hV H0 285 35 := f2.1.2.1.1 285 35 (by decide +kernel)
  rw [r6, d13, e35] at d16
  have lo := p0.2.2.1.2.2.2.1
  have rs : hV H1 306 = hV H0 306 := fRow f2.1.2.1 306 (by decide +kernel)
  exact ⟨p0.2.2.1, ah0, rs, by omega, by omega⟩
def g_232w_s_0 : vG := ([(35, [7], [], 0), (20, [7, 0], [1], 13), (41, [5, 6], [], 0), (0, [6], [], 12), (22, [5, 3, 4], [1], 0), (20, [4, 0], [1], 35), (0, [3], [], 306), (31, [2], [], 0), (1216, [2, 0, 1], [0, 1], 0), (0, [1], [], 42), (0, [0], [], 285)], (4000, [0], [1], 53))
theorem c_232w_s_0 : vOkm T0 (eN e_232 L_232w A_232 mu_232 n_232 B_232 none) 1 g_232w_s_0 := vOk_inI fun ρ η f0 f1 f2 f3 f4 f5 f6 f7 f8 f9 f10 => q_232w_0 (n0 := ρ 0) (n1 := ρ 1) (n2 := ρ 2) (n3 := ρ 3) (n4 := ρ 4) (n5 := ρ 5) (n6 := ρ 6) (n7 := ρ 7) (H0 := η 0) (H1 := η 1) f10 f9 f8 f7 f6 f5 f4 f3 f2 f1 f0
theorem q_232w_1 {n0 n1 n2 n3 n4 n5 n6 n7 : Int} {H0 H1 : gH} (f0 : n0 = 285) (f1 : n1 = 42) (f2 : (hLe T0 H0 H1 ∧ hFr s_216.2.2.2.2 H0 H1 ∧ ((0 : Int) = 0 → H1.length = H0.length) ∧ hWt T0 H1) ∧ postb_216 n2 n0 n1 H0 H1) (f3 : n2 ≠ 0) (f4 : n3 = 306) (f5 : n4 = hV H1 (n0).toNat 35) (f6 : n5 = hV H1 (n3).toNat (n4).toNat) (f7 : n6 = 12) (f8 : n5 ≠ n6) (f9 : n7 = hV H1 (n0).toNat 13) (f10 : 0 < n7) : nb_232 n0 H0 H1 := by
  unfold nb_232
  intro z
  have d13 := rdS (q := 285) f5 f0
  have d16 := rdW (q := 306) f6 f4
  have d22 := rdS (q := 285) f9 f0
  have q6 := f3
  have q18 := f8
  have qc17 := f7
  have q23 := f10
  have p0 := PR_fr f2.1.2.1 (by decide +kernel) z
  have v0 : vwR H1 = vwR H0 := p0.2.1
  have ah0 : absR H1 = (absR H0) := p0.1
  have i0 := f2.2
  unfold postb_216 at i0
  rw [f1] at i0
  have cm0 := f3
  have b0 := (isR_or (k := 42) p0.2.2.1 (by decide) i0).resolve_right (fun w => cm0 w.1)
  replace b0 := b0.2
  rw [v0, ah0, kmc_42] at b0
  have r6 : hV H1 306 = hV H0 306 := fRow f2.1.2.1 306 (by decide +kernel)
  have e35 : hV H1 285 35 = hV H0 285 35 := f2.1.2.1.1 285 35 (by decide +kernel)
  rw [r6, d13, e35] at d16
  have lo := p0.2.2.1.2.2.2.1
  have rs : hV H1 306 = hV H0 306 := fRow f2.1.2.1 306 (by decide +kernel)
  exfalso
  have fz := faultR_no z (kdR_pos b0 (by decide))
  have e13 : hV H1 285 13 = hV H0 285 13 := f2.1.2.1.1 285 13 (by decide +kernel)
  omega
def g_232w_s_1 : vG := ([(34, [7], [], 0), (20, [7, 0], [1], 13), (41, [5, 6], [], 0), (0, [6], [], 12), (22, [5, 3, 4], [1], 0), (20, [4, 0], [1], 35), (0, [3], [], 306), (31, [2], [], 0), (1216, [2, 0, 1], [0, 1], 0), (0, [1], [], 42), (0, [0], [], 285)], (3000, [], [1], 52))
theorem c_232w_s_1 : vOkm T0 (eN e_232 L_232w A_232 mu_232 n_232 B_232 none) 1 g_232w_s_1 := vOk_inI fun ρ η f0 f1 f2 f3 f4 f5 f6 f7 f8 f9 f10 => q_232w_1 (n0 := ρ 0) (n1 := ρ 1) (n2 := ρ 2) (n3 := ρ 3) (n4 := ρ 4) (n5 := ρ 5) (n6 := ρ 6) (n7 := ρ 7) (H0 := η 0) (H1 := η 1) f10 f9 f8 f7 f6 f5 f4 f3 f2 f1 f0
theorem q_232w_2 {n0 n1 n2 n3 n4 n5 n6 n7 n8 : Int} {H0 H1 H2 : gH} (f0 : n0 = 285) (f1 : n1 = 42) (f2 : (hLe T0 H0 H1 ∧ hFr s_216.2.2.2.2 H0 H1 ∧ ((0 : Int) = 0 → H1.length = H0.length) ∧ hWt T0 H1) ∧ postb_216 n2 n0 n1 H0 H1) (f3 : n2 ≠ 0) (f4 : n3 = 306) (f5 : n4 = hV H1 (n0).toNat 35) (f6 : n5 = hV H1 (n3).toNat (n4).toNat) (f7 : n6 = 12) (f8 : n5 = n6) (f9 : n7 = 2) (f10 : (hLe T0 H1 H2 ∧ hFr s_217.2.2.2.2 H1 H2 ∧ ((0 : Int) = 0 → H2.length = H1.length) ∧ hWt T0 H2) ∧ (postb_217 n0 n7 H1 H2 ∧ nb_217 n0 n7 H1 H2)) (f11 : n8 = hV H2 (n0).toNat 13) (f12 : n8 ≤ 0) : Bb_232_53 n0 n0 H0 H2 := by
  unfold Bb_232_53
  intro z
  have d13 := rdS (q := 285) f5 f0
  have d16 := rdW (q := 306) f6 f4
  have d24 := rdS (q := 285) f11 f0
  have q6 := f3
  have q18 := f8
  have qc17 := f7
  have q25 := f12
  have p0 := PR_fr f2.1.2.1 (by decide +kernel) z
  have v0 : vwR H1 = vwR H0 := p0.2.1
  have ah0 : absR H1 = (absR H0) := p0.1
  have i0 := f2.2
  unfold postb_216 at i0
  rw [f1] at i0
  have cm0 := f3
  have b0 := (isR_or (k := 42) p0.2.2.1 (by decide) i0).resolve_right (fun w => cm0 w.1)
  replace b0 := b0.2
  rw [v0, ah0, kmc_42] at b0
  have c1 := f10.2.2 p0.2.2.1
  try rw [f9] at c1
  rw [v0, ah0] at c1
  have v1 : vwR H2 = vwR H0 := (vwR_fr f10.1.2.1 (by decide +kernel)).trans v0
  have r6 : hV H1 306 = hV H0 306 := fRow f2.1.2.1 306 (by decide +kernel)
  have e35 : hV H1 285 35 = hV H0 285 35 := f2.1.2.1.1 285 35 (by decide +kernel)
  rw [r6, d13, e35] at d16
  have lo := c1.1.2.2.2.1
  have rs : hV H2 306 = hV H0 306 := (fRow f10.1.2.1 306 (by decide +kernel)).trans (fRow f2.1.2.1 306 (by decide +kernel))
  have hn := pfailR_lt z (f := 2) (p := absR H0) (by decide)
  have hz := faultR_of c1.1 (by rw [c1.2]; exact hn)
  exfalso
  omega
def g_232w_s_2 : vG := ([(35, [8], [], 0), (20, [8, 0], [2], 13), (1217, [0, 7], [1, 2], 0), (0, [7], [], 2), (40, [5, 6], [], 0), (0, [6], [], 12), (22, [5, 3, 4], [1], 0), (20, [4, 0], [1], 35), (0, [3], [], 306), (31, [2], [], 0), (1216, [2, 0, 1], [0, 1], 0), (0, [1], [], 42), (0, [0], [], 285)], (4000, [0], [2], 53))
theorem c_232w_s_2 : vOkm T0 (eN e_232 L_232w A_232 mu_232 n_232 B_232 none) 1 g_232w_s_2 := vOk_inI fun ρ η f0 f1 f2 f3 f4 f5 f6 f7 f8 f9 f10 f11 f12 => q_232w_2 (n0 := ρ 0) (n1 := ρ 1) (n2 := ρ 2) (n3 := ρ 3) (n4 := ρ 4) (n5 := ρ 5) (n6 := ρ 6) (n7 := ρ 7) (n8 := ρ 8) (H0 := η 0) (H1 := η 1) (H2 := η 2) f12 f11 f10 f9 f8 f7 f6 f5 f4 f3 f2 f1 f0
theorem q_232w_3 {n0 n1 n2 n3 n4 n5 n6 n7 n8 : Int} {H0 H1 H2 : gH} (f0 : n0 = 285) (f1 : n1 = 42) (f2 : (hLe T0 H0 H1 ∧ hFr s_216.2.2.2.2 H0 H1 ∧ ((0 : Int) = 0 → H1.length = H0.length) ∧ hWt T0 H1) ∧ postb_216 n2 n0 n1 H0 H1) (f3 : n2 ≠ 0) (f4 : n3 = 306) (f5 : n4 = hV H1 (n0).toNat 35) (f6 : n5 = hV H1 (n3).toNat (n4).toNat) (f7 : n6 = 12) (f8 : n5 = n6) (f9 : n7 = 2) (f10 : (hLe T0 H1 H2 ∧ hFr s_217.2.2.2.2 H1 H2 ∧ ((0 : Int) = 0 → H2.length = H1.length) ∧ hWt T0 H2) ∧ (postb_217 n0 n7 H1 H2 ∧ nb_217 n0 n7 H1 H2)) (f11 : n8 = hV H2 (n0).toNat 13) (f12 : 0 < n8) : nb_232 n0 H0 H2 := by
  unfold nb_232
  intro z
  have d13 := rdS (q := 285) f5 f0
  have d16 := rdW (q := 306) f6 f4
  have d24 := rdS (q := 285) f11 f0
  have q6 := f3
  have q18 := f8
  have qc17 := f7
  have q25 := f12
  have p0 := PR_fr f2.1.2.1 (by decide +kernel) z
  have v0 : vwR H1 = vwR H0 := p0.2.1
  have ah0 : absR H1 = (absR H0) := p0.1
  have i0 := f2.2
  unfold postb_216 at i0
  rw [f1] at i0
  have cm0 := f3
  have b0 := (isR_or (k := 42) p0.2.2.1 (by decide) i0).resolve_right (fun w => cm0 w.1)
  replace b0 := b0.2
  rw [v0, ah0, kmc_42] at b0
  have c1 := f10.2.2 p0.2.2.1
  try rw [f9] at c1
  rw [v0, ah0] at c1
  have v1 : vwR H2 = vwR H0 := (vwR_fr f10.1.2.1 (by decide +kernel)).trans v0
  have r6 : hV H1 306 = hV H0 306 := fRow f2.1.2.1 306 (by decide +kernel)
  have e35 : hV H1 285 35 = hV H0 285 35 := f2.1.2.1.1 285 35 (by decide +kernel)
  rw [r6, d13, e35] at d16
  have lo := c1.1.2.2.2.1
  have rs : hV H2 306 = hV H0 306 := (fRow f10.1.2.1 306 (by decide +kernel)).trans (fRow f2.1.2.1 306 (by decide +kernel))
  have hn := pfailR_lt z (f := 2) (p := absR H0) (by decide)
  have hz := faultR_of c1.1 (by rw [c1.2]; exact hn)
  refine ⟨c1.1, .inr (.inl ⟨by omega, by omega, c1.2⟩), fun c => absurd c hz⟩
def g_232w_s_3 : vG := ([(34, [8], [], 0), (20, [8, 0], [2], 13), (1217, [0, 7], [1, 2], 0), (0, [7], [], 2), (40, [5, 6], [], 0), (0, [6], [], 12), (22, [5, 3, 4], [1], 0), (20, [4, 0], [1], 35), (0, [3], [], 306), (31, [2], [], 0), (1216, [2, 0, 1], [0, 1], 0), (0, [1], [], 42), (0, [0], [], 285)], (3000, [], [2], 52))
theorem c_232w_s_3 : vOkm T0 (eN e_232 L_232w A_232 mu_232 n_232 B_232 none) 1 g_232w_s_3 := vOk_inI fun ρ η f0 f1 f2 f3 f4 f5 f6 f7 f8 f9 f10 f11 f12 => q_232w_3 (n0 := ρ 0) (n1 := ρ 1) (n2 := ρ 2) (n3 := ρ 3) (n4 := ρ 4) (n5 := ρ 5) (n6 := ρ 6) (n7 := ρ 7) (n8 := ρ 8) (H0 := η 0) (H1 := η 1) (H2 := η 2) f12 f11 f10 f9 f8 f7 f6 f5 f4 f3 f2 f1 f0
theorem q_232w_4 {n0 n1 n2 n3 n4 n5 n6 n7 n8 n9 : Int} {H0 H1 H2 : gH} (f0 : n0 = 285) (f1 : n1 = 42) (f2 : (hLe T0 H0 H1 ∧ hFr s_216.2.2.2.2 H0 H1 ∧ ((0 : Int) = 0 → H1.length = H0.length) ∧ hWt T0 H1) ∧ postb_216 n2 n0 n1 H0 H1) (f3 : n2 = 0) (f4 : n3 = 44) (f5 : (hLe T0 H1 H2 ∧ hFr s_216.2.2.2.2 H1 H2 ∧ ((0 : Int) = 0 → H2.length = H1.length) ∧ hWt T0 H2) ∧ postb_216 n4 n0 n3 H1 H2) (f6 : n4 ≠ 0) (f7 : n5 = 306) (f8 : n6 = hV H2 (n0).toNat 35) (f9 : n7 = hV H2 (n5).toNat (n6).toNat) (f10 : n8 = 12) (f11 : n7 ≠ n8) (f12 : n9 = hV H2 (n0).toNat 13) (f13 : n9 ≤ 0) : Bb_232_53 n0 n0 H0 H2 := by
  unfold Bb_232_53
  intro z
  have d18 := rdS (q := 285) f8 f0
  have d21 := rdW (q := 306) f9 f7
  have d27 := rdS (q := 285) f12 f0
  have q6 := f3
  have q11 := f6
  have q23 := f11
  have qc22 := f10
  have q28 := f13
  have p0 := PR_fr f2.1.2.1 (by decide +kernel) z
  have v0 : vwR H1 = vwR H0 := p0.2.1
  have ah0 : absR H1 = (absR H0) := p0.1
  have i0 := f2.2
  unfold postb_216 at i0
  rw [f1] at i0
  have cm0 := f3
  have b0 := (isR_or (k := 42) p0.2.2.1 (by decide) i0).resolve_left (fun w => absurd (w.1.symm.trans cm0) (by decide))
  replace b0 := b0.2
  rw [v0, ah0, kmc_42] at b0
  have p1 := PR_fr f5.1.2.1 (by decide +kernel) p0.2.2.1
  have v1 : vwR H2 = vwR H0 := p1.2.1.trans v0
  have ah1 : absR H2 = (absR H0) := p1.1.trans ah0
  have i1 := f5.2
  unfold postb_216 at i1
  rw [f4] at i1
  have cm1 := f6
  have b1 := (isR_or (k := 44) p1.2.2.1 (by decide) i1).resolve_right (fun w => cm1 w.1)
  replace b1 := b1.2
  rw [v1, ah1, kmc_44] at b1
  have r6 : hV H2 306 = hV H0 306 := (fRow f5.1.2.1 306 (by decide +kernel)).trans (fRow f2.1.2.1 306 (by decide +kernel))
  have e35 : hV H2 285 35 = hV H0 285 35 := (f5.1.2.1.1 285 35 (by decide +kernel)).trans (f2.1.2.1.1 285 35 (by decide +kernel))
  rw [r6, d18, e35] at d21
  have lo := p1.2.2.1.2.2.2.1
  have rs : hV H2 306 = hV H0 306 := (fRow f5.1.2.1 306 (by decide +kernel)).trans (fRow f2.1.2.1 306 (by decide +kernel))
  exact ⟨p1.2.2.1, ah1, rs, by omega, by omega⟩
def g_232w_s_4 : vG := ([(35, [9], [], 0), (20, [9, 0], [2], 13), (41, [7, 8], [], 0), (0, [8], [], 12), (22, [7, 5, 6], [2], 0), (20, [6, 0], [2], 35), (0, [5], [], 306), (31, [4], [], 0), (1216, [4, 0, 3], [1, 2], 0), (0, [3], [], 44), (30, [2], [], 0), (1216, [2, 0, 1], [0, 1], 0), (0, [1], [], 42), (0, [0], [], 285)], (4000, [0], [2], 53))
theorem c_232w_s_4 : vOkm T0 (eN e_232 L_232w A_232 mu_232 n_232 B_232 none) 1 g_232w_s_4 := vOk_inI fun ρ η f0 f1 f2 f3 f4 f5 f6 f7 f8 f9 f10 f11 f12 f13 => q_232w_4 (n0 := ρ 0) (n1 := ρ 1) (n2 := ρ 2) (n3 := ρ 3) (n4 := ρ 4) (n5 := ρ 5) (n6 := ρ 6) (n7 := ρ 7) (n8 := ρ 8) (n9 := ρ 9) (H0 := η 0) (H1 := η 1) (H2 := η 2) f13 f12 f11 f10 f9 f8 f7 f6 f5 f4 f3 f2 f1 f0
theorem q_232w_5 {n0 n1 n2 n3 n4 n5 n6 n7 n8 n9 : Int} {H0 H1 H2 : gH} (f0 : n0 = 285) (f1 : n1 = 42) (f2 : (hLe T0 H0 H1 ∧ hFr s_216.2.2.2.2 H0 H1 ∧ ((0 : Int) = 0 → H1.length = H0.length) ∧ hWt T0 H1) ∧ postb_216 n2 n0 n1 H0 H1) (f3 : n2 = 0) (f4 : n3 = 44) (f5 : (hLe T0 H1 H2 ∧ hFr s_216.2.2.2.2 H1 H2 ∧ ((0 : Int) = 0 → H2.length = H1.length) ∧ hWt T0 H2) ∧ postb_216 n4 n0 n3 H1 H2) (f6 : n4 ≠ 0) (f7 : n5 = 306) (f8 : n6 = hV H2 (n0).toNat 35) (f9 : n7 = hV H2 (n5).toNat (n6).toNat) (f10 : n8 = 12) (f11 : n7 ≠ n8) (f12 : n9 = hV H2 (n0).toNat 13) (f13 : 0 < n9) : nb_232 n0 H0 H2 := by
  unfold nb_232
  intro z
  have d18 := rdS (q := 285) f8 f0
  have d21 := rdW (q := 306) f9 f7
  have d27 := rdS (q := 285) f12 f0
  have q6 := f3
  have q11 := f6
  have q23 := f11
  have qc22 := f10
  have q28 := f13
  have p0 := PR_fr f2.1.2.1 (by decide +kernel) z
  have v0 : vwR H1 = vwR H0 := p0.2.1
  have ah0 : absR H1 = (absR H0) := p0.1
  have i0 := f2.2
  unfold postb_216 at i0
  rw [f1] at i0
  have cm0 := f3
  have b0 := (isR_or (k := 42) p0.2.2.1 (by decide) i0).resolve_left (fun w => absurd (w.1.symm.trans cm0) (by decide))
  replace b0 := b0.2
  rw [v0, ah0, kmc_42] at b0
  have p1 := PR_fr f5.1.2.1 (by decide +kernel) p0.2.2.1
  have v1 : vwR H2 = vwR H0 := p1.2.1.trans v0
  have ah1 : absR H2 = (absR H0) := p1.1.trans ah0
  have i1 := f5.2
  unfold postb_216 at i1
  rw [f4] at i1
  have cm1 := f6
  have b1 := (isR_or (k := 44) p1.2.2.1 (by decide) i1).resolve_right (fun w => cm1 w.1)
  replace b1 := b1.2
  rw [v1, ah1, kmc_44] at b1
  have r6 : hV H2 306 = hV H0 306 := (fRow f5.1.2.1 306 (by decide +kernel)).trans (fRow f2.1.2.1 306 (by decide +kernel))
  have e35 : hV H2 285 35 = hV H0 285 35 := (f5.1.2.1.1 285 35 (by decide +kernel)).trans (f2.1.2.1.1 285 35 (by decide +kernel))
  rw [r6, d18, e35] at d21
  have lo := p1.2.2.1.2.2.2.1
  have rs : hV H2 306 = hV H0 306 := (fRow f5.1.2.1 306 (by decide +kernel)).trans (fRow f2.1.2.1 306 (by decide +kernel))
  exfalso
  have fz := faultR_no z (kdR_pos b1 (by decide))
  have e13 : hV H2 285 13 = hV H0 285 13 := (f5.1.2.1.1 285 13 (by decide +kernel)).trans (f2.1.2.1.1 285 13 (by decide +kernel))
  omega
def g_232w_s_5 : vG := ([(34, [9], [], 0), (20, [9, 0], [2], 13), (41, [7, 8], [], 0), (0, [8], [], 12), (22, [7, 5, 6], [2], 0), (20, [6, 0], [2], 35), (0, [5], [], 306), (31, [4], [], 0), (1216, [4, 0, 3], [1, 2], 0), (0, [3], [], 44), (30, [2], [], 0), (1216, [2, 0, 1], [0, 1], 0), (0, [1], [], 42), (0, [0], [], 285)], (3000, [], [2], 52))
theorem c_232w_s_5 : vOkm T0 (eN e_232 L_232w A_232 mu_232 n_232 B_232 none) 1 g_232w_s_5 := vOk_inI fun ρ η f0 f1 f2 f3 f4 f5 f6 f7 f8 f9 f10 f11 f12 f13 => q_232w_5 (n0 := ρ 0) (n1 := ρ 1) (n2 := ρ 2) (n3 := ρ 3) (n4 := ρ 4) (n5 := ρ 5) (n6 := ρ 6) (n7 := ρ 7) (n8 := ρ 8) (n9 := ρ 9) (H0 := η 0) (H1 := η 1) (H2 := η 2) f13 f12 f11 f10 f9 f8 f7 f6 f5 f4 f3 f2 f1 f0
theorem q_232w_6 {n0 n1 n2 n3 n4 n5 n6 n7 n8 n9 n10 : Int} {H0 H1 H2 H3 : gH} (f0 : n0 = 285) (f1 : n1 = 42) (f2 : (hLe T0 H0 H1 ∧ hFr s_216.2.2.2.2 H0 H1 ∧ ((0 : Int) = 0 → H1.length = H0.length) ∧ hWt T0 H1) ∧ postb_216 n2 n0 n1 H0 H1) (f3 : n2 = 0) (f4 : n3 = 44) (f5 : (hLe T0 H1 H2 ∧ hFr s_216.2.2.2.2 H1 H2 ∧ ((0 : Int) = 0 → H2.length = H1.length) ∧ hWt T0 H2) ∧ postb_216 n4 n0 n3 H1 H2) (f6 : n4 ≠ 0) (f7 : n5 = 306) (f8 : n6 = hV H2 (n0).toNat 35) (f9 : n7 = hV H2 (n5).toNat (n6).toNat) (f10 : n8 = 12) (f11 : n7 = n8) (f12 : n9 = 2) (f13 : (hLe T0 H2 H3 ∧ hFr s_217.2.2.2.2 H2 H3 ∧ ((0 : Int) = 0 → H3.length = H2.length) ∧ hWt T0 H3) ∧ (postb_217 n0 n9 H2 H3 ∧ nb_217 n0 n9 H2 H3)) (f14 : n10 = hV H3 (n0).toNat 13) (f15 : n10 ≤ 0) : Bb_232_53 n0 n0 H0 H3 := by
  unfold Bb_232_53
  intro z
  have d18 := rdS (q := 285) f8 f0
  have d21 := rdW (q := 306) f9 f7
  have d29 := rdS (q := 285) f14 f0
  have q6 := f3
  have q11 := f6
  have q23 := f11
  have qc22 := f10
  have q30 := f15
  have p0 := PR_fr f2.1.2.1 (by decide +kernel) z
  have v0 : vwR H1 = vwR H0 := p0.2.1
  have ah0 : absR H1 = (absR H0) := p0.1
  have i0 := f2.2
  unfold postb_216 at i0
  rw [f1] at i0
  have cm0 := f3
  have b0 := (isR_or (k := 42) p0.2.2.1 (by decide) i0).resolve_left (fun w => absurd (w.1.symm.trans cm0) (by decide))
  replace b0 := b0.2
  rw [v0, ah0, kmc_42] at b0
  have p1 := PR_fr f5.1.2.1 (by decide +kernel) p0.2.2.1
  have v1 : vwR H2 = vwR H0 := p1.2.1.trans v0
  have ah1 : absR H2 = (absR H0) := p1.1.trans ah0
  have i1 := f5.2
  unfold postb_216 at i1
  rw [f4] at i1
  have cm1 := f6
  have b1 := (isR_or (k := 44) p1.2.2.1 (by decide) i1).resolve_right (fun w => cm1 w.1)
  replace b1 := b1.2
  rw [v1, ah1, kmc_44] at b1
  have c2 := f13.2.2 p1.2.2.1
  try rw [f12] at c2
  rw [v1, ah1] at c2
  have v2 : vwR H3 = vwR H0 := (vwR_fr f13.1.2.1 (by decide +kernel)).trans v1
  have r6 : hV H2 306 = hV H0 306 := (fRow f5.1.2.1 306 (by decide +kernel)).trans (fRow f2.1.2.1 306 (by decide +kernel))
  have e35 : hV H2 285 35 = hV H0 285 35 := (f5.1.2.1.1 285 35 (by decide +kernel)).trans (f2.1.2.1.1 285 35 (by decide +kernel))
  rw [r6, d18, e35] at d21
  have lo := c2.1.2.2.2.1
  have rs : hV H3 306 = hV H0 306 := (fRow f13.1.2.1 306 (by decide +kernel)).trans ((fRow f5.1.2.1 306 (by decide +kernel)).trans (fRow f2.1.2.1 306 (by decide +kernel)))
  have hn := pfailR_lt z (f := 2) (p := absR H0) (by decide)
  have hz := faultR_of c2.1 (by rw [c2.2]; exact hn)
  exfalso
  omega
def g_232w_s_6 : vG := ([(35, [10], [], 0), (20, [10, 0], [3], 13), (1217, [0, 9], [2, 3], 0), (0, [9], [], 2), (40, [7, 8], [], 0), (0, [8], [], 12), (22, [7, 5, 6], [2], 0), (20, [6, 0], [2], 35), (0, [5], [], 306), (31, [4], [], 0), (1216, [4, 0, 3], [1, 2], 0), (0, [3], [], 44), (30, [2], [], 0), (1216, [2, 0, 1], [0, 1], 0), (0, [1], [], 42), (0, [0], [], 285)], (4000, [0], [3], 53))
theorem c_232w_s_6 : vOkm T0 (eN e_232 L_232w A_232 mu_232 n_232 B_232 none) 1 g_232w_s_6 := vOk_inI fun ρ η f0 f1 f2 f3 f4 f5 f6 f7 f8 f9 f10 f11 f12 f13 f14 f15 => q_232w_6 (n0 := ρ 0) (n1 := ρ 1) (n2 := ρ 2) (n3 := ρ 3) (n4 := ρ 4) (n5 := ρ 5) (n6 := ρ 6) (n7 := ρ 7) (n8 := ρ 8) (n9 := ρ 9) (n10 := ρ 10) (H0 := η 0) (H1 := η 1) (H2 := η 2) (H3 := η 3) f15 f14 f13 f12 f11 f10 f9 f8 f7 f6 f5 f4 f3 f2 f1 f0
theorem q_232w_7 {n0 n1 n2 n3 n4 n5 n6 n7 n8 n9 n10 : Int} {H0 H1 H2 H3 : gH} (f0 : n0 = 285) (f1 : n1 = 42) (f2 : (hLe T0 H0 H1 ∧ hFr s_216.2.2.2.2 H0 H1 ∧ ((0 : Int) = 0 → H1.length = H0.length) ∧ hWt T0 H1) ∧ postb_216 n2 n0 n1 H0 H1) (f3 : n2 = 0) (f4 : n3 = 44) (f5 : (hLe T0 H1 H2 ∧ hFr s_216.2.2.2.2 H1 H2 ∧ ((0 : Int) = 0 → H2.length = H1.length) ∧ hWt T0 H2) ∧ postb_216 n4 n0 n3 H1 H2) (f6 : n4 ≠ 0) (f7 : n5 = 306) (f8 : n6 = hV H2 (n0).toNat 35) (f9 : n7 = hV H2 (n5).toNat (n6).toNat) (f10 : n8 = 12) (f11 : n7 = n8) (f12 : n9 = 2) (f13 : (hLe T0 H2 H3 ∧ hFr s_217.2.2.2.2 H2 H3 ∧ ((0 : Int) = 0 → H3.length = H2.length) ∧ hWt T0 H3) ∧ (postb_217 n0 n9 H2 H3 ∧ nb_217 n0 n9 H2 H3)) (f14 : n10 = hV H3 (n0).toNat 13) (f15 : 0 < n10) : nb_232 n0 H0 H3 := by
  unfold nb_232
  intro z
  have d18 := rdS (q := 285) f8 f0
  have d21 := rdW (q := 306) f9 f7
  have d29 := rdS (q := 285) f14 f0
  have q6 := f3
  have q11 := f6
  have q23 := f11
  have qc22 := f10
  have q30 := f15
  have p0 := PR_fr f2.1.2.1 (by decide +kernel) z
  have v0 : vwR H1 = vwR H0 := p0.2.1
  have ah0 : absR H1 = (absR H0) := p0.1
  have i0 := f2.2
  unfold postb_216 at i0
  rw [f1] at i0
  have cm0 := f3
  have b0 := (isR_or (k := 42) p0.2.2.1 (by decide) i0).resolve_left (fun w => absurd (w.1.symm.trans cm0) (by decide))
  replace b0 := b0.2
  rw [v0, ah0, kmc_42] at b0
  have p1 := PR_fr f5.1.2.1 (by decide +kernel) p0.2.2.1
  have v1 : vwR H2 = vwR H0 := p1.2.1.trans v0
  have ah1 : absR H2 = (absR H0) := p1.1.trans ah0
  have i1 := f5.2
  unfold postb_216 at i1
  rw [f4] at i1
  have cm1 := f6
  have b1 := (isR_or (k := 44) p1.2.2.1 (by decide) i1).resolve_right (fun w => cm1 w.1)
  replace b1 := b1.2
  rw [v1, ah1, kmc_44] at b1
  have c2 := f13.2.2 p1.2.2.1
  try rw [f12] at c2
  rw [v1, ah1] at c2
  have v2 : vwR H3 = vwR H0 := (vwR_fr f13.1.2.1 (by decide +kernel)).trans v1
  have r6 : hV H2 306 = hV H0 306 := (fRow f5.1.2.1 306 (by decide +kernel)).trans (fRow f2.1.2.1 306 (by decide +kernel))
  have e35 : hV H2 285 35 = hV H0 285 35 := (f5.1.2.1.1 285 35 (by decide +kernel)).trans (f2.1.2.1.1 285 35 (by decide +kernel))
  rw [r6, d18, e35] at d21
  have lo := c2.1.2.2.2.1
  have rs : hV H3 306 = hV H0 306 := (fRow f13.1.2.1 306 (by decide +kernel)).trans ((fRow f5.1.2.1 306 (by decide +kernel)).trans (fRow f2.1.2.1 306 (by decide +kernel)))
  have hn := pfailR_lt z (f := 2) (p := absR H0) (by decide)
  have hz := faultR_of c2.1 (by rw [c2.2]; exact hn)
  refine ⟨c2.1, .inr (.inl ⟨by omega, by omega, c2.2⟩), fun c => absurd c hz⟩
def g_232w_s_7 : vG := ([(34, [10], [], 0), (20, [10, 0], [3], 13), (1217, [0, 9], [2, 3], 0), (0, [9], [], 2), (40, [7, 8], [], 0), (0, [8], [], 12), (22, [7, 5, 6], [2], 0), (20, [6, 0], [2], 35), (0, [5], [], 306), (31, [4], [], 0), (1216, [4, 0, 3], [1, 2], 0), (0, [3], [], 44), (30, [2], [], 0), (1216, [2, 0, 1], [0, 1], 0), (0, [1], [], 42), (0, [0], [], 285)], (3000, [], [3], 52))
theorem c_232w_s_7 : vOkm T0 (eN e_232 L_232w A_232 mu_232 n_232 B_232 none) 1 g_232w_s_7 := vOk_inI fun ρ η f0 f1 f2 f3 f4 f5 f6 f7 f8 f9 f10 f11 f12 f13 f14 f15 => q_232w_7 (n0 := ρ 0) (n1 := ρ 1) (n2 := ρ 2) (n3 := ρ 3) (n4 := ρ 4) (n5 := ρ 5) (n6 := ρ 6) (n7 := ρ 7) (n8 := ρ 8) (n9 := ρ 9) (n10 := ρ 10) (H0 := η 0) (H1 := η 1) (H2 := η 2) (H3 := η 3) f15 f14 f13 f12 f11 f10 f9 f8 f7 f6 f5 f4 f3 f2 f1 f0
theorem q_232w_8 {n0 n1 n2 n3 n4 n5 n6 : Int} {H0 H1 H2 H3 : gH} (f0 : n0 = 285) (f1 : n1 = 42) (f2 : (hLe T0 H0 H1 ∧ hFr s_216.2.2.2.2 H0 H1 ∧ ((0 : Int) = 0 → H1.length = H0.length) ∧ hWt T0 H1) ∧ postb_216 n2 n0 n1 H0 H1) (f3 : n2 = 0) (f4 : n3 = 44) (f5 : (hLe T0 H1 H2 ∧ hFr s_216.2.2.2.2 H1 H2 ∧ ((0 : Int) = 0 → H2.length = H1.length) ∧ hWt T0 H2) ∧ postb_216 n4 n0 n3 H1 H2) (f6 : n4 = 0) (f7 : n5 = 1) (f8 : (hLe T0 H2 H3 ∧ hFr s_217.2.2.2.2 H2 H3 ∧ ((0 : Int) = 0 → H3.length = H2.length) ∧ hWt T0 H3) ∧ (postb_217 n0 n5 H2 H3 ∧ nb_217 n0 n5 H2 H3)) (f9 : n6 = hV H3 (n0).toNat 13) (f10 : n6 ≤ 0) : Bb_232_53 n0 n0 H0 H3 := by
  unfold Bb_232_53
  intro z
  have d17 := rdS (q := 285) f9 f0
  have q6 := f3
  have q11 := f6
  have q18 := f10
  have p0 := PR_fr f2.1.2.1 (by decide +kernel) z
  have v0 : vwR H1 = vwR H0 := p0.2.1
  have ah0 : absR H1 = (absR H0) := p0.1
  have i0 := f2.2
  unfold postb_216 at i0
  rw [f1] at i0
  have cm0 := f3
  have b0 := (isR_or (k := 42) p0.2.2.1 (by decide) i0).resolve_left (fun w => absurd (w.1.symm.trans cm0) (by decide))
  replace b0 := b0.2
  rw [v0, ah0, kmc_42] at b0
  have p1 := PR_fr f5.1.2.1 (by decide +kernel) p0.2.2.1
  have v1 : vwR H2 = vwR H0 := p1.2.1.trans v0
  have ah1 : absR H2 = (absR H0) := p1.1.trans ah0
  have i1 := f5.2
  unfold postb_216 at i1
  rw [f4] at i1
  have cm1 := f6
  have b1 := (isR_or (k := 44) p1.2.2.1 (by decide) i1).resolve_left (fun w => absurd (w.1.symm.trans cm1) (by decide))
  replace b1 := b1.2
  rw [v1, ah1, kmc_44] at b1
  have c2 := f8.2.2 p1.2.2.1
  try rw [f7] at c2
  rw [v1, ah1] at c2
  have v2 : vwR H3 = vwR H0 := (vwR_fr f8.1.2.1 (by decide +kernel)).trans v1
  have lo := c2.1.2.2.2.1
  have rs : hV H3 306 = hV H0 306 := (fRow f8.1.2.1 306 (by decide +kernel)).trans ((fRow f5.1.2.1 306 (by decide +kernel)).trans (fRow f2.1.2.1 306 (by decide +kernel)))
  have hn := pfailR_lt z (f := 1) (p := absR H0) (by decide)
  have hz := faultR_of c2.1 (by rw [c2.2]; exact hn)
  exfalso
  omega
def g_232w_s_8 : vG := ([(35, [6], [], 0), (20, [6, 0], [3], 13), (1217, [0, 5], [2, 3], 0), (0, [5], [], 1), (30, [4], [], 0), (1216, [4, 0, 3], [1, 2], 0), (0, [3], [], 44), (30, [2], [], 0), (1216, [2, 0, 1], [0, 1], 0), (0, [1], [], 42), (0, [0], [], 285)], (4000, [0], [3], 53))
theorem c_232w_s_8 : vOkm T0 (eN e_232 L_232w A_232 mu_232 n_232 B_232 none) 1 g_232w_s_8 := vOk_inI fun ρ η f0 f1 f2 f3 f4 f5 f6 f7 f8 f9 f10 => q_232w_8 (n0 := ρ 0) (n1 := ρ 1) (n2 := ρ 2) (n3 := ρ 3) (n4 := ρ 4) (n5 := ρ 5) (n6 := ρ 6) (H0 := η 0) (H1 := η 1) (H2 := η 2) (H3 := η 3) f10 f9 f8 f7 f6 f5 f4 f3 f2 f1 f0
theorem q_232w_9 {n0 n1 n2 n3 n4 n5 n6 : Int} {H0 H1 H2 H3 : gH} (f0 : n0 = 285) (f1 : n1 = 42) (f2 : (hLe T0 H0 H1 ∧ hFr s_216.2.2.2.2 H0 H1 ∧ ((0 : Int) = 0 → H1.length = H0.length) ∧ hWt T0 H1) ∧ postb_216 n2 n0 n1 H0 H1) (f3 : n2 = 0) (f4 : n3 = 44) (f5 : (hLe T0 H1 H2 ∧ hFr s_216.2.2.2.2 H1 H2 ∧ ((0 : Int) = 0 → H2.length = H1.length) ∧ hWt T0 H2) ∧ postb_216 n4 n0 n3 H1 H2) (f6 : n4 = 0) (f7 : n5 = 1) (f8 : (hLe T0 H2 H3 ∧ hFr s_217.2.2.2.2 H2 H3 ∧ ((0 : Int) = 0 → H3.length = H2.length) ∧ hWt T0 H3) ∧ (postb_217 n0 n5 H2 H3 ∧ nb_217 n0 n5 H2 H3)) (f9 : n6 = hV H3 (n0).toNat 13) (f10 : 0 < n6) : nb_232 n0 H0 H3 := by
  unfold nb_232
  intro z
  have d17 := rdS (q := 285) f9 f0
  have q6 := f3
  have q11 := f6
  have q18 := f10
  have p0 := PR_fr f2.1.2.1 (by decide +kernel) z
  have v0 : vwR H1 = vwR H0 := p0.2.1
  have ah0 : absR H1 = (absR H0) := p0.1
  have i0 := f2.2
  unfold postb_216 at i0
  rw [f1] at i0
  have cm0 := f3
  have b0 := (isR_or (k := 42) p0.2.2.1 (by decide) i0).resolve_left (fun w => absurd (w.1.symm.trans cm0) (by decide))
  replace b0 := b0.2
  rw [v0, ah0, kmc_42] at b0
  have p1 := PR_fr f5.1.2.1 (by decide +kernel) p0.2.2.1
  have v1 : vwR H2 = vwR H0 := p1.2.1.trans v0
  have ah1 : absR H2 = (absR H0) := p1.1.trans ah0
  have i1 := f5.2
  unfold postb_216 at i1
  rw [f4] at i1
  have cm1 := f6
  have b1 := (isR_or (k := 44) p1.2.2.1 (by decide) i1).resolve_left (fun w => absurd (w.1.symm.trans cm1) (by decide))
  replace b1 := b1.2
  rw [v1, ah1, kmc_44] at b1
  have c2 := f8.2.2 p1.2.2.1
  try rw [f7] at c2
  rw [v1, ah1] at c2
  have v2 : vwR H3 = vwR H0 := (vwR_fr f8.1.2.1 (by decide +kernel)).trans v1
  have lo := c2.1.2.2.2.1
  have rs : hV H3 306 = hV H0 306 := (fRow f8.1.2.1 306 (by decide +kernel)).trans ((fRow f5.1.2.1 306 (by decide +kernel)).trans (fRow f2.1.2.1 306 (by decide +kernel)))
  have hn := pfailR_lt z (f := 1) (p := absR H0) (by decide)
  have hz := faultR_of c2.1 (by rw [c2.2]; exact hn)
  refine ⟨c2.1, .inl ⟨by omega, c2.2⟩, fun c => absurd c hz⟩
def g_232w_s_9 : vG := ([(34, [6], [], 0), (20, [6, 0], [3], 13), (1217, [0, 5], [2, 3], 0), (0, [5], [], 1), (30, [4], [], 0), (1216, [4, 0, 3], [1, 2], 0), (0, [3], [], 44), (30, [2], [], 0), (1216, [2, 0, 1], [0, 1], 0), (0, [1], [], 42), (0, [0], [], 285)], (3000, [], [3], 52))
theorem c_232w_s_9 : vOkm T0 (eN e_232 L_232w A_232 mu_232 n_232 B_232 none) 1 g_232w_s_9 := vOk_inI fun ρ η f0 f1 f2 f3 f4 f5 f6 f7 f8 f9 f10 => q_232w_9 (n0 := ρ 0) (n1 := ρ 1) (n2 := ρ 2) (n3 := ρ 3) (n4 := ρ 4) (n5 := ρ 5) (n6 := ρ 6) (H0 := η 0) (H1 := η 1) (H2 := η 2) (H3 := η 3) f10 f9 f8 f7 f6 f5 f4 f3 f2 f1 f0
def p_232w_s : List vG := [g_232w_s_0,
  g_232w_s_1,
  g_232w_s_2,
  g_232w_s_3,
  g_232w_s_4,
  g_232w_s_5,
  g_232w_s_6,
  g_232w_s_7,
  g_232w_s_8,
  g_232w_s_9]
theorem r_232w_s : vCovBO (eR0 e_232 L_232 cs_232 2000) p_232w_s = true := by decide +kernel
theorem q_232w_10 {q0 : Nat} {n0 n1 n2 n3 n4 n5 n6 n7 n8 n9 n10 n11 n12 n13 n14 n15 n16 n17 n18 : Int} {H0 H1 H2 H3 H4 H5 H6 H7 : gH} (f0 : n0 = 285) (f1 : (hLe T0 H0 H1 ∧ hFr s_232.2.2.2.2 H0 H1 ∧ hWt T0 H1) ∧ ((Ab_232_53 n1 n0 H0 H1 ∧ Bb_232_53 n1 n0 H0 H1) ∧ preb_232 n1 H0) ∧ some q0 = some (mub_232_53 n1 n0 H0 H1)) (f2 : n2 = 12) (f3 : n3 ≤ 1) (f4 : 0 ≤ n3) (f5 : n3 = hV H1 (n0).toNat 35) (f6 : n4 = w32 (n2 * n3)) (f7 : n5 = 306) (f8 : n6 ≤ 1) (f9 : 0 ≤ n6) (f10 : n6 = hV H1 (n0).toNat 35) (f11 : n7 ≤ 12) (f12 : 0 ≤ n7) (f13 : n7 = hV H1 (n5).toNat (n6).toNat) (f14 : n8 = w32 (n4 + n7)) (f15 : n9 = 307) (f16 : n10 = 42) (f17 : (hLe T0 H1 H2 ∧ hFr s_216.2.2.2.2 H1 H2 ∧ ((0 : Int) = 0 → H2.length = H1.length) ∧ hWt T0 H2) ∧ postb_216 n11 n0 n10 H1 H2) (f18 : n11 = 0) (f19 : n12 = 1) (f20 : hUpd H3 H2 n9 n8 n12) (f21 : (hLe T0 H3 H4 ∧ hFr s_219.2.2.2.2 H3 H4 ∧ ((0 : Int) = 0 → H4.length = H3.length) ∧ hWt T0 H4) ∧ (postb_219 n0 H3 H4 ∧ nb_219 n0 H3 H4)) (f22 : n13 = 308) (f23 : n14 ≤ 1200) (f24 : 0 ≤ n14) (f25 : n14 = hV H4 (n0).toNat 51) (f26 : hUpd H5 H4 n13 n8 n14) (f27 : n15 = 309) (f28 : n16 ≤ 1200) (f29 : 0 ≤ n16) (f30 : n16 = hV H5 (n0).toNat 51) (f31 : hUpd H6 H5 n15 n8 n16) (f32 : n17 = 310) (f33 : n18 ≤ 400) (f34 : 0 ≤ n18) (f35 : n18 = hV H6 (n0).toNat 44) (f36 : hUpd H7 H6 n17 n8 n18) : Bb_232_125 n1 n0 n8 H0 H7 := by
  unfold Bb_232_125
  intro z
  have ga := f1.2.1.1.2
  unfold Bb_232_53 at ga
  obtain ⟨z1, a1, rs, h12, kk⟩ := ga z
  have vz : vwR H1 = vwR H0 := vwR_fr f1.1.2.1 (by decide +kernel)
  have d7 := rdS (q := 285) f5 f0
  have d15 := rdS (q := 285) f10 f0
  have d18 := rdW (q := 306) f13 f7
  have d38 := rdS (q := 285) f25 f0
  have d47 := rdS (q := 285) f30 f0
  have d56 := rdS (q := 285) f35 f0
  have q27 := f18
  have pp := PR_fr f17.1.2.1 (by decide +kernel) z1
  have ii := f17.2
  unfold postb_216 at ii
  rw [f16] at ii
  have ic := f18
  have io := isR_or (k := 42) pp.2.2.1 (by decide) ii
  rw [pp.2.1, pp.1, vz, a1, kmc_42] at io
  have kd : (vwR H0).1 (absR H0).1 = 40 := by omega
  have p0 := PR_fr f17.1.2.1 (by decide +kernel) z1
  have v0 : vwR H2 = vwR H0 := p0.2.1.trans vz
  have ah0 : absR H2 = (absR H0) := p0.1.trans a1
  have i0 := f17.2
  unfold postb_216 at i0
  rw [f16] at i0
  have cm0 := f18
  have b0 := (isR_or (k := 42) p0.2.2.1 (by decide) i0).resolve_left (fun w => absurd (w.1.symm.trans cm0) (by decide))
  replace b0 := b0.2
  rw [v0, ah0, kmc_42] at b0
  have p1 := PR_row (q := 307) f20 f15 (by decide) p0.2.2.1
  have v1 : vwR H3 = vwR H0 := p1.2.1.trans v0
  have ah1 : absR H3 = (absR H0) := p1.1.trans ah0
  have c2 := f21.2.2 p1.2.2.1 (by rw [v1, ah1]; rw [kd]; decide)
  rw [v1, ah1, kd] at c2
  have v2 : vwR H4 = vwR H0 := (vwR_fr f21.1.2.1 (by decide +kernel)).trans v1
  have p3 := PR_row (q := 308) f26 f22 (by decide) c2.1
  have v3 : vwR H5 = vwR H0 := p3.2.1.trans v2
  have ah3 : absR H5 = (ptk (vwR H0) 40 (absR H0)) := p3.1.trans c2.2
  have p4 := PR_row (q := 309) f31 f27 (by decide) p3.2.2.1
  have v4 : vwR H6 = vwR H0 := p4.2.1.trans v3
  have ah4 : absR H6 = (ptk (vwR H0) 40 (absR H0)) := p4.1.trans ah3
  have p5 := PR_row (q := 310) f36 f32 (by decide) p4.2.2.1
  have v5 : vwR H7 = vwR H0 := p5.2.1.trans v4
  have ah5 : absR H7 = (ptk (vwR H0) 40 (absR H0)) := p5.1.trans ah4
  have w7 : hV H7 307 = hV H3 307 := (uRowNe f36 307 (by rw [f32]; decide)).trans ((uRowNe f31 307 (by rw [f27]; decide)).trans ((uRowNe f26 307 (by rw [f22]; decide)).trans (fRow f21.1.2.1 307 (by decide +kernel))))
  have rs2 : hV H7 306 = hV H1 306 := (uRowNe f36 306 (by rw [f32]; decide)).trans ((uRowNe f31 306 (by rw [f27]; decide)).trans ((uRowNe f26 306 (by rw [f22]; decide)).trans ((fRow f21.1.2.1 306 (by decide +kernel)).trans ((uRowNe f20 306 (by rw [f15]; decide)).trans (fRow f17.1.2.1 306 (by decide +kernel))))))
  have rg4 := f3
  have rg5 := f4
  have rg12 := f8
  have rg13 := f9
  have rg16 := f11
  have rg17 := f12
  have rg35 := f23
  have rg36 := f24
  have rg44 := f28
  have rg45 := f29
  have rg53 := f33
  have rg54 := f34
  have sv := f19
  have s8 : n4 = 12 * n3 := by
    have q := f6
    rw [f2] at q
    rw [q]
    exact w32_id (by omega) (by omega)
  have s19 : n8 = n4 + n7 := by
    have q := f14
    rw [q]
    exact w32_id (by omega) (by omega)
  have sr : hV H7 307 (n8).toNat = 1 := by
    rw [w7, uSame f20 307 (n8).toNat (by rw [f15]; rfl) (Int.toNat_of_nonneg (by omega)), sv]
  rw [kd, sr]
  exact ⟨p5.2.2.1, ah5, rs2.trans rs, h12, .inl ⟨rfl, rfl⟩⟩
def g_232w_53_0 : vG := ([(80, [17, 8, 18], [7, 6], 0), (20, [18, 1], [6], 44), (90, [18], [], 0), (91, [18], [], 400), (0, [17], [], 310), (80, [15, 8, 16], [6, 5], 0), (20, [16, 1], [5], 51), (90, [16], [], 0), (91, [16], [], 1200), (0, [15], [], 309), (80, [13, 8, 14], [5, 4], 0), (20, [14, 1], [4], 51), (90, [14], [], 0), (91, [14], [], 1200), (0, [13], [], 308), (1219, [1], [3, 4], 0), (80, [9, 8, 12], [3, 2], 0), (0, [12], [], 1), (30, [11], [], 0), (1216, [11, 1, 10], [1, 2], 0), (0, [10], [], 42), (0, [9], [], 307), (1, [8, 4, 7], [], 0), (22, [7, 5, 6], [1], 0), (90, [7], [], 0), (91, [7], [], 12), (20, [6, 1], [1], 35), (90, [6], [], 0), (91, [6], [], 1), (0, [5], [], 306), (3, [4, 2, 3], [], 0), (20, [3, 1], [1], 35), (90, [3], [], 0), (91, [3], [], 1), (0, [2], [], 12), (5000, [0, 1], [0, 1], 53), (0, [1], [], 285)], (4000, [1, 8], [7], 125))
theorem c_232w_53_0 {q0 : Nat} : vOkm T0 (eN e_232 L_232w A_232 mu_232 n_232 B_232 (some q0)) 1 g_232w_53_0 := vOk_inI fun ρ η f0 f1 f2 f3 f4 f5 f6 f7 f8 f9 f10 f11 f12 f13 f14 f15 f16 f17 f18 f19 f20 f21 f22 f23 f24 f25 f26 f27 f28 f29 f30 f31 f32 f33 f34 f35 f36 => q_232w_10 (q0 := q0) (n0 := ρ 1) (n1 := ρ 0) (n2 := ρ 2) (n3 := ρ 3) (n4 := ρ 4) (n5 := ρ 5) (n6 := ρ 6) (n7 := ρ 7) (n8 := ρ 8) (n9 := ρ 9) (n10 := ρ 10) (n11 := ρ 11) (n12 := ρ 12) (n13 := ρ 13) (n14 := ρ 14) (n15 := ρ 15) (n16 := ρ 16) (n17 := ρ 17) (n18 := ρ 18) (H0 := η 0) (H1 := η 1) (H2 := η 2) (H3 := η 3) (H4 := η 4) (H5 := η 5) (H6 := η 6) (H7 := η 7) f36 f35 f34 f33 f32 f31 f30 f29 f28 f27 f26 f25 f24 f23 f22 f21 f20 f19 f18 f17 f16 f15 f14 f13 f12 f11 f10 f9 f8 f7 f6 f5 f4 f3 f2 f1 f0
theorem q_232w_11 {q0 : Nat} {n0 n1 n2 n3 n4 n5 n6 n7 n8 n9 n10 n11 n12 n13 n14 n15 n16 n17 n18 : Int} {H0 H1 H2 H3 H4 H5 H6 H7 : gH} (f0 : n0 = 285) (f1 : (hLe T0 H0 H1 ∧ hFr s_232.2.2.2.2 H0 H1 ∧ hWt T0 H1) ∧ ((Ab_232_53 n1 n0 H0 H1 ∧ Bb_232_53 n1 n0 H0 H1) ∧ preb_232 n1 H0) ∧ some q0 = some (mub_232_53 n1 n0 H0 H1)) (f2 : n2 = 12) (f3 : n3 ≤ 1) (f4 : 0 ≤ n3) (f5 : n3 = hV H1 (n0).toNat 35) (f6 : n4 = w32 (n2 * n3)) (f7 : n5 = 306) (f8 : n6 ≤ 1) (f9 : 0 ≤ n6) (f10 : n6 = hV H1 (n0).toNat 35) (f11 : n7 ≤ 12) (f12 : 0 ≤ n7) (f13 : n7 = hV H1 (n5).toNat (n6).toNat) (f14 : n8 = w32 (n4 + n7)) (f15 : n9 = 307) (f16 : n10 = 42) (f17 : (hLe T0 H1 H2 ∧ hFr s_216.2.2.2.2 H1 H2 ∧ ((0 : Int) = 0 → H2.length = H1.length) ∧ hWt T0 H2) ∧ postb_216 n11 n0 n10 H1 H2) (f18 : n11 ≠ 0) (f19 : n12 = 0) (f20 : hUpd H3 H2 n9 n8 n12) (f21 : (hLe T0 H3 H4 ∧ hFr s_219.2.2.2.2 H3 H4 ∧ ((0 : Int) = 0 → H4.length = H3.length) ∧ hWt T0 H4) ∧ (postb_219 n0 H3 H4 ∧ nb_219 n0 H3 H4)) (f22 : n13 = 308) (f23 : n14 ≤ 1200) (f24 : 0 ≤ n14) (f25 : n14 = hV H4 (n0).toNat 51) (f26 : hUpd H5 H4 n13 n8 n14) (f27 : n15 = 309) (f28 : n16 ≤ 1200) (f29 : 0 ≤ n16) (f30 : n16 = hV H5 (n0).toNat 51) (f31 : hUpd H6 H5 n15 n8 n16) (f32 : n17 = 310) (f33 : n18 ≤ 400) (f34 : 0 ≤ n18) (f35 : n18 = hV H6 (n0).toNat 44) (f36 : hUpd H7 H6 n17 n8 n18) : Bb_232_125 n1 n0 n8 H0 H7 := by
  unfold Bb_232_125
  intro z
  have ga := f1.2.1.1.2
  unfold Bb_232_53 at ga
  obtain ⟨z1, a1, rs, h12, kk⟩ := ga z
  have vz : vwR H1 = vwR H0 := vwR_fr f1.1.2.1 (by decide +kernel)
  have d7 := rdS (q := 285) f5 f0
  have d15 := rdS (q := 285) f10 f0
  have d18 := rdW (q := 306) f13 f7
  have d38 := rdS (q := 285) f25 f0
  have d47 := rdS (q := 285) f30 f0
  have d56 := rdS (q := 285) f35 f0
  have q27 := f18
  have pp := PR_fr f17.1.2.1 (by decide +kernel) z1
  have ii := f17.2
  unfold postb_216 at ii
  rw [f16] at ii
  have ic := f18
  have io := isR_or (k := 42) pp.2.2.1 (by decide) ii
  rw [pp.2.1, pp.1, vz, a1, kmc_42] at io
  have kd : (vwR H0).1 (absR H0).1 = 38 := by omega
  have p0 := PR_fr f17.1.2.1 (by decide +kernel) z1
  have v0 : vwR H2 = vwR H0 := p0.2.1.trans vz
  have ah0 : absR H2 = (absR H0) := p0.1.trans a1
  have i0 := f17.2
  unfold postb_216 at i0
  rw [f16] at i0
  have cm0 := f18
  have b0 := (isR_or (k := 42) p0.2.2.1 (by decide) i0).resolve_right (fun w => cm0 w.1)
  replace b0 := b0.2
  rw [v0, ah0, kmc_42] at b0
  have p1 := PR_row (q := 307) f20 f15 (by decide) p0.2.2.1
  have v1 : vwR H3 = vwR H0 := p1.2.1.trans v0
  have ah1 : absR H3 = (absR H0) := p1.1.trans ah0
  have c2 := f21.2.2 p1.2.2.1 (by rw [v1, ah1]; rw [b0]; decide)
  rw [v1, ah1, b0] at c2
  have v2 : vwR H4 = vwR H0 := (vwR_fr f21.1.2.1 (by decide +kernel)).trans v1
  have p3 := PR_row (q := 308) f26 f22 (by decide) c2.1
  have v3 : vwR H5 = vwR H0 := p3.2.1.trans v2
  have ah3 : absR H5 = (ptk (vwR H0) 38 (absR H0)) := p3.1.trans c2.2
  have p4 := PR_row (q := 309) f31 f27 (by decide) p3.2.2.1
  have v4 : vwR H6 = vwR H0 := p4.2.1.trans v3
  have ah4 : absR H6 = (ptk (vwR H0) 38 (absR H0)) := p4.1.trans ah3
  have p5 := PR_row (q := 310) f36 f32 (by decide) p4.2.2.1
  have v5 : vwR H7 = vwR H0 := p5.2.1.trans v4
  have ah5 : absR H7 = (ptk (vwR H0) 38 (absR H0)) := p5.1.trans ah4
  have w7 : hV H7 307 = hV H3 307 := (uRowNe f36 307 (by rw [f32]; decide)).trans ((uRowNe f31 307 (by rw [f27]; decide)).trans ((uRowNe f26 307 (by rw [f22]; decide)).trans (fRow f21.1.2.1 307 (by decide +kernel))))
  have rs2 : hV H7 306 = hV H1 306 := (uRowNe f36 306 (by rw [f32]; decide)).trans ((uRowNe f31 306 (by rw [f27]; decide)).trans ((uRowNe f26 306 (by rw [f22]; decide)).trans ((fRow f21.1.2.1 306 (by decide +kernel)).trans ((uRowNe f20 306 (by rw [f15]; decide)).trans (fRow f17.1.2.1 306 (by decide +kernel))))))
  have rg4 := f3
  have rg5 := f4
  have rg12 := f8
  have rg13 := f9
  have rg16 := f11
  have rg17 := f12
  have rg35 := f23
  have rg36 := f24
  have rg44 := f28
  have rg45 := f29
  have rg53 := f33
  have rg54 := f34
  have sv := f19
  have s8 : n4 = 12 * n3 := by
    have q := f6
    rw [f2] at q
    rw [q]
    exact w32_id (by omega) (by omega)
  have s19 : n8 = n4 + n7 := by
    have q := f14
    rw [q]
    exact w32_id (by omega) (by omega)
  have sr : hV H7 307 (n8).toNat = 0 := by
    rw [w7, uSame f20 307 (n8).toNat (by rw [f15]; rfl) (Int.toNat_of_nonneg (by omega)), sv]
  rw [kd, sr]
  exact ⟨p5.2.2.1, ah5, rs2.trans rs, h12, .inr ⟨rfl, rfl⟩⟩
def g_232w_53_1 : vG := ([(80, [17, 8, 18], [7, 6], 0), (20, [18, 1], [6], 44), (90, [18], [], 0), (91, [18], [], 400), (0, [17], [], 310), (80, [15, 8, 16], [6, 5], 0), (20, [16, 1], [5], 51), (90, [16], [], 0), (91, [16], [], 1200), (0, [15], [], 309), (80, [13, 8, 14], [5, 4], 0), (20, [14, 1], [4], 51), (90, [14], [], 0), (91, [14], [], 1200), (0, [13], [], 308), (1219, [1], [3, 4], 0), (80, [9, 8, 12], [3, 2], 0), (0, [12], [], 0), (31, [11], [], 0), (1216, [11, 1, 10], [1, 2], 0), (0, [10], [], 42), (0, [9], [], 307), (1, [8, 4, 7], [], 0), (22, [7, 5, 6], [1], 0), (90, [7], [], 0), (91, [7], [], 12), (20, [6, 1], [1], 35), (90, [6], [], 0), (91, [6], [], 1), (0, [5], [], 306), (3, [4, 2, 3], [], 0), (20, [3, 1], [1], 35), (90, [3], [], 0), (91, [3], [], 1), (0, [2], [], 12), (5000, [0, 1], [0, 1], 53), (0, [1], [], 285)], (4000, [1, 8], [7], 125))
theorem c_232w_53_1 {q0 : Nat} : vOkm T0 (eN e_232 L_232w A_232 mu_232 n_232 B_232 (some q0)) 1 g_232w_53_1 := vOk_inI fun ρ η f0 f1 f2 f3 f4 f5 f6 f7 f8 f9 f10 f11 f12 f13 f14 f15 f16 f17 f18 f19 f20 f21 f22 f23 f24 f25 f26 f27 f28 f29 f30 f31 f32 f33 f34 f35 f36 => q_232w_11 (q0 := q0) (n0 := ρ 1) (n1 := ρ 0) (n2 := ρ 2) (n3 := ρ 3) (n4 := ρ 4) (n5 := ρ 5) (n6 := ρ 6) (n7 := ρ 7) (n8 := ρ 8) (n9 := ρ 9) (n10 := ρ 10) (n11 := ρ 11) (n12 := ρ 12) (n13 := ρ 13) (n14 := ρ 14) (n15 := ρ 15) (n16 := ρ 16) (n17 := ρ 17) (n18 := ρ 18) (H0 := η 0) (H1 := η 1) (H2 := η 2) (H3 := η 3) (H4 := η 4) (H5 := η 5) (H6 := η 6) (H7 := η 7) f36 f35 f34 f33 f32 f31 f30 f29 f28 f27 f26 f25 f24 f23 f22 f21 f20 f19 f18 f17 f16 f15 f14 f13 f12 f11 f10 f9 f8 f7 f6 f5 f4 f3 f2 f1 f0
def p_232w_53 : List vG := [g_232w_53_0,
  g_232w_53_1]
theorem r_232w_53 : vCovBO (eRc e_232 L_232 cs_232 2000 (53, [(0, (3, 12, 285, 0))])) p_232w_53 = true := by decide +kernel
theorem q_232w_12 {q0 : Nat} {n0 n1 n2 n3 n4 n5 n6 n7 n8 n9 n10 : Int} {H0 H1 H2 H3 H4 : gH} (f0 : n1 = 285) (f1 : (hLe T0 H0 H1 ∧ hFr s_232.2.2.2.2 H0 H1 ∧ hWt T0 H1) ∧ ((Ab_232_125 n2 n1 n0 H0 H1 ∧ Bb_232_125 n2 n1 n0 H0 H1) ∧ preb_232 n2 H0) ∧ some q0 = some (mub_232_125 n2 n1 n0 H0 H1)) (f2 : n3 = 307) (f3 : n4 ≤ 1) (f4 : 0 ≤ n4) (f5 : n4 = hV H1 (n3).toNat (n0).toNat) (f6 : n5 = 1) (f7 : n4 ≠ n5) (f8 : (hLe T0 H1 H2 ∧ hFr s_236.2.2.2.2 H1 H2 ∧ ((0 : Int) = 0 → H2.length = H1.length) ∧ hWt T0 H2) ∧ (postb_236 n1 H1 H2 ∧ nb_236 n1 H1 H2)) (f9 : n6 = 309) (f10 : n7 = hV H2 (n1).toNat 51) (f11 : hUpd H3 H2 n6 n0 n7) (f12 : n8 = 43) (f13 : n9 ≤ 1) (f14 : 0 ≤ n9) (f15 : (hLe T0 H3 H4 ∧ hFr s_216.2.2.2.2 H3 H4 ∧ ((0 : Int) = 0 → H4.length = H3.length) ∧ hWt T0 H4) ∧ postb_216 n9 n1 n8 H3 H4) (f16 : n9 = 0) : Bb_232_202 n2 n1 n0 n9 n10 H0 H4 := by
  unfold Bb_232_202
  intro z
  have ga := f1.2.1.1.2
  unfold Bb_232_125 at ga
  obtain ⟨z1, a1, rs, h12, kk⟩ := ga z
  have vz : vwR H1 = vwR H0 := vwR_fr f1.1.2.1 (by decide +kernel)
  have d10 := rdW (q := 307) f5 f2
  have d20 := rdS (q := 285) f10 f0
  have q12 := f7
  have qc11 := f6
  have q27 := f16
  have rg8 := f3
  have rg9 := f4
  have kd : (vwR H0).1 (absR H0).1 = 38 := by omega
  rw [kd] at a1
  have c0 := f8.2.2 z1
  rw [vz, a1] at c0
  have v0 : vwR H2 = vwR H0 := (vwR_fr f8.1.2.1 (by decide +kernel)).trans vz
  have p1 := PR_row (q := 309) f11 f9 (by decide) c0.1
  have v1 : vwR H3 = vwR H0 := p1.2.1.trans v0
  have ah1 : absR H3 = (pExp (vwR H0) (ptk (vwR H0) 38 (absR H0))) := p1.1.trans c0.2
  have p2 := PR_fr f15.1.2.1 (by decide +kernel) p1.2.2.1
  have v2 : vwR H4 = vwR H0 := p2.2.1.trans v1
  have ah2 : absR H4 = (pExp (vwR H0) (ptk (vwR H0) 38 (absR H0))) := p2.1.trans ah1
  have i2 := f15.2
  unfold postb_216 at i2
  rw [f12] at i2
  have cm2 := f16
  have b2 := (isR_or (k := 43) p2.2.2.1 (by decide) i2).resolve_left (fun w => absurd (w.1.symm.trans cm2) (by decide))
  replace b2 := b2.2
  rw [v2, ah2, kmc_43] at b2
  have rs2 : hV H4 306 = hV H1 306 := (fRow f15.1.2.1 306 (by decide +kernel)).trans ((uRowNe f11 306 (by rw [f9]; decide)).trans (fRow f8.1.2.1 306 (by decide +kernel)))
  have ch := f16
  have rg24 := f13
  have rg25 := f14
  have bq := f15.2
  unfold postb_216 at bq
  refine ⟨p2.2.2.1, rs2.trans rs, h12, kd, fun c => absurd (ch.symm.trans c) (by decide), fun _ => ?_⟩
  unfold pRight
  rw [if_neg b2]
  exact ah2
def g_232w_125_0 : vG := ([(30, [9], [], 0), (1216, [9, 1, 8], [3, 4], 0), (90, [9], [], 0), (91, [9], [], 1), (0, [8], [], 43), (80, [6, 2, 7], [3, 2], 0), (20, [7, 1], [2], 51), (0, [6], [], 309), (1236, [1], [1, 2], 0), (41, [4, 5], [], 0), (0, [5], [], 1), (22, [4, 3, 2], [1], 0), (90, [4], [], 0), (91, [4], [], 1), (0, [3], [], 307), (5000, [0, 1, 2], [0, 1], 125), (0, [1], [], 285)], (4000, [1, 2, 9, 10], [4], 202))
theorem c_232w_125_0 {q0 : Nat} : vOkm T0 (eN e_232 L_232w A_232 mu_232 n_232 B_232 (some q0)) 1 g_232w_125_0 := vOk_inI fun ρ η f0 f1 f2 f3 f4 f5 f6 f7 f8 f9 f10 f11 f12 f13 f14 f15 f16 => q_232w_12 (q0 := q0) (n0 := ρ 2) (n1 := ρ 1) (n2 := ρ 0) (n3 := ρ 3) (n4 := ρ 4) (n5 := ρ 5) (n6 := ρ 6) (n7 := ρ 7) (n8 := ρ 8) (n9 := ρ 9) (n10 := ρ 10) (H0 := η 0) (H1 := η 1) (H2 := η 2) (H3 := η 3) (H4 := η 4) f16 f15 f14 f13 f12 f11 f10 f9 f8 f7 f6 f5 f4 f3 f2 f1 f0
theorem q_232w_13 {q0 : Nat} {n0 n1 n2 n3 n4 n5 n6 n7 n8 n9 n10 : Int} {H0 H1 H2 H3 H4 H5 : gH} (f0 : n1 = 285) (f1 : (hLe T0 H0 H1 ∧ hFr s_232.2.2.2.2 H0 H1 ∧ hWt T0 H1) ∧ ((Ab_232_125 n2 n1 n0 H0 H1 ∧ Bb_232_125 n2 n1 n0 H0 H1) ∧ preb_232 n2 H0) ∧ some q0 = some (mub_232_125 n2 n1 n0 H0 H1)) (f2 : n3 = 307) (f3 : n4 ≤ 1) (f4 : 0 ≤ n4) (f5 : n4 = hV H1 (n3).toNat (n0).toNat) (f6 : n5 = 1) (f7 : n4 ≠ n5) (f8 : (hLe T0 H1 H2 ∧ hFr s_236.2.2.2.2 H1 H2 ∧ ((0 : Int) = 0 → H2.length = H1.length) ∧ hWt T0 H2) ∧ (postb_236 n1 H1 H2 ∧ nb_236 n1 H1 H2)) (f9 : n6 = 309) (f10 : n7 = hV H2 (n1).toNat 51) (f11 : hUpd H3 H2 n6 n0 n7) (f12 : n8 = 43) (f13 : n9 ≤ 1) (f14 : 0 ≤ n9) (f15 : (hLe T0 H3 H4 ∧ hFr s_216.2.2.2.2 H3 H4 ∧ ((0 : Int) = 0 → H4.length = H3.length) ∧ hWt T0 H4) ∧ postb_216 n9 n1 n8 H3 H4) (f16 : n9 ≠ 0) (f17 : (hLe T0 H4 H5 ∧ hFr s_219.2.2.2.2 H4 H5 ∧ ((0 : Int) = 0 → H5.length = H4.length) ∧ hWt T0 H5) ∧ (postb_219 n1 H4 H5 ∧ nb_219 n1 H4 H5)) : Bb_232_202 n2 n1 n0 n9 n10 H0 H5 := by
  unfold Bb_232_202
  intro z
  have ga := f1.2.1.1.2
  unfold Bb_232_125 at ga
  obtain ⟨z1, a1, rs, h12, kk⟩ := ga z
  have vz : vwR H1 = vwR H0 := vwR_fr f1.1.2.1 (by decide +kernel)
  have d10 := rdW (q := 307) f5 f2
  have d20 := rdS (q := 285) f10 f0
  have q12 := f7
  have qc11 := f6
  have q27 := f16
  have rg8 := f3
  have rg9 := f4
  have kd : (vwR H0).1 (absR H0).1 = 38 := by omega
  rw [kd] at a1
  have c0 := f8.2.2 z1
  rw [vz, a1] at c0
  have v0 : vwR H2 = vwR H0 := (vwR_fr f8.1.2.1 (by decide +kernel)).trans vz
  have p1 := PR_row (q := 309) f11 f9 (by decide) c0.1
  have v1 : vwR H3 = vwR H0 := p1.2.1.trans v0
  have ah1 : absR H3 = (pExp (vwR H0) (ptk (vwR H0) 38 (absR H0))) := p1.1.trans c0.2
  have p2 := PR_fr f15.1.2.1 (by decide +kernel) p1.2.2.1
  have v2 : vwR H4 = vwR H0 := p2.2.1.trans v1
  have ah2 : absR H4 = (pExp (vwR H0) (ptk (vwR H0) 38 (absR H0))) := p2.1.trans ah1
  have i2 := f15.2
  unfold postb_216 at i2
  rw [f12] at i2
  have cm2 := f16
  have b2 := (isR_or (k := 43) p2.2.2.1 (by decide) i2).resolve_right (fun w => cm2 w.1)
  replace b2 := b2.2
  rw [v2, ah2, kmc_43] at b2
  have c3 := f17.2.2 p2.2.2.1 (by rw [v2, ah2]; rw [b2]; decide)
  rw [v2, ah2, b2] at c3
  have v3 : vwR H5 = vwR H0 := (vwR_fr f17.1.2.1 (by decide +kernel)).trans v2
  have rs2 : hV H5 306 = hV H1 306 := (fRow f17.1.2.1 306 (by decide +kernel)).trans ((fRow f15.1.2.1 306 (by decide +kernel)).trans ((uRowNe f11 306 (by rw [f9]; decide)).trans (fRow f8.1.2.1 306 (by decide +kernel))))
  have ch := f16
  have rg24 := f13
  have rg25 := f14
  have bq := f15.2
  unfold postb_216 at bq
  refine ⟨c3.1, rs2.trans rs, h12, kd, fun _ => ⟨502, fun c => by omega, ?_⟩, fun c => absurd c ch⟩
  unfold pRight
  rw [if_pos b2, c3.2]
def g_232w_125_1 : vG := ([(1219, [1], [4, 5], 0), (31, [9], [], 0), (1216, [9, 1, 8], [3, 4], 0), (90, [9], [], 0), (91, [9], [], 1), (0, [8], [], 43), (80, [6, 2, 7], [3, 2], 0), (20, [7, 1], [2], 51), (0, [6], [], 309), (1236, [1], [1, 2], 0), (41, [4, 5], [], 0), (0, [5], [], 1), (22, [4, 3, 2], [1], 0), (90, [4], [], 0), (91, [4], [], 1), (0, [3], [], 307), (5000, [0, 1, 2], [0, 1], 125), (0, [1], [], 285)], (4000, [1, 2, 9, 10], [5], 202))
theorem c_232w_125_1 {q0 : Nat} : vOkm T0 (eN e_232 L_232w A_232 mu_232 n_232 B_232 (some q0)) 1 g_232w_125_1 := vOk_inI fun ρ η f0 f1 f2 f3 f4 f5 f6 f7 f8 f9 f10 f11 f12 f13 f14 f15 f16 f17 => q_232w_13 (q0 := q0) (n0 := ρ 2) (n1 := ρ 1) (n2 := ρ 0) (n3 := ρ 3) (n4 := ρ 4) (n5 := ρ 5) (n6 := ρ 6) (n7 := ρ 7) (n8 := ρ 8) (n9 := ρ 9) (n10 := ρ 10) (H0 := η 0) (H1 := η 1) (H2 := η 2) (H3 := η 3) (H4 := η 4) (H5 := η 5) f17 f16 f15 f14 f13 f12 f11 f10 f9 f8 f7 f6 f5 f4 f3 f2 f1 f0
theorem q_232w_14 {q0 : Nat} {n0 n1 n2 n3 n4 n5 n6 n7 n8 n9 n10 n11 n12 n13 n14 : Int} {H0 H1 H2 H3 H4 H5 H6 : gH} (f0 : (hLe T0 H0 H1 ∧ hFr s_232.2.2.2.2 H0 H1 ∧ hWt T0 H1) ∧ ((Ab_232_125 n2 n1 n0 H0 H1 ∧ Bb_232_125 n2 n1 n0 H0 H1) ∧ preb_232 n2 H0) ∧ some q0 = some (mub_232_125 n2 n1 n0 H0 H1)) (f1 : n3 = 307) (f2 : n4 ≤ 1) (f3 : 0 ≤ n4) (f4 : n4 = hV H1 (n3).toNat (n0).toNat) (f5 : n5 = 1) (f6 : n4 = n5) (f7 : n6 = 312) (f8 : n7 = 0) (f9 : n8 = 9999) (f10 : (hLe T0 H1 H2 ∧ hFr s_223.2.2.2.2 H1 H2 ∧ ((0 : Int) = 0 → H2.length = H1.length) ∧ hWt T0 H2) ∧ (postb_223 n9 n1 n7 n8 H1 H2 ∧ nb_223 n9 n1 n7 n8 H1 H2)) (f11 : hUpd H3 H2 n6 n0 n9) (f12 : n10 = 45) (f13 : (hLe T0 H3 H4 ∧ hFr s_220.2.2.2.2 H3 H4 ∧ ((0 : Int) = 0 → H4.length = H3.length) ∧ hWt T0 H4) ∧ (postb_220 n1 n10 H3 H4 ∧ nb_220 n1 n10 H3 H4)) (f14 : n11 = 313) (f15 : n12 = 1) (f16 : n13 = 60) (f17 : (hLe T0 H4 H5 ∧ hFr s_223.2.2.2.2 H4 H5 ∧ ((0 : Int) = 0 → H5.length = H4.length) ∧ hWt T0 H5) ∧ (postb_223 n14 n1 n12 n13 H4 H5 ∧ nb_223 n14 n1 n12 n13 H4 H5)) (f18 : hUpd H6 H5 n11 n0 n14) : Bb_232_255 n2 n1 n0 H0 H6 := by
  unfold Bb_232_255
  intro z
  have ga := f0.2.1.1.2
  unfold Bb_232_125 at ga
  obtain ⟨z1, a1, rs, h12, kk⟩ := ga z
  have vz : vwR H1 = vwR H0 := vwR_fr f0.1.2.1 (by decide +kernel)
  have d10 := rdW (q := 307) f4 f1
  have q12 := f6
  have qc11 := f5
  have rg8 := f2
  have rg9 := f3
  have kd : (vwR H0).1 (absR H0).1 = 40 := by omega
  rw [kd] at a1
  have c0 := f10.2.2 z1
  try rw [f8] at c0
  try rw [f9] at c0
  rw [vz, a1] at c0
  have v0 : vwR H2 = vwR H0 := (vwR_fr f10.1.2.1 (by decide +kernel)).trans vz
  have p1 := PR_row (q := 312) f11 f7 (by decide) c0.1
  have v1 : vwR H3 = vwR H0 := p1.2.1.trans v0
  have ah1 : absR H3 = (pnm (vwR H0) 0 9999 (ptk (vwR H0) 40 (absR H0))) := p1.1.trans c0.2
  have c2 := f13.2.2 p1.2.2.1 (by rw [f12]; decide)
  try rw [f12] at c2
  rw [v1, ah1, kmc_45] at c2
  have v2 : vwR H4 = vwR H0 := (vwR_fr f13.1.2.1 (by decide +kernel)).trans v1
  have c3 := f17.2.2 c2.1
  try rw [f15] at c3
  try rw [f16] at c3
  rw [v2, c2.2] at c3
  have v3 : vwR H5 = vwR H0 := (vwR_fr f17.1.2.1 (by decide +kernel)).trans v2
  have p4 := PR_row (q := 313) f18 f14 (by decide) c3.1
  have v4 : vwR H6 = vwR H0 := p4.2.1.trans v3
  have ah4 : absR H6 = (pnm (vwR H0) 1 60 (ptk (vwR H0) 41 (pnm (vwR H0) 0 9999 (ptk (vwR H0) 40 (absR H0))))) := p4.1.trans c3.2
  have rs2 : hV H6 306 = hV H1 306 := (uRowNe f18 306 (by rw [f14]; decide)).trans ((fRow f17.1.2.1 306 (by decide +kernel)).trans ((fRow f13.1.2.1 306 (by decide +kernel)).trans ((uRowNe f11 306 (by rw [f7]; decide)).trans (fRow f10.1.2.1 306 (by decide +kernel)))))
  refine ⟨p4.2.2.1, rs2.trans rs, h12, by omega, ?_⟩
  rw [kd, if_neg (by decide)]
  exact ah4
def g_232w_125_2 : vG := ([(80, [11, 2, 14], [6, 5], 0), (1223, [14, 1, 12, 13], [4, 5], 0), (0, [13], [], 60), (0, [12], [], 1), (0, [11], [], 313), (1220, [1, 10], [3, 4], 0), (0, [10], [], 45), (80, [6, 2, 9], [3, 2], 0), (1223, [9, 1, 7, 8], [1, 2], 0), (0, [8], [], 9999), (0, [7], [], 0), (0, [6], [], 312), (40, [4, 5], [], 0), (0, [5], [], 1), (22, [4, 3, 2], [1], 0), (90, [4], [], 0), (91, [4], [], 1), (0, [3], [], 307), (5000, [0, 1, 2], [0, 1], 125)], (4000, [1, 2], [6], 255))
theorem c_232w_125_2 {q0 : Nat} : vOkm T0 (eN e_232 L_232w A_232 mu_232 n_232 B_232 (some q0)) 1 g_232w_125_2 := vOk_inI fun ρ η f0 f1 f2 f3 f4 f5 f6 f7 f8 f9 f10 f11 f12 f13 f14 f15 f16 f17 f18 => q_232w_14 (q0 := q0) (n0 := ρ 2) (n1 := ρ 1) (n2 := ρ 0) (n3 := ρ 3) (n4 := ρ 4) (n5 := ρ 5) (n6 := ρ 6) (n7 := ρ 7) (n8 := ρ 8) (n9 := ρ 9) (n10 := ρ 10) (n11 := ρ 11) (n12 := ρ 12) (n13 := ρ 13) (n14 := ρ 14) (H0 := η 0) (H1 := η 1) (H2 := η 2) (H3 := η 3) (H4 := η 4) (H5 := η 5) (H6 := η 6) f18 f17 f16 f15 f14 f13 f12 f11 f10 f9 f8 f7 f6 f5 f4 f3 f2 f1 f0
def p_232w_125 : List vG := [g_232w_125_0,
  g_232w_125_1,
  g_232w_125_2]
theorem r_232w_125 : vCovBO (eRc e_232 L_232 cs_232 2000 (125, [(0, (3, 12, 285, 0)), (1, (0, 0, 23, 0))])) p_232w_125 = true := by decide +kernel
theorem q_232w_15 {q0 : Nat} {n0 n1 n2 n3 n4 : Int} {H0 H1 : gH} (f0 : n0 ≤ 1) (f1 : 0 ≤ n0) (f2 : n1 ≤ 1) (f3 : 0 ≤ n1) (f4 : (hLe T0 H0 H1 ∧ hFr s_232.2.2.2.2 H0 H1 ∧ hWt T0 H1) ∧ ((Ab_232_202 n4 n3 n2 n1 n0 H0 H1 ∧ Bb_232_202 n4 n3 n2 n1 n0 H0 H1) ∧ preb_232 n4 H0) ∧ some q0 = some (mub_232_202 n4 n3 n2 n1 n0 H0 H1)) (f5 : n1 = 0) : Bb_232_255 n4 n3 n2 H0 H1 := by
  unfold Bb_232_255
  intro z
  have ga := f4.2.1.1.2
  unfold Bb_232_202 at ga
  obtain ⟨z1, rs, h12, kd, y1, y0⟩ := ga z
  have vz : vwR H1 = vwR H0 := vwR_fr f4.1.2.1 (by decide +kernel)
  have q9 := f5
  have rg0 := f0
  have rg1 := f1
  have rg2 := f2
  have rg3 := f3
  refine ⟨z1, rs, h12, .inl kd, ?_⟩
  rw [if_pos kd]
  exact y0 (by omega)
def g_232w_202_0 : vG := ([(30, [3], [], 0), (5000, [0, 1, 2, 3, 4], [0, 1], 202), (90, [3], [], 0), (91, [3], [], 1), (90, [4], [], 0), (91, [4], [], 1)], (4000, [1, 2], [1], 255))
theorem c_232w_202_0 {q0 : Nat} : vOkm T0 (eN e_232 L_232w A_232 mu_232 n_232 B_232 (some q0)) 1 g_232w_202_0 := vOk_inI fun ρ η f0 f1 f2 f3 f4 f5 => q_232w_15 (q0 := q0) (n0 := ρ 4) (n1 := ρ 3) (n2 := ρ 2) (n3 := ρ 1) (n4 := ρ 0) (H0 := η 0) (H1 := η 1) f5 f4 f3 f2 f1 f0
theorem q_232w_16 {q0 : Nat} {n0 n1 n2 n3 n4 n5 : Int} {H0 H1 : gH} (f0 : n0 ≤ 1) (f1 : 0 ≤ n0) (f2 : n1 ≤ 1) (f3 : 0 ≤ n1) (f4 : n3 = 285) (f5 : (hLe T0 H0 H1 ∧ hFr s_232.2.2.2.2 H0 H1 ∧ hWt T0 H1) ∧ ((Ab_232_202 n4 n3 n2 n1 n0 H0 H1 ∧ Bb_232_202 n4 n3 n2 n1 n0 H0 H1) ∧ preb_232 n4 H0) ∧ some q0 = some (mub_232_202 n4 n3 n2 n1 n0 H0 H1)) (f6 : n1 ≠ 0) (f7 : n5 = hV H1 (n3).toNat 13) (f8 : n5 ≠ 0) : Bb_232_255 n4 n3 n2 H0 H1 := by
  unfold Bb_232_255
  intro z
  have ga := f5.2.1.1.2
  unfold Bb_232_202 at ga
  obtain ⟨z1, rs, h12, kd, y1, y0⟩ := ga z
  have vz : vwR H1 = vwR H0 := vwR_fr f5.1.2.1 (by decide +kernel)
  have d13 := rdS (q := 285) f7 f4
  have q9 := f6
  have q14 := f8
  have rg0 := f0
  have rg1 := f1
  have rg2 := f2
  have rg3 := f3
  obtain ⟨f, _, e⟩ := y1 (by omega)
  have hn := absR_neg z1 (by omega)
  rw [pCond_neg (vwR_ok H0) hn (absR_ok z1)] at e
  refine ⟨z1, rs, h12, .inl kd, ?_⟩
  rw [if_pos kd]
  exact e
def g_232w_202_1 : vG := ([(31, [5], [], 0), (20, [5, 1], [1], 13), (31, [3], [], 0), (5000, [0, 1, 2, 3, 4], [0, 1], 202), (0, [1], [], 285), (90, [3], [], 0), (91, [3], [], 1), (90, [4], [], 0), (91, [4], [], 1)], (4000, [1, 2], [1], 255))
theorem c_232w_202_1 {q0 : Nat} : vOkm T0 (eN e_232 L_232w A_232 mu_232 n_232 B_232 (some q0)) 1 g_232w_202_1 := vOk_inI fun ρ η f0 f1 f2 f3 f4 f5 f6 f7 f8 => q_232w_16 (q0 := q0) (n0 := ρ 4) (n1 := ρ 3) (n2 := ρ 2) (n3 := ρ 1) (n4 := ρ 0) (n5 := ρ 5) (H0 := η 0) (H1 := η 1) f8 f7 f6 f5 f4 f3 f2 f1 f0
theorem q_232w_17 {q0 : Nat} {n2 n3 n4 n7 n8 : Int} {H0 H3 : gH} (f0 : n8 = 1) (f1 : n8 = 0) : Bb_232_202 n4 n3 n2 n8 n7 H0 H3 := by
  unfold Bb_232_202
  intro z
  exfalso
  have dd := f1
  have dc21 := f0
  omega
def g_232w_202_2 : vG := ([(30, [8], [], 0), (0, [8], [], 1)], (4000, [1, 2, 8, 7], [3], 202))
theorem c_232w_202_2 {q0 : Nat} : vOkm T0 (eN e_232 L_232w A_232 mu_232 n_232 B_232 (some q0)) 1 g_232w_202_2 := vOk_inI fun ρ η f0 f1 => q_232w_17 (q0 := q0) (n2 := ρ 2) (n3 := ρ 1) (n4 := ρ 0) (n7 := ρ 7) (n8 := ρ 8) (H0 := η 0) (H3 := η 3) f1 f0
theorem q_232w_18 {q0 : Nat} {n0 n1 n2 n3 n4 n5 n6 n7 n8 : Int} {H0 H1 H2 H3 H4 : gH} (f0 : n0 ≤ 1) (f1 : 0 ≤ n0) (f2 : n1 ≤ 1) (f3 : 0 ≤ n1) (f4 : n3 = 285) (f5 : (hLe T0 H0 H1 ∧ hFr s_232.2.2.2.2 H0 H1 ∧ hWt T0 H1) ∧ ((Ab_232_202 n4 n3 n2 n1 n0 H0 H1 ∧ Bb_232_202 n4 n3 n2 n1 n0 H0 H1) ∧ preb_232 n4 H0) ∧ some q0 = some (mub_232_202 n4 n3 n2 n1 n0 H0 H1)) (f6 : n1 ≠ 0) (f7 : n5 = hV H1 (n3).toNat 13) (f8 : n5 = 0) (f9 : (hLe T0 H1 H2 ∧ hFr s_233.2.2.2.2 H1 H2 ∧ ((0 : Int) = 0 → H2.length = H1.length) ∧ hWt T0 H2) ∧ (postb_233 n3 n0 H1 H2 ∧ nb_233 n3 n0 H1 H2)) (f10 : n6 = 46) (f11 : (hLe T0 H2 H3 ∧ hFr s_216.2.2.2.2 H2 H3 ∧ ((0 : Int) = 0 → H3.length = H2.length) ∧ hWt T0 H3) ∧ postb_216 n7 n3 n6 H2 H3) (f12 : n7 ≠ 0) (f13 : n8 = 1) (f14 : n8 ≠ 0) (f15 : (hLe T0 H3 H4 ∧ hFr s_219.2.2.2.2 H3 H4 ∧ ((0 : Int) = 0 → H4.length = H3.length) ∧ hWt T0 H4) ∧ (postb_219 n3 H3 H4 ∧ nb_219 n3 H3 H4)) : Bb_232_202 n4 n3 n2 n8 n7 H0 H4 := by
  unfold Bb_232_202
  intro z
  have ga := f5.2.1.1.2
  unfold Bb_232_202 at ga
  obtain ⟨z1, rs, h12, kd, y1, y0⟩ := ga z
  have vz : vwR H1 = vwR H0 := vwR_fr f5.1.2.1 (by decide +kernel)
  have d13 := rdS (q := 285) f7 f4
  have q9 := f6
  have q14 := f8
  have q20 := f12
  have q22 := f14
  have rg0 := f0
  have rg1 := f1
  have rg2 := f2
  have rg3 := f3
  have c0 := f9.2.2 z1
  rw [vz] at c0
  have v0 : vwR H2 = vwR H0 := (vwR_fr f9.1.2.1 (by decide +kernel)).trans vz
  have p1 := PR_fr f11.1.2.1 (by decide +kernel) c0.1
  have v1 : vwR H3 = vwR H0 := p1.2.1.trans v0
  have ah1 : absR H3 = (pLit (vwR H0) (absR H1)) := p1.1.trans c0.2
  have i1 := f11.2
  unfold postb_216 at i1
  rw [f10] at i1
  have cm1 := f12
  have b1 := (isR_or (k := 46) p1.2.2.1 (by decide) i1).resolve_right (fun w => cm1 w.1)
  replace b1 := b1.2
  rw [v1, ah1, kmc_46] at b1
  have c2 := f15.2.2 p1.2.2.1 (by rw [v1, ah1]; rw [b1]; decide)
  rw [v1, ah1, b1] at c2
  have v2 : vwR H4 = vwR H0 := (vwR_fr f15.1.2.1 (by decide +kernel)).trans v1
  have rs2 : hV H4 306 = hV H1 306 := (fRow f15.1.2.1 306 (by decide +kernel)).trans ((fRow f11.1.2.1 306 (by decide +kernel)).trans (fRow f9.1.2.1 306 (by decide +kernel)))
  obtain ⟨f, hf, e⟩ := y1 (by omega)
  have lo1 := z1.2.2.2.1
  have fz : hV H1 285 13 = 0 := by omega
  have r5 := absR_500 z1 fz
  have ff := hf r5.1
  rw [show f = (f - 1) + 1 by omega, pCond_step] at e
  have xc := f13
  rw [b1, if_pos (by decide)] at e
  refine ⟨c2.1, rs2.trans rs, h12, kd, fun _ => ⟨f - 1, fun c => ?_, ?_⟩, fun c => absurd (xc.symm.trans c) (by decide)⟩
  · rw [c2.2] at c ⊢
    have n1 := ptkR_next z (c := 42) (s := (pLit (vwR H0) (absR H1)).1) c
    have n2 : (ptk (vwR H0) 42 (pLit (vwR H0) (absR H1))).1 = (pLit (vwR H0) (absR H1)).1 + 1 := n1
    have n3 := pLit_mvR z (absR_ok z1) (pb_tk z c).1
    omega
  · rw [c2.2]
    exact e
def g_232w_202_3 : vG := ([(1219, [1], [3, 4], 0), (31, [8], [], 0), (0, [8], [], 1), (31, [7], [], 0), (1216, [7, 1, 6], [2, 3], 0), (0, [6], [], 46), (1233, [1, 4], [1, 2], 0), (30, [5], [], 0), (20, [5, 1], [1], 13), (31, [3], [], 0), (5000, [0, 1, 2, 3, 4], [0, 1], 202), (0, [1], [], 285), (90, [3], [], 0), (91, [3], [], 1), (90, [4], [], 0), (91, [4], [], 1)], (4000, [1, 2, 8, 7], [4], 202))
theorem c_232w_202_3 {q0 : Nat} : vOkm T0 (eN e_232 L_232w A_232 mu_232 n_232 B_232 (some q0)) 1 g_232w_202_3 := vOk_inI fun ρ η f0 f1 f2 f3 f4 f5 f6 f7 f8 f9 f10 f11 f12 f13 f14 f15 => q_232w_18 (q0 := q0) (n0 := ρ 4) (n1 := ρ 3) (n2 := ρ 2) (n3 := ρ 1) (n4 := ρ 0) (n5 := ρ 5) (n6 := ρ 6) (n7 := ρ 7) (n8 := ρ 8) (H0 := η 0) (H1 := η 1) (H2 := η 2) (H3 := η 3) (H4 := η 4) f15 f14 f13 f12 f11 f10 f9 f8 f7 f6 f5 f4 f3 f2 f1 f0
theorem q_232w_19 {q0 : Nat} {n0 n1 n2 n3 n4 n5 n6 n7 n8 n9 n10 : Int} {H0 H1 H2 H3 H4 : gH} (f0 : n0 ≤ 1) (f1 : 0 ≤ n0) (f2 : n1 ≤ 1) (f3 : 0 ≤ n1) (f4 : n3 = 285) (f5 : (hLe T0 H0 H1 ∧ hFr s_232.2.2.2.2 H0 H1 ∧ hWt T0 H1) ∧ ((Ab_232_202 n4 n3 n2 n1 n0 H0 H1 ∧ Bb_232_202 n4 n3 n2 n1 n0 H0 H1) ∧ preb_232 n4 H0) ∧ some q0 = some (mub_232_202 n4 n3 n2 n1 n0 H0 H1)) (f6 : n1 ≠ 0) (f7 : n5 = hV H1 (n3).toNat 13) (f8 : n5 = 0) (f9 : (hLe T0 H1 H2 ∧ hFr s_233.2.2.2.2 H1 H2 ∧ ((0 : Int) = 0 → H2.length = H1.length) ∧ hWt T0 H2) ∧ (postb_233 n3 n0 H1 H2 ∧ nb_233 n3 n0 H1 H2)) (f10 : n6 = 46) (f11 : (hLe T0 H2 H3 ∧ hFr s_216.2.2.2.2 H2 H3 ∧ ((0 : Int) = 0 → H3.length = H2.length) ∧ hWt T0 H3) ∧ postb_216 n7 n3 n6 H2 H3) (f12 : n7 = 0) (f13 : n8 = 47) (f14 : (hLe T0 H3 H4 ∧ hFr s_216.2.2.2.2 H3 H4 ∧ ((0 : Int) = 0 → H4.length = H3.length) ∧ hWt T0 H4) ∧ postb_216 n9 n3 n8 H3 H4) (f15 : n9 = 0) (f16 : n10 = 0) (f17 : n10 = 0) : Bb_232_202 n4 n3 n2 n10 n7 H0 H4 := by
  unfold Bb_232_202
  intro z
  have ga := f5.2.1.1.2
  unfold Bb_232_202 at ga
  obtain ⟨z1, rs, h12, kd, y1, y0⟩ := ga z
  have vz : vwR H1 = vwR H0 := vwR_fr f5.1.2.1 (by decide +kernel)
  have d13 := rdS (q := 285) f7 f4
  have q9 := f6
  have q14 := f8
  have q20 := f12
  have q25 := f15
  have q27 := f17
  have rg0 := f0
  have rg1 := f1
  have rg2 := f2
  have rg3 := f3
  have c0 := f9.2.2 z1
  rw [vz] at c0
  have v0 : vwR H2 = vwR H0 := (vwR_fr f9.1.2.1 (by decide +kernel)).trans vz
  have p1 := PR_fr f11.1.2.1 (by decide +kernel) c0.1
  have v1 : vwR H3 = vwR H0 := p1.2.1.trans v0
  have ah1 : absR H3 = (pLit (vwR H0) (absR H1)) := p1.1.trans c0.2
  have i1 := f11.2
  unfold postb_216 at i1
  rw [f10] at i1
  have cm1 := f12
  have b1 := (isR_or (k := 46) p1.2.2.1 (by decide) i1).resolve_left (fun w => absurd (w.1.symm.trans cm1) (by decide))
  replace b1 := b1.2
  rw [v1, ah1, kmc_46] at b1
  have p2 := PR_fr f14.1.2.1 (by decide +kernel) p1.2.2.1
  have v2 : vwR H4 = vwR H0 := p2.2.1.trans v1
  have ah2 : absR H4 = (pLit (vwR H0) (absR H1)) := p2.1.trans ah1
  have i2 := f14.2
  unfold postb_216 at i2
  rw [f13] at i2
  have cm2 := f15
  have b2 := (isR_or (k := 47) p2.2.2.1 (by decide) i2).resolve_left (fun w => absurd (w.1.symm.trans cm2) (by decide))
  replace b2 := b2.2
  rw [v2, ah2, kmc_47] at b2
  have rs2 : hV H4 306 = hV H1 306 := (fRow f14.1.2.1 306 (by decide +kernel)).trans ((fRow f11.1.2.1 306 (by decide +kernel)).trans (fRow f9.1.2.1 306 (by decide +kernel)))
  obtain ⟨f, hf, e⟩ := y1 (by omega)
  have lo1 := z1.2.2.2.1
  have fz : hV H1 285 13 = 0 := by omega
  have r5 := absR_500 z1 fz
  have ff := hf r5.1
  rw [show f = (f - 1) + 1 by omega, pCond_step] at e
  have xc := f16
  rw [if_neg (fun c => c.elim b1 b2)] at e
  refine ⟨p2.2.2.1, rs2.trans rs, h12, kd, fun c => absurd (xc.symm.trans c) (by decide), fun _ => ?_⟩
  rw [ah2]
  exact e
def g_232w_202_4 : vG := ([(30, [10], [], 0), (0, [10], [], 0), (30, [9], [], 0), (1216, [9, 1, 8], [3, 4], 0), (0, [8], [], 47), (30, [7], [], 0), (1216, [7, 1, 6], [2, 3], 0), (0, [6], [], 46), (1233, [1, 4], [1, 2], 0), (30, [5], [], 0), (20, [5, 1], [1], 13), (31, [3], [], 0), (5000, [0, 1, 2, 3, 4], [0, 1], 202), (0, [1], [], 285), (90, [3], [], 0), (91, [3], [], 1), (90, [4], [], 0), (91, [4], [], 1)], (4000, [1, 2, 10, 7], [4], 202))
theorem c_232w_202_4 {q0 : Nat} : vOkm T0 (eN e_232 L_232w A_232 mu_232 n_232 B_232 (some q0)) 1 g_232w_202_4 := vOk_inI fun ρ η f0 f1 f2 f3 f4 f5 f6 f7 f8 f9 f10 f11 f12 f13 f14 f15 f16 f17 => q_232w_19 (q0 := q0) (n0 := ρ 4) (n1 := ρ 3) (n2 := ρ 2) (n3 := ρ 1) (n4 := ρ 0) (n5 := ρ 5) (n6 := ρ 6) (n7 := ρ 7) (n8 := ρ 8) (n9 := ρ 9) (n10 := ρ 10) (H0 := η 0) (H1 := η 1) (H2 := η 2) (H3 := η 3) (H4 := η 4) f17 f16 f15 f14 f13 f12 f11 f10 f9 f8 f7 f6 f5 f4 f3 f2 f1 f0
theorem q_232w_20 {q0 : Nat} {n2 n3 n4 n7 n10 : Int} {H0 H5 : gH} (f0 : n10 = 0) (f1 : n10 ≠ 0) : Bb_232_202 n4 n3 n2 n10 n7 H0 H5 := by
  unfold Bb_232_202
  intro z
  exfalso
  have dd := f1
  have dc26 := f0
  omega
def g_232w_202_5 : vG := ([(31, [10], [], 0), (0, [10], [], 0)], (4000, [1, 2, 10, 7], [5], 202))
theorem c_232w_202_5 {q0 : Nat} : vOkm T0 (eN e_232 L_232w A_232 mu_232 n_232 B_232 (some q0)) 1 g_232w_202_5 := vOk_inI fun ρ η f0 f1 => q_232w_20 (q0 := q0) (n2 := ρ 2) (n3 := ρ 1) (n4 := ρ 0) (n7 := ρ 7) (n10 := ρ 10) (H0 := η 0) (H5 := η 5) f1 f0
theorem q_232w_21 {q0 : Nat} {n2 n3 n4 n7 n10 : Int} {H0 H4 : gH} (f0 : n10 = 1) (f1 : n10 = 0) : Bb_232_202 n4 n3 n2 n10 n7 H0 H4 := by
  unfold Bb_232_202
  intro z
  exfalso
  have dd := f1
  have dc26 := f0
  omega
def g_232w_202_6 : vG := ([(30, [10], [], 0), (0, [10], [], 1)], (4000, [1, 2, 10, 7], [4], 202))
theorem c_232w_202_6 {q0 : Nat} : vOkm T0 (eN e_232 L_232w A_232 mu_232 n_232 B_232 (some q0)) 1 g_232w_202_6 := vOk_inI fun ρ η f0 f1 => q_232w_21 (q0 := q0) (n2 := ρ 2) (n3 := ρ 1) (n4 := ρ 0) (n7 := ρ 7) (n10 := ρ 10) (H0 := η 0) (H4 := η 4) f1 f0
theorem q_232w_22 {q0 : Nat} {n0 n1 n2 n3 n4 n5 n6 n7 n8 n9 n10 : Int} {H0 H1 H2 H3 H4 H5 : gH} (f0 : n0 ≤ 1) (f1 : 0 ≤ n0) (f2 : n1 ≤ 1) (f3 : 0 ≤ n1) (f4 : n3 = 285) (f5 : (hLe T0 H0 H1 ∧ hFr s_232.2.2.2.2 H0 H1 ∧ hWt T0 H1) ∧ ((Ab_232_202 n4 n3 n2 n1 n0 H0 H1 ∧ Bb_232_202 n4 n3 n2 n1 n0 H0 H1) ∧ preb_232 n4 H0) ∧ some q0 = some (mub_232_202 n4 n3 n2 n1 n0 H0 H1)) (f6 : n1 ≠ 0) (f7 : n5 = hV H1 (n3).toNat 13) (f8 : n5 = 0) (f9 : (hLe T0 H1 H2 ∧ hFr s_233.2.2.2.2 H1 H2 ∧ ((0 : Int) = 0 → H2.length = H1.length) ∧ hWt T0 H2) ∧ (postb_233 n3 n0 H1 H2 ∧ nb_233 n3 n0 H1 H2)) (f10 : n6 = 46) (f11 : (hLe T0 H2 H3 ∧ hFr s_216.2.2.2.2 H2 H3 ∧ ((0 : Int) = 0 → H3.length = H2.length) ∧ hWt T0 H3) ∧ postb_216 n7 n3 n6 H2 H3) (f12 : n7 = 0) (f13 : n8 = 47) (f14 : (hLe T0 H3 H4 ∧ hFr s_216.2.2.2.2 H3 H4 ∧ ((0 : Int) = 0 → H4.length = H3.length) ∧ hWt T0 H4) ∧ postb_216 n9 n3 n8 H3 H4) (f15 : n9 ≠ 0) (f16 : n10 = 1) (f17 : n10 ≠ 0) (f18 : (hLe T0 H4 H5 ∧ hFr s_219.2.2.2.2 H4 H5 ∧ ((0 : Int) = 0 → H5.length = H4.length) ∧ hWt T0 H5) ∧ (postb_219 n3 H4 H5 ∧ nb_219 n3 H4 H5)) : Bb_232_202 n4 n3 n2 n10 n7 H0 H5 := by
  unfold Bb_232_202
  intro z
  have ga := f5.2.1.1.2
  unfold Bb_232_202 at ga
  obtain ⟨z1, rs, h12, kd, y1, y0⟩ := ga z
  have vz : vwR H1 = vwR H0 := vwR_fr f5.1.2.1 (by decide +kernel)
  have d13 := rdS (q := 285) f7 f4
  have q9 := f6
  have q14 := f8
  have q20 := f12
  have q25 := f15
  have q27 := f17
  have rg0 := f0
  have rg1 := f1
  have rg2 := f2
  have rg3 := f3
  have c0 := f9.2.2 z1
  rw [vz] at c0
  have v0 : vwR H2 = vwR H0 := (vwR_fr f9.1.2.1 (by decide +kernel)).trans vz
  have p1 := PR_fr f11.1.2.1 (by decide +kernel) c0.1
  have v1 : vwR H3 = vwR H0 := p1.2.1.trans v0
  have ah1 : absR H3 = (pLit (vwR H0) (absR H1)) := p1.1.trans c0.2
  have i1 := f11.2
  unfold postb_216 at i1
  rw [f10] at i1
  have cm1 := f12
  have b1 := (isR_or (k := 46) p1.2.2.1 (by decide) i1).resolve_left (fun w => absurd (w.1.symm.trans cm1) (by decide))
  replace b1 := b1.2
  rw [v1, ah1, kmc_46] at b1
  have p2 := PR_fr f14.1.2.1 (by decide +kernel) p1.2.2.1
  have v2 : vwR H4 = vwR H0 := p2.2.1.trans v1
  have ah2 : absR H4 = (pLit (vwR H0) (absR H1)) := p2.1.trans ah1
  have i2 := f14.2
  unfold postb_216 at i2
  rw [f13] at i2
  have cm2 := f15
  have b2 := (isR_or (k := 47) p2.2.2.1 (by decide) i2).resolve_right (fun w => cm2 w.1)
  replace b2 := b2.2
  rw [v2, ah2, kmc_47] at b2
  have c3 := f18.2.2 p2.2.2.1 (by rw [v2, ah2]; rw [b2]; decide)
  rw [v2, ah2, b2] at c3
  have v3 : vwR H5 = vwR H0 := (vwR_fr f18.1.2.1 (by decide +kernel)).trans v2
  have rs2 : hV H5 306 = hV H1 306 := (fRow f18.1.2.1 306 (by decide +kernel)).trans ((fRow f14.1.2.1 306 (by decide +kernel)).trans ((fRow f11.1.2.1 306 (by decide +kernel)).trans (fRow f9.1.2.1 306 (by decide +kernel))))
  obtain ⟨f, hf, e⟩ := y1 (by omega)
  have lo1 := z1.2.2.2.1
  have fz : hV H1 285 13 = 0 := by omega
  have r5 := absR_500 z1 fz
  have ff := hf r5.1
  rw [show f = (f - 1) + 1 by omega, pCond_step] at e
  have xc := f16
  rw [b2, if_pos (by decide)] at e
  refine ⟨c3.1, rs2.trans rs, h12, kd, fun _ => ⟨f - 1, fun c => ?_, ?_⟩, fun c => absurd (xc.symm.trans c) (by decide)⟩
  · rw [c3.2] at c ⊢
    have n1 := ptkR_next z (c := 43) (s := (pLit (vwR H0) (absR H1)).1) c
    have n2 : (ptk (vwR H0) 43 (pLit (vwR H0) (absR H1))).1 = (pLit (vwR H0) (absR H1)).1 + 1 := n1
    have n3 := pLit_mvR z (absR_ok z1) (pb_tk z c).1
    omega
  · rw [c3.2]
    exact e
def g_232w_202_7 : vG := ([(1219, [1], [4, 5], 0), (31, [10], [], 0), (0, [10], [], 1), (31, [9], [], 0), (1216, [9, 1, 8], [3, 4], 0), (0, [8], [], 47), (30, [7], [], 0), (1216, [7, 1, 6], [2, 3], 0), (0, [6], [], 46), (1233, [1, 4], [1, 2], 0), (30, [5], [], 0), (20, [5, 1], [1], 13), (31, [3], [], 0), (5000, [0, 1, 2, 3, 4], [0, 1], 202), (0, [1], [], 285), (90, [3], [], 0), (91, [3], [], 1), (90, [4], [], 0), (91, [4], [], 1)], (4000, [1, 2, 10, 7], [5], 202))
theorem c_232w_202_7 {q0 : Nat} : vOkm T0 (eN e_232 L_232w A_232 mu_232 n_232 B_232 (some q0)) 1 g_232w_202_7 := vOk_inI fun ρ η f0 f1 f2 f3 f4 f5 f6 f7 f8 f9 f10 f11 f12 f13 f14 f15 f16 f17 f18 => q_232w_22 (q0 := q0) (n0 := ρ 4) (n1 := ρ 3) (n2 := ρ 2) (n3 := ρ 1) (n4 := ρ 0) (n5 := ρ 5) (n6 := ρ 6) (n7 := ρ 7) (n8 := ρ 8) (n9 := ρ 9) (n10 := ρ 10) (H0 := η 0) (H1 := η 1) (H2 := η 2) (H3 := η 3) (H4 := η 4) (H5 := η 5) f18 f17 f16 f15 f14 f13 f12 f11 f10 f9 f8 f7 f6 f5 f4 f3 f2 f1 f0
def p_232w_202 : List vG := [g_232w_202_0,
  g_232w_202_1,
  g_232w_202_2,
  g_232w_202_3,
  g_232w_202_4,
  g_232w_202_5,
  g_232w_202_6,
  g_232w_202_7]
theorem r_232w_202 : vCovBO (eRc e_232 L_232 cs_232 2000 (202, [(0, (3, 12, 285, 0)), (1, (0, 0, 23, 0)), (2, (0, 0, 1, 0)), (3, (0, 0, 1, 0))])) p_232w_202 = true := by decide +kernel
theorem q_232w_23 {q0 : Nat} {n0 n1 n2 n3 n4 n5 n6 n7 n8 n9 n10 n11 : Int} {H0 H1 H2 H3 H4 : gH} (f0 : n1 = 285) (f1 : (hLe T0 H0 H1 ∧ hFr s_232.2.2.2.2 H0 H1 ∧ hWt T0 H1) ∧ ((Ab_232_255 n2 n1 n0 H0 H1 ∧ Bb_232_255 n2 n1 n0 H0 H1) ∧ preb_232 n2 H0) ∧ some q0 = some (mub_232_255 n2 n1 n0 H0 H1)) (f2 : n3 = 4) (f3 : (hLe T0 H1 H2 ∧ hFr s_220.2.2.2.2 H1 H2 ∧ ((0 : Int) = 0 → H2.length = H1.length) ∧ hWt T0 H2) ∧ (postb_220 n1 n3 H1 H2 ∧ nb_220 n1 n3 H1 H2)) (f4 : n4 = hV H2 (n1).toNat 13) (f5 : n4 ≤ 0) (f6 : n5 = 311) (f7 : n6 = hV H2 (n1).toNat 44) (f8 : hUpd H3 H2 n5 n0 n6) (f9 : n7 = 306) (f10 : n8 ≤ 1) (f11 : 0 ≤ n8) (f12 : n8 = hV H3 (n1).toNat 35) (f13 : n9 ≤ 12) (f14 : 0 ≤ n9) (f15 : n9 = hV H3 (n7).toNat (n8).toNat) (f16 : n10 = 1) (f17 : n11 = w32 (n9 + n10)) (f18 : hUpd H4 H3 n7 n8 n11) : nb_232 n2 H0 H4 := by
  unfold nb_232
  intro z
  have ga := f1.2.1.1.2
  unfold Bb_232_255 at ga
  obtain ⟨z1, rs, h12, kk, a1⟩ := ga z
  have vz : vwR H1 = vwR H0 := vwR_fr f1.1.2.1 (by decide +kernel)
  have d10 := rdS (q := 285) f4 f0
  have d18 := rdS (q := 285) f7 f0
  have d27 := rdS (q := 285) f12 f0
  have d30 := rdW (q := 306) f15 f9
  have q11 := f5
  have c0 := f3.2.2 z1 (by rw [f2]; decide)
  try rw [f2] at c0
  rw [vz, a1, kmc_4] at c0
  have v0 : vwR H2 = vwR H0 := (vwR_fr f3.1.2.1 (by decide +kernel)).trans vz
  have p1 := PR_row (q := 311) f8 f6 (by decide) c0.1
  have v1 : vwR H3 = vwR H0 := p1.2.1.trans v0
  have ah1 : absR H3 = (ptk (vwR H0) 4 (if ((vwR H0).1 (absR H0).1) = 38 then pRight (vwR H0) (absR H0) else pLoud (vwR H0) (absR H0))) := p1.1.trans c0.2
  have p2 := PR_row (q := 306) f18 f9 (by decide) p1.2.2.1
  have v2 : vwR H4 = vwR H0 := p2.2.1.trans v1
  have ah2 : absR H4 = (ptk (vwR H0) 4 (if ((vwR H0).1 (absR H0).1) = 38 then pRight (vwR H0) (absR H0) else pLoud (vwR H0) (absR H0))) := p2.1.trans ah1
  have lo := c0.1.2.2.2.1
  have e35 : n8 = hV H0 285 35 := by rw [d27, show hV H3 285 35 = hV H1 285 35 from (uPlace f8 285 35 (by rw [f6]; decide)).trans (f3.1.2.1.1 285 35 (by decide +kernel))]; exact f1.1.2.1.1 285 35 (by decide +kernel)
  have r6 : hV H3 306 = hV H1 306 := (uRowNe f8 306 (by rw [f6]; decide)).trans (fRow f3.1.2.1 306 (by decide +kernel))
  have rg24 := f10
  have rg25 := f11
  have rg28 := f13
  have rg29 := f14
  have s32 : n11 = n9 + 1 := by
    have q := f17
    rw [f16] at q
    rw [q]
    exact w32_id (by omega) (by omega)
  have rr := d30
  rw [r6, rs, e35] at rr
  have u1 : hV H4 306 = uF (hV H3 306) n8 n11 := uRow f18 306 f9.symm
  rw [r6, rs] at u1
  refine ⟨p2.2.2.1, .inr (.inr ⟨kk, h12, ah2⟩), fun _ => ?_⟩
  rw [u1, uF_at, if_pos (by omega)]
  omega
def g_232w_255_0 : vG := ([(80, [7, 8, 11], [4, 3], 0), (1, [11, 9, 10], [], 0), (0, [10], [], 1), (22, [9, 7, 8], [3], 0), (90, [9], [], 0), (91, [9], [], 12), (20, [8, 1], [3], 35), (90, [8], [], 0), (91, [8], [], 1), (0, [7], [], 306), (80, [5, 2, 6], [3, 2], 0), (20, [6, 1], [2], 44), (0, [5], [], 311), (35, [4], [], 0), (20, [4, 1], [2], 13), (1220, [1, 3], [1, 2], 0), (0, [3], [], 4), (5000, [0, 1, 2], [0, 1], 255), (0, [1], [], 285)], (3000, [], [4], 291))
theorem c_232w_255_0 {q0 : Nat} : vOkm T0 (eN e_232 L_232w A_232 mu_232 n_232 B_232 (some q0)) 1 g_232w_255_0 := vOk_inI fun ρ η f0 f1 f2 f3 f4 f5 f6 f7 f8 f9 f10 f11 f12 f13 f14 f15 f16 f17 f18 => q_232w_23 (q0 := q0) (n0 := ρ 2) (n1 := ρ 1) (n2 := ρ 0) (n3 := ρ 3) (n4 := ρ 4) (n5 := ρ 5) (n6 := ρ 6) (n7 := ρ 7) (n8 := ρ 8) (n9 := ρ 9) (n10 := ρ 10) (n11 := ρ 11) (H0 := η 0) (H1 := η 1) (H2 := η 2) (H3 := η 3) (H4 := η 4) f18 f17 f16 f15 f14 f13 f12 f11 f10 f9 f8 f7 f6 f5 f4 f3 f2 f1 f0
theorem q_232w_24 {q0 : Nat} {n0 n1 n2 n3 n4 : Int} {H0 H1 H2 : gH} (f0 : n1 = 285) (f1 : (hLe T0 H0 H1 ∧ hFr s_232.2.2.2.2 H0 H1 ∧ hWt T0 H1) ∧ ((Ab_232_255 n2 n1 n0 H0 H1 ∧ Bb_232_255 n2 n1 n0 H0 H1) ∧ preb_232 n2 H0) ∧ some q0 = some (mub_232_255 n2 n1 n0 H0 H1)) (f2 : n3 = 4) (f3 : (hLe T0 H1 H2 ∧ hFr s_220.2.2.2.2 H1 H2 ∧ ((0 : Int) = 0 → H2.length = H1.length) ∧ hWt T0 H2) ∧ (postb_220 n1 n3 H1 H2 ∧ nb_220 n1 n3 H1 H2)) (f4 : n4 = hV H2 (n1).toNat 13) (f5 : 0 < n4) : nb_232 n2 H0 H2 := by
  unfold nb_232
  intro z
  have ga := f1.2.1.1.2
  unfold Bb_232_255 at ga
  obtain ⟨z1, rs, h12, kk, a1⟩ := ga z
  have vz : vwR H1 = vwR H0 := vwR_fr f1.1.2.1 (by decide +kernel)
  have d10 := rdS (q := 285) f4 f0
  have q11 := f5
  have c0 := f3.2.2 z1 (by rw [f2]; decide)
  try rw [f2] at c0
  rw [vz, a1, kmc_4] at c0
  have v0 : vwR H2 = vwR H0 := (vwR_fr f3.1.2.1 (by decide +kernel)).trans vz
  have lo := c0.1.2.2.2.1
  exact ⟨c0.1, .inr (.inr ⟨kk, h12, c0.2⟩), fun c => absurd c (by omega)⟩
def g_232w_255_1 : vG := ([(34, [4], [], 0), (20, [4, 1], [2], 13), (1220, [1, 3], [1, 2], 0), (0, [3], [], 4), (5000, [0, 1, 2], [0, 1], 255), (0, [1], [], 285)], (3000, [], [2], 267))
theorem c_232w_255_1 {q0 : Nat} : vOkm T0 (eN e_232 L_232w A_232 mu_232 n_232 B_232 (some q0)) 1 g_232w_255_1 := vOk_inI fun ρ η f0 f1 f2 f3 f4 f5 => q_232w_24 (q0 := q0) (n0 := ρ 2) (n1 := ρ 1) (n2 := ρ 0) (n3 := ρ 3) (n4 := ρ 4) (H0 := η 0) (H1 := η 1) (H2 := η 2) f5 f4 f3 f2 f1 f0
def p_232w_255 : List vG := [g_232w_255_0,
  g_232w_255_1]
theorem r_232w_255 : vCovBO (eRc e_232 L_232 cs_232 2000 (255, [(0, (3, 12, 285, 0)), (1, (0, 0, 23, 0))])) p_232w_255 = true := by decide +kernel
theorem m_232w (d : Nat) : eC e_232w (d + 6) := eC_ref (e := e_232) (L := L_232) (L' := L_232w) (cs := cs_232) (n := 2000) (d := d + 5) (A := A_232) (μ := mu_232) (tp := false) (p0 := p_232_s) (p1 := p_232w_s) (N := n_232) (B := B_232) rfl ⟨m_216 (d + 4), ⟨m_217w (d + 4), ⟨m_219w (d + 3), ⟨m_220w (d + 2), ⟨m_223w (d + 1), ⟨m_233w d, ⟨m_236w (d + 1), trivial⟩⟩⟩⟩⟩⟩⟩ rfl (.inl rfl) (by decide +kernel) (fun z => nomatch z) r_232_s (allC c_232_s_0 (allC c_232_s_1 (allC c_232_s_2 (allC c_232_s_3 (allC c_232_s_4 (allC c_232_s_5 (allC c_232_s_6 (allC c_232_s_7 (allC c_232_s_8 (allC c_232_s_9 allN)))))))))) (allC (.inl ⟨p_232_53, r_232_53, fun q0 => (allC c_232_53_0 (allC c_232_53_1 (allC c_232_53_2 (allC c_232_53_3 (allC c_232_53_4 (allC c_232_53_5 (allC c_232_53_6 (allC c_232_53_7 (allC c_232_53_8 (allC c_232_53_9 (allC c_232_53_10 (allC c_232_53_11 (allC c_232_53_12 (allC c_232_53_13 allN))))))))))))))⟩) (allC (.inl ⟨p_232_125, r_232_125, fun q0 => (allC c_232_125_0 (allC c_232_125_1 (allC c_232_125_2 (allC c_232_125_3 allN))))⟩) (allC (.inl ⟨p_232_202, r_232_202, fun q0 => (allC c_232_202_0 (allC c_232_202_1 (allC c_232_202_2 (allC c_232_202_3 (allC c_232_202_4 (allC c_232_202_5 (allC c_232_202_6 (allC c_232_202_7 (allC c_232_202_8 allN)))))))))⟩) (allC (.inl ⟨p_232_255, r_232_255, fun q0 => (allC c_232_255_0 (allC c_232_255_1 (allC c_232_255_2 (allC c_232_255_3 allN))))⟩) allN)))) (sub0 (sub1 (sub1 (sub1 (sub1 (sub1 (sub1 trivial))))))) r_232w_s (allC c_232w_s_0 (allC c_232w_s_1 (allC c_232w_s_2 (allC c_232w_s_3 (allC c_232w_s_4 (allC c_232w_s_5 (allC c_232w_s_6 (allC c_232w_s_7 (allC c_232w_s_8 (allC c_232w_s_9 allN)))))))))) (allC ⟨p_232w_53, r_232w_53, fun q0 => (allC c_232w_53_0 (allC c_232w_53_1 allN))⟩ (allC ⟨p_232w_125, r_232w_125, fun q0 => (allC c_232w_125_0 (allC c_232w_125_1 (allC c_232w_125_2 allN)))⟩ (allC ⟨p_232w_202, r_232w_202, fun q0 => (allC c_232w_202_0 (allC c_232w_202_1 (allC c_232w_202_2 (allC c_232w_202_3 (allC c_232w_202_4 (allC c_232w_202_5 (allC c_232w_202_6 (allC c_232w_202_7 allN))))))))⟩ (allC ⟨p_232w_255, r_232w_255, fun q0 => (allC c_232w_255_0 (allC c_232w_255_1 allN))⟩ allN))))
