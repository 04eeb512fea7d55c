/- MixStageModel.tellCue ()V, more fully -/
def nb_227 (a0 : Int) (h0 h : gH) : Prop := RI h0 → (hV h0 285 13 = 0 → ZR h0) → RI h ∧ ((¬ (20 ≤ ((vwR h0).1 (absR h0).1) ∧ ((vwR h0).1 (absR h0).1) ≤ 25) ∧ absR h = pfail (vwR h0) 1 (absR h0)) ∨ (20 ≤ ((vwR h0).1 (absR h0).1) ∧ ((vwR h0).1 (absR h0).1) ≤ 25 ∧ hV h0 296 ((hV h0 285 33).toNat) = 16 ∧ absR h = pfail (vwR h0) 2 (absR h0)) ∨ (20 ≤ ((vwR h0).1 (absR h0).1) ∧ ((vwR h0).1 (absR h0).1) ≤ 25 ∧ ¬ hV h0 296 ((hV h0 285 33).toNat) = 16 ∧ absR h = pCue (vwR h0) (BLr h0) (absR h0))) ∧ (∀ k : Nat, ¬ (k : Int) = hV h0 285 33 → hV h 296 (k) = hV h0 296 (k) ∧ hV h 297 (k) = hV h0 297 (k)) ∧ (hV h 285 13 = 0 → hV h 296 ((hV h0 285 33).toNat) = hV h0 296 ((hV h0 285 33).toNat) + 1 ∧ hV h 297 ((hV h0 285 33).toNat) = pcap (hV h0 297 ((hV h0 285 33).toNat) + pcz (vwR h0) (BLr h0) (absR h0)))
def n_227 : List Int → gH → gH → Prop := fun xs h0 h => match xs with
  | [a0] => nb_227 a0 h0 h
  | _ => True
noncomputable def e_227w : vE := eV e_227 n_227
noncomputable def L_227w : List vE := [e_216, e_217w, e_218w, e_219w, e_220w, e_223w, e_228w, e_229w, e_230w]
def Bb_227_80 (a0 x0 x1 : Int) (h0 h : gH) : Prop := RI h0 → (hV h0 285 13 = 0 → ZR h0) → RI h ∧ absR h = absR h0 ∧ (hV h 296) = (hV h0 296) ∧ (hV h 297) = (hV h0 297) ∧ ((x1 = -1 ∧ ¬ (20 ≤ ((vwR h0).1 (absR h0).1) ∧ ((vwR h0).1 (absR h0).1) ≤ 25)) ∨ (0 ≤ x1 ∧ x1 ≤ 5 ∧ ((vwR h0).1 (absR h0).1) = 20 + x1))
def Bb_227_120 (a0 x0 x1 : Int) (h0 h : gH) : Prop := RI h0 → (hV h0 285 13 = 0 → ZR h0) → RI h ∧ absR h = absR h0 ∧ (hV h 296) = (hV h0 296) ∧ (hV h 297) = (hV h0 297) ∧ 0 ≤ x1 ∧ x1 ≤ 5 ∧ ((vwR h0).1 (absR h0).1) = 20 + x1 ∧ ¬ hV h0 296 ((hV h0 285 33).toNat) = 16
def Bb_227_180 (a0 x0 x1 x2 x3 : Int) (h0 h : gH) : Prop := RI h0 → (hV h0 285 13 = 0 → ZR h0) → RI h ∧ absR h = ptk (vwR h0) (20 + x1) (absR h0) ∧ (hV h 296) = (hV h0 296) ∧ (hV h 297) = (hV h0 297) ∧ 0 ≤ x1 ∧ x1 ≤ 5 ∧ ((vwR h0).1 (absR h0).1) = 20 + x1 ∧ ¬ hV h0 296 ((hV h0 285 33).toNat) = 16
def Bb_227_471 (a0 x0 x1 x2 x3 x4 x5 : Int) (h0 h : gH) : Prop := RI h0 → (hV h0 285 13 = 0 → ZR h0) → RI h ∧ absR h = pTime (vwR h0) (ptk (vwR h0) 26 (ptk (vwR h0) 2 (ptk (vwR h0) 25 (absR h0)))) ∧ (hV h 296) = (hV h0 296) ∧ (hV h 297) = (hV h0 297) ∧ ((vwR h0).1 (absR h0).1) = 25 ∧ ¬ hV h0 296 ((hV h0 285 33).toNat) = 16 ∧ hV h 285 13 = 0 ∧ x4 = (ptk (vwR h0) 25 (absR h0)).1 ∧ hV h 288 ((x4).toNat) = 1 ∧ UQ (ptk (vwR h0) 25 (absR h0)).2 x4 h ∧ 0 ≤ x4 ∧ x4 < hV h 285 11 ∧ -1 ≤ x5 ∧ x5 < hV h0 294 ((hV h0 285 32).toNat) ∧ SRi h0 ((vwR h0).2.2.1 (ptk (vwR h0) 25 (absR h0)).1) x5 (hV h 300 ((x2).toNat))
def Bb_227_567 (a0 x0 x1 x2 x3 : Int) (h0 h : gH) : Prop := RI h0 → (hV h0 285 13 = 0 → ZR h0) → RI h ∧ absR h = pBody (vwR h0) (BLr h0) ((vwR h0).1 (absR h0).1) (ptk (vwR h0) ((vwR h0).1 (absR h0).1) (absR h0)) ∧ (hV h 296) = (hV h0 296) ∧ (hV h 297) = (hV h0 297) ∧ 20 ≤ ((vwR h0).1 (absR h0).1) ∧ ((vwR h0).1 (absR h0).1) ≤ 25 ∧ ¬ hV h0 296 ((hV h0 285 33).toNat) = 16 ∧ (hV h 285 13 = 0 → x3 = pcz (vwR h0) (BLr h0) (absR h0))
def B_227 : Int → List Int → gH → gH → Prop := fun c xs h0 h => match c.toNat with
  | 80 => (match xs with
    | [a0, x0, x1] => Bb_227_80 a0 x0 x1 h0 h
    | _ => False)
  | 120 => (match xs with
    | [a0, x0, x1] => Bb_227_120 a0 x0 x1 h0 h
    | _ => False)
  | 180 => (match xs with
    | [a0, x0, x1, x2, x3] => Bb_227_180 a0 x0 x1 x2 x3 h0 h
    | _ => False)
  | 471 => (match xs with
    | [a0, x0, x1, x2, x3, x4, x5] => Bb_227_471 a0 x0 x1 x2 x3 x4 x5 h0 h
    | _ => False)
  | 567 => (match xs with
    | [a0, x0, x1, x2, x3] => Bb_227_567 a0 x0 x1 x2 x3 h0 h
    | _ => False)
  | _ => True
theorem q_227w_0 {n0 n1 n2 n3 n4 n5 n6 n7 n8 n9 n10 n11 n12 n13 : Int} {H0 H1 H2 H3 H4 H5 H6 : gH} (f0 : n1 = 24) (f1 : (hLe T0 H0 H1 ∧ hFr s_216.2.2.2.2 H0 H1 ∧ ((0 : Int) = 0 → H1.length = H0.length) ∧ hWt T0 H1) ∧ postb_216 n2 n0 n1 H0 H1) (f2 : n2 = 0) (f3 : n3 = 31) (f4 : (hLe T0 H1 H2 ∧ hFr s_216.2.2.2.2 H1 H2 ∧ ((0 : Int) = 0 → H2.length = H1.length) ∧ hWt T0 H2) ∧ postb_216 n4 n0 n3 H1 H2) (f5 : n4 = 0) (f6 : n5 = 33) (f7 : (hLe T0 H2 H3 ∧ hFr s_216.2.2.2.2 H2 H3 ∧ ((0 : Int) = 0 → H3.length = H2.length) ∧ hWt T0 H3) ∧ postb_216 n6 n0 n5 H2 H3) (f8 : n6 = 0) (f9 : n7 = 37) (f10 : (hLe T0 H3 H4 ∧ hFr s_216.2.2.2.2 H3 H4 ∧ ((0 : Int) = 0 → H4.length = H3.length) ∧ hWt T0 H4) ∧ postb_216 n8 n0 n7 H3 H4) (f11 : n8 = 0) (f12 : n9 = 39) (f13 : (hLe T0 H4 H5 ∧ hFr s_216.2.2.2.2 H4 H5 ∧ ((0 : Int) = 0 → H5.length = H4.length) ∧ hWt T0 H5) ∧ postb_216 n10 n0 n9 H4 H5) (f14 : n10 = 0) (f15 : n11 = 40) (f16 : (hLe T0 H5 H6 ∧ hFr s_216.2.2.2.2 H5 H6 ∧ ((0 : Int) = 0 → H6.length = H5.length) ∧ hWt T0 H6) ∧ postb_216 n12 n0 n11 H5 H6) (f17 : n12 = 0) (f18 : n13 = (-1)) : Bb_227_80 n0 n0 n13 H0 H6 := by
  unfold Bb_227_80
  intro z zr
  have p0 := PR_fr f1.1.2.1 (by decide +kernel) z
  have v0 : vwR H1 = vwR H0 := p0.2.1
  have ah0 : absR H1 = (absR H0) := p0.1
  have i0 := f1.2
  unfold postb_216 at i0
  rw [f0] at i0
  have cm0 := f2
  have b0 := (isR_or (k := 24) p0.2.2.1 (by decide) i0).resolve_left (fun w => absurd (w.1.symm.trans cm0) (by decide))
  replace b0 := b0.2
  rw [v0, ah0, kmc_24] at b0
  have p1 := PR_fr f4.1.2.1 (by decide +kernel) p0.2.2.1
  have v1 : vwR H2 = vwR H0 := p1.2.1.trans v0
  have ah1 : absR H2 = (absR H0) := p1.1.trans ah0
  have i1 := f4.2
  unfold postb_216 at i1
  rw [f3] at i1
  have cm1 := f5
  have b1 := (isR_or (k := 31) p1.2.2.1 (by decide) i1).resolve_left (fun w => absurd (w.1.symm.trans cm1) (by decide))
  replace b1 := b1.2
  rw [v1, ah1, kmc_31] at b1
  have p2 := PR_fr f7.1.2.1 (by decide +kernel) p1.2.2.1
  have v2 : vwR H3 = vwR H0 := p2.2.1.trans v1
  have ah2 : absR H3 = (absR H0) := p2.1.trans ah1
  have i2 := f7.2
  unfold postb_216 at i2
  rw [f6] at i2
  have cm2 := f8
  have b2 := (isR_or (k := 33) p2.2.2.1 (by decide) i2).resolve_left (fun w => absurd (w.1.symm.trans cm2) (by decide))
  replace b2 := b2.2
  rw [v2, ah2, kmc_33] at b2
  have p3 := PR_fr f10.1.2.1 (by decide +kernel) p2.2.2.1
  have v3 : vwR H4 = vwR H0 := p3.2.1.trans v2
  have ah3 : absR H4 = (absR H0) := p3.1.trans ah2
  have i3 := f10.2
  unfold postb_216 at i3
  rw [f9] at i3
  have cm3 := f11
  have b3 := (isR_or (k := 37) p3.2.2.1 (by decide) i3).resolve_left (fun w => absurd (w.1.symm.trans cm3) (by decide))
  replace b3 := b3.2
  rw [v3, ah3, kmc_37] at b3
  have p4 := PR_fr f13.1.2.1 (by decide +kernel) p3.2.2.1
  have v4 : vwR H5 = vwR H0 := p4.2.1.trans v3
  have ah4 : absR H5 = (absR H0) := p4.1.trans ah3
  have i4 := f13.2
  unfold postb_216 at i4
  rw [f12] at i4
  have cm4 := f14
  have b4 := (isR_or (k := 39) p4.2.2.1 (by decide) i4).resolve_left (fun w => absurd (w.1.symm.trans cm4) (by decide))
  replace b4 := b4.2
  rw [v4, ah4, kmc_39] at b4
  have p5 := PR_fr f16.1.2.1 (by decide +kernel) p4.2.2.1
  have v5 : vwR H6 = vwR H0 := p5.2.1.trans v4
  have ah5 : absR H6 = (absR H0) := p5.1.trans ah4
  have i5 := f16.2
  unfold postb_216 at i5
  rw [f15] at i5
  have cm5 := f17
  have b5 := (isR_or (k := 40) p5.2.2.1 (by decide) i5).resolve_left (fun w => absurd (w.1.symm.trans cm5) (by decide))
  replace b5 := b5.2
  rw [v5, ah5, kmc_40] at b5
  have pm : hV H6 296 = hV H0 296 := (fRow f16.1.2.1 296 (by decide +kernel)).trans ((fRow f13.1.2.1 296 (by decide +kernel)).trans ((fRow f10.1.2.1 296 (by decide +kernel)).trans ((fRow f7.1.2.1 296 (by decide +kernel)).trans ((fRow f4.1.2.1 296 (by decide +kernel)).trans (fRow f1.1.2.1 296 (by decide +kernel))))))
  have ps : hV H6 297 = hV H0 297 := (fRow f16.1.2.1 297 (by decide +kernel)).trans ((fRow f13.1.2.1 297 (by decide +kernel)).trans ((fRow f10.1.2.1 297 (by decide +kernel)).trans ((fRow f7.1.2.1 297 (by decide +kernel)).trans ((fRow f4.1.2.1 297 (by decide +kernel)).trans (fRow f1.1.2.1 297 (by decide +kernel))))))
  have xc := f18
  exact ⟨p5.2.2.1, ah5, pm, ps, .inl ⟨xc, by omega⟩⟩
def g_227w_s_0 : vG := ([(0, [13], [], -1), (30, [12], [], 0), (1216, [12, 0, 11], [5, 6], 0), (0, [11], [], 40), (30, [10], [], 0), (1216, [10, 0, 9], [4, 5], 0), (0, [9], [], 39), (30, [8], [], 0), (1216, [8, 0, 7], [3, 4], 0), (0, [7], [], 37), (30, [6], [], 0), (1216, [6, 0, 5], [2, 3], 0), (0, [5], [], 33), (30, [4], [], 0), (1216, [4, 0, 3], [1, 2], 0), (0, [3], [], 31), (30, [2], [], 0), (1216, [2, 0, 1], [0, 1], 0), (0, [1], [], 24)], (4000, [0, 13], [6], 80))
theorem c_227w_s_0 : vOkm T0 (eN e_227 L_227w A_227 mu_227 n_227 B_227 none) 1 g_227w_s_0 := vOk_inI fun ρ η f0 f1 f2 f3 f4 f5 f6 f7 f8 f9 f10 f11 f12 f13 f14 f15 f16 f17 f18 => q_227w_0 (n0 := ρ 0) (n1 := ρ 1) (n2 := ρ 2) (n3 := ρ 3) (n4 := ρ 4) (n5 := ρ 5) (n6 := ρ 6) (n7 := ρ 7) (n8 := ρ 8) (n9 := ρ 9) (n10 := ρ 10) (n11 := ρ 11) (n12 := ρ 12) (n13 := ρ 13) (H0 := η 0) (H1 := η 1) (H2 := η 2) (H3 := η 3) (H4 := η 4) (H5 := η 5) (H6 := η 6) f18 f17 f16 f15 f14 f13 f12 f11 f10 f9 f8 f7 f6 f5 f4 f3 f2 f1 f0
theorem q_227w_1 {n0 n1 n2 n3 n4 n5 n6 n7 n8 n9 n10 n11 n12 n13 : Int} {H0 H1 H2 H3 H4 H5 H6 : gH} (f0 : n1 = 24) (f1 : (hLe T0 H0 H1 ∧ hFr s_216.2.2.2.2 H0 H1 ∧ ((0 : Int) = 0 → H1.length = H0.length) ∧ hWt T0 H1) ∧ postb_216 n2 n0 n1 H0 H1) (f2 : n2 = 0) (f3 : n3 = 31) (f4 : (hLe T0 H1 H2 ∧ hFr s_216.2.2.2.2 H1 H2 ∧ ((0 : Int) = 0 → H2.length = H1.length) ∧ hWt T0 H2) ∧ postb_216 n4 n0 n3 H1 H2) (f5 : n4 = 0) (f6 : n5 = 33) (f7 : (hLe T0 H2 H3 ∧ hFr s_216.2.2.2.2 H2 H3 ∧ ((0 : Int) = 0 → H3.length = H2.length) ∧ hWt T0 H3) ∧ postb_216 n6 n0 n5 H2 H3) (f8 : n6 = 0) (f9 : n7 = 37) (f10 : (hLe T0 H3 H4 ∧ hFr s_216.2.2.2.2 H3 H4 ∧ ((0 : Int) = 0 → H4.length = H3.length) ∧ hWt T0 H4) ∧ postb_216 n8 n0 n7 H3 H4) (f11 : n8 = 0) (f12 : n9 = 39) (f13 : (hLe T0 H4 H5 ∧ hFr s_216.2.2.2.2 H4 H5 ∧ ((0 : Int) = 0 → H5.length = H4.length) ∧ hWt T0 H5) ∧ postb_216 n10 n0 n9 H4 H5) (f14 : n10 = 0) (f15 : n11 = 40) (f16 : (hLe T0 H5 H6 ∧ hFr s_216.2.2.2.2 H5 H6 ∧ ((0 : Int) = 0 → H6.length = H5.length) ∧ hWt T0 H6) ∧ postb_216 n12 n0 n11 H5 H6) (f17 : n12 ≠ 0) (f18 : n13 = 5) : Bb_227_80 n0 n0 n13 H0 H6 := by
  unfold Bb_227_80
  intro z zr
  have p0 := PR_fr f1.1.2.1 (by decide +kernel) z
  have v0 : vwR H1 = vwR H0 := p0.2.1
  have ah0 : absR H1 = (absR H0) := p0.1
  have i0 := f1.2
  unfold postb_216 at i0
  rw [f0] at i0
  have cm0 := f2
  have b0 := (isR_or (k := 24) p0.2.2.1 (by decide) i0).resolve_left (fun w => absurd (w.1.symm.trans cm0) (by decide))
  replace b0 := b0.2
  rw [v0, ah0, kmc_24] at b0
  have p1 := PR_fr f4.1.2.1 (by decide +kernel) p0.2.2.1
  have v1 : vwR H2 = vwR H0 := p1.2.1.trans v0
  have ah1 : absR H2 = (absR H0) := p1.1.trans ah0
  have i1 := f4.2
  unfold postb_216 at i1
  rw [f3] at i1
  have cm1 := f5
  have b1 := (isR_or (k := 31) p1.2.2.1 (by decide) i1).resolve_left (fun w => absurd (w.1.symm.trans cm1) (by decide))
  replace b1 := b1.2
  rw [v1, ah1, kmc_31] at b1
  have p2 := PR_fr f7.1.2.1 (by decide +kernel) p1.2.2.1
  have v2 : vwR H3 = vwR H0 := p2.2.1.trans v1
  have ah2 : absR H3 = (absR H0) := p2.1.trans ah1
  have i2 := f7.2
  unfold postb_216 at i2
  rw [f6] at i2
  have cm2 := f8
  have b2 := (isR_or (k := 33) p2.2.2.1 (by decide) i2).resolve_left (fun w => absurd (w.1.symm.trans cm2) (by decide))
  replace b2 := b2.2
  rw [v2, ah2, kmc_33] at b2
  have p3 := PR_fr f10.1.2.1 (by decide +kernel) p2.2.2.1
  have v3 : vwR H4 = vwR H0 := p3.2.1.trans v2
  have ah3 : absR H4 = (absR H0) := p3.1.trans ah2
  have i3 := f10.2
  unfold postb_216 at i3
  rw [f9] at i3
  have cm3 := f11
  have b3 := (isR_or (k := 37) p3.2.2.1 (by decide) i3).resolve_left (fun w => absurd (w.1.symm.trans cm3) (by decide))
  replace b3 := b3.2
  rw [v3, ah3, kmc_37] at b3
  have p4 := PR_fr f13.1.2.1 (by decide +kernel) p3.2.2.1
  have v4 : vwR H5 = vwR H0 := p4.2.1.trans v3
  have ah4 : absR H5 = (absR H0) := p4.1.trans ah3
  have i4 := f13.2
  unfold postb_216 at i4
  rw [f12] at i4
  have cm4 := f14
  have b4 := (isR_or (k := 39) p4.2.2.1 (by decide) i4).resolve_left (fun w => absurd (w.1.symm.trans cm4) (by decide))
  replace b4 := b4.2
  rw [v4, ah4, kmc_39] at b4
  have p5 := PR_fr f16.1.2.1 (by decide +kernel) p4.2.2.1
  have v5 : vwR H6 = vwR H0 := p5.2.1.trans v4
  have ah5 : absR H6 = (absR H0) := p5.1.trans ah4
  have i5 := f16.2
  unfold postb_216 at i5
  rw [f15] at i5
  have cm5 := f17
  have b5 := (isR_or (k := 40) p5.2.2.1 (by decide) i5).resolve_right (fun w => cm5 w.1)
  replace b5 := b5.2
  rw [v5, ah5, kmc_40] at b5
  have pm : hV H6 296 = hV H0 296 := (fRow f16.1.2.1 296 (by decide +kernel)).trans ((fRow f13.1.2.1 296 (by decide +kernel)).trans ((fRow f10.1.2.1 296 (by decide +kernel)).trans ((fRow f7.1.2.1 296 (by decide +kernel)).trans ((fRow f4.1.2.1 296 (by decide +kernel)).trans (fRow f1.1.2.1 296 (by decide +kernel))))))
  have ps : hV H6 297 = hV H0 297 := (fRow f16.1.2.1 297 (by decide +kernel)).trans ((fRow f13.1.2.1 297 (by decide +kernel)).trans ((fRow f10.1.2.1 297 (by decide +kernel)).trans ((fRow f7.1.2.1 297 (by decide +kernel)).trans ((fRow f4.1.2.1 297 (by decide +kernel)).trans (fRow f1.1.2.1 297 (by decide +kernel))))))
  have xc := f18
  exact ⟨p5.2.2.1, ah5, pm, ps, .inr ⟨by omega, by omega, by omega⟩⟩
def g_227w_s_1 : vG := ([(0, [13], [], 5), (31, [12], [], 0), (1216, [12, 0, 11], [5, 6], 0), (0, [11], [], 40), (30, [10], [], 0), (1216, [10, 0, 9], [4, 5], 0), (0, [9], [], 39), (30, [8], [], 0), (1216, [8, 0, 7], [3, 4], 0), (0, [7], [], 37), (30, [6], [], 0), (1216, [6, 0, 5], [2, 3], 0), (0, [5], [], 33), (30, [4], [], 0), (1216, [4, 0, 3], [1, 2], 0), (0, [3], [], 31), (30, [2], [], 0), (1216, [2, 0, 1], [0, 1], 0), (0, [1], [], 24)], (4000, [0, 13], [6], 80))
theorem c_227w_s_1 : vOkm T0 (eN e_227 L_227w A_227 mu_227 n_227 B_227 none) 1 g_227w_s_1 := vOk_inI fun ρ η f0 f1 f2 f3 f4 f5 f6 f7 f8 f9 f10 f11 f12 f13 f14 f15 f16 f17 f18 => q_227w_1 (n0 := ρ 0) (n1 := ρ 1) (n2 := ρ 2) (n3 := ρ 3) (n4 := ρ 4) (n5 := ρ 5) (n6 := ρ 6) (n7 := ρ 7) (n8 := ρ 8) (n9 := ρ 9) (n10 := ρ 10) (n11 := ρ 11) (n12 := ρ 12) (n13 := ρ 13) (H0 := η 0) (H1 := η 1) (H2 := η 2) (H3 := η 3) (H4 := η 4) (H5 := η 5) (H6 := η 6) f18 f17 f16 f15 f14 f13 f12 f11 f10 f9 f8 f7 f6 f5 f4 f3 f2 f1 f0
theorem q_227w_2 {n0 n1 n2 n3 n4 n5 n6 n7 n8 n9 n10 n11 : Int} {H0 H1 H2 H3 H4 H5 : gH} (f0 : n1 = 24) (f1 : (hLe T0 H0 H1 ∧ hFr s_216.2.2.2.2 H0 H1 ∧ ((0 : Int) = 0 → H1.length = H0.length) ∧ hWt T0 H1) ∧ postb_216 n2 n0 n1 H0 H1) (f2 : n2 = 0) (f3 : n3 = 31) (f4 : (hLe T0 H1 H2 ∧ hFr s_216.2.2.2.2 H1 H2 ∧ ((0 : Int) = 0 → H2.length = H1.length) ∧ hWt T0 H2) ∧ postb_216 n4 n0 n3 H1 H2) (f5 : n4 = 0) (f6 : n5 = 33) (f7 : (hLe T0 H2 H3 ∧ hFr s_216.2.2.2.2 H2 H3 ∧ ((0 : Int) = 0 → H3.length = H2.length) ∧ hWt T0 H3) ∧ postb_216 n6 n0 n5 H2 H3) (f8 : n6 = 0) (f9 : n7 = 37) (f10 : (hLe T0 H3 H4 ∧ hFr s_216.2.2.2.2 H3 H4 ∧ ((0 : Int) = 0 → H4.length = H3.length) ∧ hWt T0 H4) ∧ postb_216 n8 n0 n7 H3 H4) (f11 : n8 = 0) (f12 : n9 = 39) (f13 : (hLe T0 H4 H5 ∧ hFr s_216.2.2.2.2 H4 H5 ∧ ((0 : Int) = 0 → H5.length = H4.length) ∧ hWt T0 H5) ∧ postb_216 n10 n0 n9 H4 H5) (f14 : n10 ≠ 0) (f15 : n11 = 4) : Bb_227_80 n0 n0 n11 H0 H5 := by
  unfold Bb_227_80
  intro z zr
  have p0 := PR_fr f1.1.2.1 (by decide +kernel) z
  have v0 : vwR H1 = vwR H0 := p0.2.1
  have ah0 : absR H1 = (absR H0) := p0.1
  have i0 := f1.2
  unfold postb_216 at i0
  rw [f0] at i0
  have cm0 := f2
  have b0 := (isR_or (k := 24) p0.2.2.1 (by decide) i0).resolve_left (fun w => absurd (w.1.symm.trans cm0) (by decide))
  replace b0 := b0.2
  rw [v0, ah0, kmc_24] at b0
  have p1 := PR_fr f4.1.2.1 (by decide +kernel) p0.2.2.1
  have v1 : vwR H2 = vwR H0 := p1.2.1.trans v0
  have ah1 : absR H2 = (absR H0) := p1.1.trans ah0
  have i1 := f4.2
  unfold postb_216 at i1
  rw [f3] at i1
  have cm1 := f5
  have b1 := (isR_or (k := 31) p1.2.2.1 (by decide) i1).resolve_left (fun w => absurd (w.1.symm.trans cm1) (by decide))
  replace b1 := b1.2
  rw [v1, ah1, kmc_31] at b1
  have p2 := PR_fr f7.1.2.1 (by decide +kernel) p1.2.2.1
  have v2 : vwR H3 = vwR H0 := p2.2.1.trans v1
  have ah2 : absR H3 = (absR H0) := p2.1.trans ah1
  have i2 := f7.2
  unfold postb_216 at i2
  rw [f6] at i2
  have cm2 := f8
  have b2 := (isR_or (k := 33) p2.2.2.1 (by decide) i2).resolve_left (fun w => absurd (w.1.symm.trans cm2) (by decide))
  replace b2 := b2.2
  rw [v2, ah2, kmc_33] at b2
  have p3 := PR_fr f10.1.2.1 (by decide +kernel) p2.2.2.1
  have v3 : vwR H4 = vwR H0 := p3.2.1.trans v2
  have ah3 : absR H4 = (absR H0) := p3.1.trans ah2
  have i3 := f10.2
  unfold postb_216 at i3
  rw [f9] at i3
  have cm3 := f11
  have b3 := (isR_or (k := 37) p3.2.2.1 (by decide) i3).resolve_left (fun w => absurd (w.1.symm.trans cm3) (by decide))
  replace b3 := b3.2
  rw [v3, ah3, kmc_37] at b3
  have p4 := PR_fr f13.1.2.1 (by decide +kernel) p3.2.2.1
  have v4 : vwR H5 = vwR H0 := p4.2.1.trans v3
  have ah4 : absR H5 = (absR H0) := p4.1.trans ah3
  have i4 := f13.2
  unfold postb_216 at i4
  rw [f12] at i4
  have cm4 := f14
  have b4 := (isR_or (k := 39) p4.2.2.1 (by decide) i4).resolve_right (fun w => cm4 w.1)
  replace b4 := b4.2
  rw [v4, ah4, kmc_39] at b4
  have pm : hV H5 296 = hV H0 296 := (fRow f13.1.2.1 296 (by decide +kernel)).trans ((fRow f10.1.2.1 296 (by decide +kernel)).trans ((fRow f7.1.2.1 296 (by decide +kernel)).trans ((fRow f4.1.2.1 296 (by decide +kernel)).trans (fRow f1.1.2.1 296 (by decide +kernel)))))
  have ps : hV H5 297 = hV H0 297 := (fRow f13.1.2.1 297 (by decide +kernel)).trans ((fRow f10.1.2.1 297 (by decide +kernel)).trans ((fRow f7.1.2.1 297 (by decide +kernel)).trans ((fRow f4.1.2.1 297 (by decide +kernel)).trans (fRow f1.1.2.1 297 (by decide +kernel)))))
  have xc := f15
  exact ⟨p4.2.2.1, ah4, pm, ps, .inr ⟨by omega, by omega, by omega⟩⟩
def g_227w_s_2 : vG := ([(0, [11], [], 4), (31, [10], [], 0), (1216, [10, 0, 9], [4, 5], 0), (0, [9], [], 39), (30, [8], [], 0), (1216, [8, 0, 7], [3, 4], 0), (0, [7], [], 37), (30, [6], [], 0), (1216, [6, 0, 5], [2, 3], 0), (0, [5], [], 33), (30, [4], [], 0), (1216, [4, 0, 3], [1, 2], 0), (0, [3], [], 31), (30, [2], [], 0), (1216, [2, 0, 1], [0, 1], 0), (0, [1], [], 24)], (4000, [0, 11], [5], 80))
theorem c_227w_s_2 : vOkm T0 (eN e_227 L_227w A_227 mu_227 n_227 B_227 none) 1 g_227w_s_2 := vOk_inI fun ρ η f0 f1 f2 f3 f4 f5 f6 f7 f8 f9 f10 f11 f12 f13 f14 f15 => q_227w_2 (n0 := ρ 0) (n1 := ρ 1) (n2 := ρ 2) (n3 := ρ 3) (n4 := ρ 4) (n5 := ρ 5) (n6 := ρ 6) (n7 := ρ 7) (n8 := ρ 8) (n9 := ρ 9) (n10 := ρ 10) (n11 := ρ 11) (H0 := η 0) (H1 := η 1) (H2 := η 2) (H3 := η 3) (H4 := η 4) (H5 := η 5) f15 f14 f13 f12 f11 f10 f9 f8 f7 f6 f5 f4 f3 f2 f1 f0
theorem q_227w_3 {n0 n1 n2 n3 n4 n5 n6 n7 n8 n9 : Int} {H0 H1 H2 H3 H4 : gH} (f0 : n1 = 24) (f1 : (hLe T0 H0 H1 ∧ hFr s_216.2.2.2.2 H0 H1 ∧ ((0 : Int) = 0 → H1.length = H0.length) ∧ hWt T0 H1) ∧ postb_216 n2 n0 n1 H0 H1) (f2 : n2 = 0) (f3 : n3 = 31) (f4 : (hLe T0 H1 H2 ∧ hFr s_216.2.2.2.2 H1 H2 ∧ ((0 : Int) = 0 → H2.length = H1.length) ∧ hWt T0 H2) ∧ postb_216 n4 n0 n3 H1 H2) (f5 : n4 = 0) (f6 : n5 = 33) (f7 : (hLe T0 H2 H3 ∧ hFr s_216.2.2.2.2 H2 H3 ∧ ((0 : Int) = 0 → H3.length = H2.length) ∧ hWt T0 H3) ∧ postb_216 n6 n0 n5 H2 H3) (f8 : n6 = 0) (f9 : n7 = 37) (f10 : (hLe T0 H3 H4 ∧ hFr s_216.2.2.2.2 H3 H4 ∧ ((0 : Int) = 0 → H4.length = H3.length) ∧ hWt T0 H4) ∧ postb_216 n8 n0 n7 H3 H4) (f11 : n8 ≠ 0) (f12 : n9 = 3) : Bb_227_80 n0 n0 n9 H0 H4 := by
  unfold Bb_227_80
  intro z zr
  have p0 := PR_fr f1.1.2.1 (by decide +kernel) z
  have v0 : vwR H1 = vwR H0 := p0.2.1
  have ah0 : absR H1 = (absR H0) := p0.1
  have i0 := f1.2
  unfold postb_216 at i0
  rw [f0] at i0
  have cm0 := f2
  have b0 := (isR_or (k := 24) p0.2.2.1 (by decide) i0).resolve_left (fun w => absurd (w.1.symm.trans cm0) (by decide))
  replace b0 := b0.2
  rw [v0, ah0, kmc_24] at b0
  have p1 := PR_fr f4.1.2.1 (by decide +kernel) p0.2.2.1
  have v1 : vwR H2 = vwR H0 := p1.2.1.trans v0
  have ah1 : absR H2 = (absR H0) := p1.1.trans ah0
  have i1 := f4.2
  unfold postb_216 at i1
  rw [f3] at i1
  have cm1 := f5
  have b1 := (isR_or (k := 31) p1.2.2.1 (by decide) i1).resolve_left (fun w => absurd (w.1.symm.trans cm1) (by decide))
  replace b1 := b1.2
  rw [v1, ah1, kmc_31] at b1
  have p2 := PR_fr f7.1.2.1 (by decide +kernel) p1.2.2.1
  have v2 : vwR H3 = vwR H0 := p2.2.1.trans v1
  have ah2 : absR H3 = (absR H0) := p2.1.trans ah1
  have i2 := f7.2
  unfold postb_216 at i2
  rw [f6] at i2
  have cm2 := f8
  have b2 := (isR_or (k := 33) p2.2.2.1 (by decide) i2).resolve_left (fun w => absurd (w.1.symm.trans cm2) (by decide))
  replace b2 := b2.2
  rw [v2, ah2, kmc_33] at b2
  have p3 := PR_fr f10.1.2.1 (by decide +kernel) p2.2.2.1
  have v3 : vwR H4 = vwR H0 := p3.2.1.trans v2
  have ah3 : absR H4 = (absR H0) := p3.1.trans ah2
  have i3 := f10.2
  unfold postb_216 at i3
  rw [f9] at i3
  have cm3 := f11
  have b3 := (isR_or (k := 37) p3.2.2.1 (by decide) i3).resolve_right (fun w => cm3 w.1)
  replace b3 := b3.2
  rw [v3, ah3, kmc_37] at b3
  have pm : hV H4 296 = hV H0 296 := (fRow f10.1.2.1 296 (by decide +kernel)).trans ((fRow f7.1.2.1 296 (by decide +kernel)).trans ((fRow f4.1.2.1 296 (by decide +kernel)).trans (fRow f1.1.2.1 296 (by decide +kernel))))
  have ps : hV H4 297 = hV H0 297 := (fRow f10.1.2.1 297 (by decide +kernel)).trans ((fRow f7.1.2.1 297 (by decide +kernel)).trans ((fRow f4.1.2.1 297 (by decide +kernel)).trans (fRow f1.1.2.1 297 (by decide +kernel))))
  have xc := f12
  exact ⟨p3.2.2.1, ah3, pm, ps, .inr ⟨by omega, by omega, by omega⟩⟩
def g_227w_s_3 : vG := ([(0, [9], [], 3), (31, [8], [], 0), (1216, [8, 0, 7], [3, 4], 0), (0, [7], [], 37), (30, [6], [], 0), (1216, [6, 0, 5], [2, 3], 0), (0, [5], [], 33), (30, [4], [], 0), (1216, [4, 0, 3], [1, 2], 0), (0, [3], [], 31), (30, [2], [], 0), (1216, [2, 0, 1], [0, 1], 0), (0, [1], [], 24)], (4000, [0, 9], [4], 80))
theorem c_227w_s_3 : vOkm T0 (eN e_227 L_227w A_227 mu_227 n_227 B_227 none) 1 g_227w_s_3 := vOk_inI fun ρ η f0 f1 f2 f3 f4 f5 f6 f7 f8 f9 f10 f11 f12 => q_227w_3 (n0 := ρ 0) (n1 := ρ 1) (n2 := ρ 2) (n3 := ρ 3) (n4 := ρ 4) (n5 := ρ 5) (n6 := ρ 6) (n7 := ρ 7) (n8 := ρ 8) (n9 := ρ 9) (H0 := η 0) (H1 := η 1) (H2 := η 2) (H3 := η 3) (H4 := η 4) f12 f11 f10 f9 f8 f7 f6 f5 f4 f3 f2 f1 f0
theorem q_227w_4 {n0 n1 n2 n3 n4 n5 n6 n7 : Int} {H0 H1 H2 H3 : gH} (f0 : n1 = 24) (f1 : (hLe T0 H0 H1 ∧ hFr s_216.2.2.2.2 H0 H1 ∧ ((0 : Int) = 0 → H1.length = H0.length) ∧ hWt T0 H1) ∧ postb_216 n2 n0 n1 H0 H1) (f2 : n2 = 0) (f3 : n3 = 31) (f4 : (hLe T0 H1 H2 ∧ hFr s_216.2.2.2.2 H1 H2 ∧ ((0 : Int) = 0 → H2.length = H1.length) ∧ hWt T0 H2) ∧ postb_216 n4 n0 n3 H1 H2) (f5 : n4 = 0) (f6 : n5 = 33) (f7 : (hLe T0 H2 H3 ∧ hFr s_216.2.2.2.2 H2 H3 ∧ ((0 : Int) = 0 → H3.length = H2.length) ∧ hWt T0 H3) ∧ postb_216 n6 n0 n5 H2 H3) (f8 : n6 ≠ 0) (f9 : n7 = 2) : Bb_227_80 n0 n0 n7 H0 H3 := by
  unfold Bb_227_80
  intro z zr
  have p0 := PR_fr f1.1.2.1 (by decide +kernel) z
  have v0 : vwR H1 = vwR H0 := p0.2.1
  have ah0 : absR H1 = (absR H0) := p0.1
  have i0 := f1.2
  unfold postb_216 at i0
  rw [f0] at i0
  have cm0 := f2
  have b0 := (isR_or (k := 24) p0.2.2.1 (by decide) i0).resolve_left (fun w => absurd (w.1.symm.trans cm0) (by decide))
  replace b0 := b0.2
  rw [v0, ah0, kmc_24] at b0
  have p1 := PR_fr f4.1.2.1 (by decide +kernel) p0.2.2.1
  have v1 : vwR H2 = vwR H0 := p1.2.1.trans v0
  have ah1 : absR H2 = (absR H0) := p1.1.trans ah0
  have i1 := f4.2
  unfold postb_216 at i1
  rw [f3] at i1
  have cm1 := f5
  have b1 := (isR_or (k := 31) p1.2.2.1 (by decide) i1).resolve_left (fun w => absurd (w.1.symm.trans cm1) (by decide))
  replace b1 := b1.2
  rw [v1, ah1, kmc_31] at b1
  have p2 := PR_fr f7.1.2.1 (by decide +kernel) p1.2.2.1
  have v2 : vwR H3 = vwR H0 := p2.2.1.trans v1
  have ah2 : absR H3 = (absR H0) := p2.1.trans ah1
  have i2 := f7.2
  unfold postb_216 at i2
  rw [f6] at i2
  have cm2 := f8
  have b2 := (isR_or (k := 33) p2.2.2.1 (by decide) i2).resolve_right (fun w => cm2 w.1)
  replace b2 := b2.2
  rw [v2, ah2, kmc_33] at b2
  have pm : hV H3 296 = hV H0 296 := (fRow f7.1.2.1 296 (by decide +kernel)).trans ((fRow f4.1.2.1 296 (by decide +kernel)).trans (fRow f1.1.2.1 296 (by decide +kernel)))
  have ps : hV H3 297 = hV H0 297 := (fRow f7.1.2.1 297 (by decide +kernel)).trans ((fRow f4.1.2.1 297 (by decide +kernel)).trans (fRow f1.1.2.1 297 (by decide +kernel)))
  have xc := f9
  exact ⟨p2.2.2.1, ah2, pm, ps, .inr ⟨by omega, by omega, by omega⟩⟩
def g_227w_s_4 : vG := ([(0, [7], [], 2), (31, [6], [], 0), (1216, [6, 0, 5], [2, 3], 0), (0, [5], [], 33), (30, [4], [], 0), (1216, [4, 0, 3], [1, 2], 0), (0, [3], [], 31), (30, [2], [], 0), (1216, [2, 0, 1], [0, 1], 0), (0, [1], [], 24)], (4000, [0, 7], [3], 80))
theorem c_227w_s_4 : vOkm T0 (eN e_227 L_227w A_227 mu_227 n_227 B_227 none) 1 g_227w_s_4 := vOk_inI fun ρ η f0 f1 f2 f3 f4 f5 f6 f7 f8 f9 => q_227w_4 (n0 := ρ 0) (n1 := ρ 1) (n2 := ρ 2) (n3 := ρ 3) (n4 := ρ 4) (n5 := ρ 5) (n6 := ρ 6) (n7 := ρ 7) (H0 := η 0) (H1 := η 1) (H2 := η 2) (H3 := η 3) f9 f8 f7 f6 f5 f4 f3 f2 f1 f0
theorem q_227w_5 {n0 n1 n2 n3 n4 n5 : Int} {H0 H1 H2 : gH} (f0 : n1 = 24) (f1 : (hLe T0 H0 H1 ∧ hFr s_216.2.2.2.2 H0 H1 ∧ ((0 : Int) = 0 → H1.length = H0.length) ∧ hWt T0 H1) ∧ postb_216 n2 n0 n1 H0 H1) (f2 : n2 = 0) (f3 : n3 = 31) (f4 : (hLe T0 H1 H2 ∧ hFr s_216.2.2.2.2 H1 H2 ∧ ((0 : Int) = 0 → H2.length = H1.length) ∧ hWt T0 H2) ∧ postb_216 n4 n0 n3 H1 H2) (f5 : n4 ≠ 0) (f6 : n5 = 1) : Bb_227_80 n0 n0 n5 H0 H2 := by
  unfold Bb_227_80
  intro z zr
  have p0 := PR_fr f1.1.2.1 (by decide +kernel) z
  have v0 : vwR H1 = vwR H0 := p0.2.1
  have ah0 : absR H1 = (absR H0) := p0.1
  have i0 := f1.2
  unfold postb_216 at i0
  rw [f0] at i0
  have cm0 := f2
  have b0 := (isR_or (k := 24) p0.2.2.1 (by decide) i0).resolve_left (fun w => absurd (w.1.symm.trans cm0) (by decide))
  replace b0 := b0.2
  rw [v0, ah0, kmc_24] at b0
  have p1 := PR_fr f4.1.2.1 (by decide +kernel) p0.2.2.1
  have v1 : vwR H2 = vwR H0 := p1.2.1.trans v0
  have ah1 : absR H2 = (absR H0) := p1.1.trans ah0
  have i1 := f4.2
  unfold postb_216 at i1
  rw [f3] at i1
  have cm1 := f5
  have b1 := (isR_or (k := 31) p1.2.2.1 (by decide) i1).resolve_right (fun w => cm1 w.1)
  replace b1 := b1.2
  rw [v1, ah1, kmc_31] at b1
  have pm : hV H2 296 = hV H0 296 := (fRow f4.1.2.1 296 (by decide +kernel)).trans (fRow f1.1.2.1 296 (by decide +kernel))
  have ps : hV H2 297 = hV H0 297 := (fRow f4.1.2.1 297 (by decide +kernel)).trans (fRow f1.1.2.1 297 (by decide +kernel))
  have xc := f6
  exact ⟨p1.2.2.1, ah1, pm, ps, .inr ⟨by omega, by omega, by omega⟩⟩
def g_227w_s_5 : vG := ([(0, [5], [], 1), (31, [4], [], 0), (1216, [4, 0, 3], [1, 2], 0), (0, [3], [], 31), (30, [2], [], 0), (1216, [2, 0, 1], [0, 1], 0), (0, [1], [], 24)], (4000, [0, 5], [2], 80))
theorem c_227w_s_5 : vOkm T0 (eN e_227 L_227w A_227 mu_227 n_227 B_227 none) 1 g_227w_s_5 := vOk_inI fun ρ η f0 f1 f2 f3 f4 f5 f6 => q_227w_5 (n0 := ρ 0) (n1 := ρ 1) (n2 := ρ 2) (n3 := ρ 3) (n4 := ρ 4) (n5 := ρ 5) (H0 := η 0) (H1 := η 1) (H2 := η 2) f6 f5 f4 f3 f2 f1 f0
theorem q_227w_6 {n0 n1 n2 n3 : Int} {H0 H1 : gH} (f0 : n1 = 24) (f1 : (hLe T0 H0 H1 ∧ hFr s_216.2.2.2.2 H0 H1 ∧ ((0 : Int) = 0 → H1.length = H0.length) ∧ hWt T0 H1) ∧ postb_216 n2 n0 n1 H0 H1) (f2 : n2 ≠ 0) (f3 : n3 = 0) : Bb_227_80 n0 n0 n3 H0 H1 := by
  unfold Bb_227_80
  intro z zr
  have p0 := PR_fr f1.1.2.1 (by decide +kernel) z
  have v0 : vwR H1 = vwR H0 := p0.2.1
  have ah0 : absR H1 = (absR H0) := p0.1
  have i0 := f1.2
  unfold postb_216 at i0
  rw [f0] at i0
  have cm0 := f2
  have b0 := (isR_or (k := 24) p0.2.2.1 (by decide) i0).resolve_right (fun w => cm0 w.1)
  replace b0 := b0.2
  rw [v0, ah0, kmc_24] at b0
  have pm : hV H1 296 = hV H0 296 := fRow f1.1.2.1 296 (by decide +kernel)
  have ps : hV H1 297 = hV H0 297 := fRow f1.1.2.1 297 (by decide +kernel)
  have xc := f3
  exact ⟨p0.2.2.1, ah0, pm, ps, .inr ⟨by omega, by omega, by omega⟩⟩
def g_227w_s_6 : vG := ([(0, [3], [], 0), (31, [2], [], 0), (1216, [2, 0, 1], [0, 1], 0), (0, [1], [], 24)], (4000, [0, 3], [1], 80))
theorem c_227w_s_6 : vOkm T0 (eN e_227 L_227w A_227 mu_227 n_227 B_227 none) 1 g_227w_s_6 := vOk_inI fun ρ η f0 f1 f2 f3 => q_227w_6 (n0 := ρ 0) (n1 := ρ 1) (n2 := ρ 2) (n3 := ρ 3) (H0 := η 0) (H1 := η 1) f3 f2 f1 f0
def p_227w_s : List vG := [g_227w_s_0,
  g_227w_s_1,
  g_227w_s_2,
  g_227w_s_3,
  g_227w_s_4,
  g_227w_s_5,
  g_227w_s_6]
theorem r_227w_s : vCovBO (eR0 e_227 L_227 cs_227 2000) p_227w_s = true := by decide +kernel
theorem q_227w_7 {q0 : Nat} {n0 n1 n2 n3 n4 n5 n6 n7 n8 : Int} {H0 H1 : gH} (f0 : n1 = 285) (f1 : (hLe T0 H0 H1 ∧ hFr s_227.2.2.2.2 H0 H1 ∧ hWt T0 H1) ∧ ((Ab_227_80 n2 n1 n0 H0 H1 ∧ Bb_227_80 n2 n1 n0 H0 H1) ∧ preb_227 n2 H0) ∧ some q0 = some (mub_227_80 n2 n1 n0 H0 H1)) (f2 : n3 = (-1)) (f3 : n0 ≠ n3) (f4 : n4 = 296) (f5 : n5 = hV H1 (n1).toNat 33) (f6 : n6 = hV H1 (n4).toNat (n5).toNat) (f7 : n7 = 16) (f8 : n6 ≠ n7) (f9 : n8 = hV H1 (n1).toNat 13) (f10 : n8 ≤ 0) : Bb_227_120 n2 n1 n0 H0 H1 := by
  unfold Bb_227_120
  intro z zr
  have ga := f1.2.1.1.2
  unfold Bb_227_80 at ga
  obtain ⟨z1, a1, pm, ps, k⟩ := ga z zr
  have vz : vwR H1 = vwR H0 := vwR_fr f1.1.2.1 (by decide +kernel)
  have fx : hV H1 285 33 = hV H0 285 33 := f1.1.2.1.1 285 33 (by decide +kernel)
  have d13 := rdS (q := 285) f5 f0
  have d16 := rdW (q := 296) f6 f4
  have d22 := rdS (q := 285) f9 f0
  have q6 := f3
  have qc5 := f2
  have q18 := f8
  have qc17 := f7
  have q23 := f10
  rw [pm, d13, fx] at d16
  exact ⟨z1, a1, pm, ps, by omega, by omega, by omega, by omega⟩
def g_227w_80_0 : vG := ([(35, [8], [], 0), (20, [8, 1], [1], 13), (41, [6, 7], [], 0), (0, [7], [], 16), (22, [6, 4, 5], [1], 0), (20, [5, 1], [1], 33), (0, [4], [], 296), (41, [2, 3], [], 0), (0, [3], [], -1), (5000, [0, 1, 2], [0, 1], 80), (0, [1], [], 285)], (4000, [1, 2], [1], 120))
theorem c_227w_80_0 {q0 : Nat} : vOkm T0 (eN e_227 L_227w A_227 mu_227 n_227 B_227 (some q0)) 1 g_227w_80_0 := vOk_inI fun ρ η f0 f1 f2 f3 f4 f5 f6 f7 f8 f9 f10 => q_227w_7 (q0 := q0) (n0 := ρ 2) (n1 := ρ 1) (n2 := ρ 0) (n3 := ρ 3) (n4 := ρ 4) (n5 := ρ 5) (n6 := ρ 6) (n7 := ρ 7) (n8 := ρ 8) (H0 := η 0) (H1 := η 1) f10 f9 f8 f7 f6 f5 f4 f3 f2 f1 f0
theorem q_227w_8 {q0 : Nat} {n0 n1 n2 n3 n4 n5 n6 n7 n8 : Int} {H0 H1 : gH} (f0 : n1 = 285) (f1 : (hLe T0 H0 H1 ∧ hFr s_227.2.2.2.2 H0 H1 ∧ hWt T0 H1) ∧ ((Ab_227_80 n2 n1 n0 H0 H1 ∧ Bb_227_80 n2 n1 n0 H0 H1) ∧ preb_227 n2 H0) ∧ some q0 = some (mub_227_80 n2 n1 n0 H0 H1)) (f2 : n3 = (-1)) (f3 : n0 ≠ n3) (f4 : n4 = 296) (f5 : n5 = hV H1 (n1).toNat 33) (f6 : n6 = hV H1 (n4).toNat (n5).toNat) (f7 : n7 = 16) (f8 : n6 ≠ n7) (f9 : n8 = hV H1 (n1).toNat 13) (f10 : 0 < n8) : nb_227 n2 H0 H1 := by
  unfold nb_227
  intro z zr
  have ga := f1.2.1.1.2
  unfold Bb_227_80 at ga
  obtain ⟨z1, a1, pm, ps, k⟩ := ga z zr
  have vz : vwR H1 = vwR H0 := vwR_fr f1.1.2.1 (by decide +kernel)
  have fx : hV H1 285 33 = hV H0 285 33 := f1.1.2.1.1 285 33 (by decide +kernel)
  have d13 := rdS (q := 285) f5 f0
  have d16 := rdW (q := 296) f6 f4
  have d22 := rdS (q := 285) f9 f0
  have q6 := f3
  have qc5 := f2
  have q18 := f8
  have qc17 := f7
  have q23 := f10
  rw [pm, d13, fx] at d16
  exfalso
  have hn := absR_neg z1 (by omega)
  rw [a1] at hn
  have kk := vwR_ok H0 _ hn
  omega
def g_227w_80_1 : vG := ([(34, [8], [], 0), (20, [8, 1], [1], 13), (41, [6, 7], [], 0), (0, [7], [], 16), (22, [6, 4, 5], [1], 0), (20, [5, 1], [1], 33), (0, [4], [], 296), (41, [2, 3], [], 0), (0, [3], [], -1), (5000, [0, 1, 2], [0, 1], 80), (0, [1], [], 285)], (3000, [], [1], 119))
theorem c_227w_80_1 {q0 : Nat} : vOkm T0 (eN e_227 L_227w A_227 mu_227 n_227 B_227 (some q0)) 1 g_227w_80_1 := vOk_inI fun ρ η f0 f1 f2 f3 f4 f5 f6 f7 f8 f9 f10 => q_227w_8 (q0 := q0) (n0 := ρ 2) (n1 := ρ 1) (n2 := ρ 0) (n3 := ρ 3) (n4 := ρ 4) (n5 := ρ 5) (n6 := ρ 6) (n7 := ρ 7) (n8 := ρ 8) (H0 := η 0) (H1 := η 1) f10 f9 f8 f7 f6 f5 f4 f3 f2 f1 f0
theorem q_227w_9 {q0 : Nat} {n0 n1 n2 n3 n4 n5 n6 n7 n8 n9 : Int} {H0 H1 H2 : gH} (f0 : n1 = 285) (f1 : (hLe T0 H0 H1 ∧ hFr s_227.2.2.2.2 H0 H1 ∧ hWt T0 H1) ∧ ((Ab_227_80 n2 n1 n0 H0 H1 ∧ Bb_227_80 n2 n1 n0 H0 H1) ∧ preb_227 n2 H0) ∧ some q0 = some (mub_227_80 n2 n1 n0 H0 H1)) (f2 : n3 = (-1)) (f3 : n0 ≠ n3) (f4 : n4 = 296) (f5 : n5 = hV H1 (n1).toNat 33) (f6 : n6 = hV H1 (n4).toNat (n5).toNat) (f7 : n7 = 16) (f8 : n6 = n7) (f9 : n8 = 2) (f10 : (hLe T0 H1 H2 ∧ hFr s_217.2.2.2.2 H1 H2 ∧ ((0 : Int) = 0 → H2.length = H1.length) ∧ hWt T0 H2) ∧ (postb_217 n1 n8 H1 H2 ∧ nb_217 n1 n8 H1 H2)) (f11 : n9 = hV H2 (n1).toNat 13) (f12 : n9 ≤ 0) : Bb_227_120 n2 n1 n0 H0 H2 := by
  unfold Bb_227_120
  intro z zr
  have ga := f1.2.1.1.2
  unfold Bb_227_80 at ga
  obtain ⟨z1, a1, pm, ps, k⟩ := ga z zr
  have vz : vwR H1 = vwR H0 := vwR_fr f1.1.2.1 (by decide +kernel)
  have fx : hV H1 285 33 = hV H0 285 33 := f1.1.2.1.1 285 33 (by decide +kernel)
  have d13 := rdS (q := 285) f5 f0
  have d16 := rdW (q := 296) f6 f4
  have d24 := rdS (q := 285) f11 f0
  have q6 := f3
  have qc5 := f2
  have q18 := f8
  have qc17 := f7
  have q25 := f12
  rw [pm, d13, fx] at d16
  have c0 := f10.2.2 z1
  try rw [f9] at c0
  rw [vz, a1] at c0
  have v0 : vwR H2 = vwR H0 := (vwR_fr f10.1.2.1 (by decide +kernel)).trans vz
  have hn := faultR_of c0.1 (by rw [c0.2]; exact pfailR_lt z (by decide))
  have lo := c0.1.2.2.2.1
  have pm2 : hV H2 296 = hV H1 296 := fRow f10.1.2.1 296 (by decide +kernel)
  have ps2 : hV H2 297 = hV H1 297 := fRow f10.1.2.1 297 (by decide +kernel)
  exfalso
  omega
def g_227w_80_2 : vG := ([(35, [9], [], 0), (20, [9, 1], [2], 13), (1217, [1, 8], [1, 2], 0), (0, [8], [], 2), (40, [6, 7], [], 0), (0, [7], [], 16), (22, [6, 4, 5], [1], 0), (20, [5, 1], [1], 33), (0, [4], [], 296), (41, [2, 3], [], 0), (0, [3], [], -1), (5000, [0, 1, 2], [0, 1], 80), (0, [1], [], 285)], (4000, [1, 2], [2], 120))
theorem c_227w_80_2 {q0 : Nat} : vOkm T0 (eN e_227 L_227w A_227 mu_227 n_227 B_227 (some q0)) 1 g_227w_80_2 := vOk_inI fun ρ η f0 f1 f2 f3 f4 f5 f6 f7 f8 f9 f10 f11 f12 => q_227w_9 (q0 := q0) (n0 := ρ 2) (n1 := ρ 1) (n2 := ρ 0) (n3 := ρ 3) (n4 := ρ 4) (n5 := ρ 5) (n6 := ρ 6) (n7 := ρ 7) (n8 := ρ 8) (n9 := ρ 9) (H0 := η 0) (H1 := η 1) (H2 := η 2) f12 f11 f10 f9 f8 f7 f6 f5 f4 f3 f2 f1 f0
theorem q_227w_10 {q0 : Nat} {n0 n1 n2 n3 n4 n5 n6 n7 n8 n9 : Int} {H0 H1 H2 : gH} (f0 : n1 = 285) (f1 : (hLe T0 H0 H1 ∧ hFr s_227.2.2.2.2 H0 H1 ∧ hWt T0 H1) ∧ ((Ab_227_80 n2 n1 n0 H0 H1 ∧ Bb_227_80 n2 n1 n0 H0 H1) ∧ preb_227 n2 H0) ∧ some q0 = some (mub_227_80 n2 n1 n0 H0 H1)) (f2 : n3 = (-1)) (f3 : n0 ≠ n3) (f4 : n4 = 296) (f5 : n5 = hV H1 (n1).toNat 33) (f6 : n6 = hV H1 (n4).toNat (n5).toNat) (f7 : n7 = 16) (f8 : n6 = n7) (f9 : n8 = 2) (f10 : (hLe T0 H1 H2 ∧ hFr s_217.2.2.2.2 H1 H2 ∧ ((0 : Int) = 0 → H2.length = H1.length) ∧ hWt T0 H2) ∧ (postb_217 n1 n8 H1 H2 ∧ nb_217 n1 n8 H1 H2)) (f11 : n9 = hV H2 (n1).toNat 13) (f12 : 0 < n9) : nb_227 n2 H0 H2 := by
  unfold nb_227
  intro z zr
  have ga := f1.2.1.1.2
  unfold Bb_227_80 at ga
  obtain ⟨z1, a1, pm, ps, k⟩ := ga z zr
  have vz : vwR H1 = vwR H0 := vwR_fr f1.1.2.1 (by decide +kernel)
  have fx : hV H1 285 33 = hV H0 285 33 := f1.1.2.1.1 285 33 (by decide +kernel)
  have d13 := rdS (q := 285) f5 f0
  have d16 := rdW (q := 296) f6 f4
  have d24 := rdS (q := 285) f11 f0
  have q6 := f3
  have qc5 := f2
  have q18 := f8
  have qc17 := f7
  have q25 := f12
  rw [pm, d13, fx] at d16
  have c0 := f10.2.2 z1
  try rw [f9] at c0
  rw [vz, a1] at c0
  have v0 : vwR H2 = vwR H0 := (vwR_fr f10.1.2.1 (by decide +kernel)).trans vz
  have hn := faultR_of c0.1 (by rw [c0.2]; exact pfailR_lt z (by decide))
  have lo := c0.1.2.2.2.1
  have pm2 : hV H2 296 = hV H1 296 := fRow f10.1.2.1 296 (by decide +kernel)
  have ps2 : hV H2 297 = hV H1 297 := fRow f10.1.2.1 297 (by decide +kernel)
  refine ⟨c0.1, .inr (.inl ⟨by omega, by omega, by omega, c0.2⟩), fun k _ => ⟨by rw [pm2, pm], by rw [ps2, ps]⟩, fun c => absurd c hn⟩
def g_227w_80_3 : vG := ([(34, [9], [], 0), (20, [9, 1], [2], 13), (1217, [1, 8], [1, 2], 0), (0, [8], [], 2), (40, [6, 7], [], 0), (0, [7], [], 16), (22, [6, 4, 5], [1], 0), (20, [5, 1], [1], 33), (0, [4], [], 296), (41, [2, 3], [], 0), (0, [3], [], -1), (5000, [0, 1, 2], [0, 1], 80), (0, [1], [], 285)], (3000, [], [2], 119))
theorem c_227w_80_3 {q0 : Nat} : vOkm T0 (eN e_227 L_227w A_227 mu_227 n_227 B_227 (some q0)) 1 g_227w_80_3 := vOk_inI fun ρ η f0 f1 f2 f3 f4 f5 f6 f7 f8 f9 f10 f11 f12 => q_227w_10 (q0 := q0) (n0 := ρ 2) (n1 := ρ 1) (n2 := ρ 0) (n3 := ρ 3) (n4 := ρ 4) (n5 := ρ 5) (n6 := ρ 6) (n7 := ρ 7) (n8 := ρ 8) (n9 := ρ 9) (H0 := η 0) (H1 := η 1) (H2 := η 2) f12 f11 f10 f9 f8 f7 f6 f5 f4 f3 f2 f1 f0
theorem q_227w_11 {q0 : Nat} {n0 n1 n2 n3 n4 n5 : Int} {H0 H1 H2 : gH} (f0 : n1 = 285) (f1 : (hLe T0 H0 H1 ∧ hFr s_227.2.2.2.2 H0 H1 ∧ hWt T0 H1) ∧ ((Ab_227_80 n2 n1 n0 H0 H1 ∧ Bb_227_80 n2 n1 n0 H0 H1) ∧ preb_227 n2 H0) ∧ some q0 = some (mub_227_80 n2 n1 n0 H0 H1)) (f2 : n3 = (-1)) (f3 : n0 = n3) (f4 : n4 = 1) (f5 : (hLe T0 H1 H2 ∧ hFr s_217.2.2.2.2 H1 H2 ∧ ((0 : Int) = 0 → H2.length = H1.length) ∧ hWt T0 H2) ∧ (postb_217 n1 n4 H1 H2 ∧ nb_217 n1 n4 H1 H2)) (f6 : n5 = hV H2 (n1).toNat 13) (f7 : n5 ≤ 0) : Bb_227_120 n2 n1 n0 H0 H2 := by
  unfold Bb_227_120
  intro z zr
  have ga := f1.2.1.1.2
  unfold Bb_227_80 at ga
  obtain ⟨z1, a1, pm, ps, k⟩ := ga z zr
  have vz : vwR H1 = vwR H0 := vwR_fr f1.1.2.1 (by decide +kernel)
  have fx : hV H1 285 33 = hV H0 285 33 := f1.1.2.1.1 285 33 (by decide +kernel)
  have d12 := rdS (q := 285) f6 f0
  have q6 := f3
  have qc5 := f2
  have q13 := f7
  have c0 := f5.2.2 z1
  try rw [f4] at c0
  rw [vz, a1] at c0
  have v0 : vwR H2 = vwR H0 := (vwR_fr f5.1.2.1 (by decide +kernel)).trans vz
  have hn := faultR_of c0.1 (by rw [c0.2]; exact pfailR_lt z (by decide))
  have lo := c0.1.2.2.2.1
  have pm2 : hV H2 296 = hV H1 296 := fRow f5.1.2.1 296 (by decide +kernel)
  have ps2 : hV H2 297 = hV H1 297 := fRow f5.1.2.1 297 (by decide +kernel)
  exfalso
  omega
def g_227w_80_4 : vG := ([(35, [5], [], 0), (20, [5, 1], [2], 13), (1217, [1, 4], [1, 2], 0), (0, [4], [], 1), (40, [2, 3], [], 0), (0, [3], [], -1), (5000, [0, 1, 2], [0, 1], 80), (0, [1], [], 285)], (4000, [1, 2], [2], 120))
theorem c_227w_80_4 {q0 : Nat} : vOkm T0 (eN e_227 L_227w A_227 mu_227 n_227 B_227 (some q0)) 1 g_227w_80_4 := vOk_inI fun ρ η f0 f1 f2 f3 f4 f5 f6 f7 => q_227w_11 (q0 := q0) (n0 := ρ 2) (n1 := ρ 1) (n2 := ρ 0) (n3 := ρ 3) (n4 := ρ 4) (n5 := ρ 5) (H0 := η 0) (H1 := η 1) (H2 := η 2) f7 f6 f5 f4 f3 f2 f1 f0
theorem q_227w_12 {q0 : Nat} {n0 n1 n2 n3 n4 n5 : Int} {H0 H1 H2 : gH} (f0 : n1 = 285) (f1 : (hLe T0 H0 H1 ∧ hFr s_227.2.2.2.2 H0 H1 ∧ hWt T0 H1) ∧ ((Ab_227_80 n2 n1 n0 H0 H1 ∧ Bb_227_80 n2 n1 n0 H0 H1) ∧ preb_227 n2 H0) ∧ some q0 = some (mub_227_80 n2 n1 n0 H0 H1)) (f2 : n3 = (-1)) (f3 : n0 = n3) (f4 : n4 = 1) (f5 : (hLe T0 H1 H2 ∧ hFr s_217.2.2.2.2 H1 H2 ∧ ((0 : Int) = 0 → H2.length = H1.length) ∧ hWt T0 H2) ∧ (postb_217 n1 n4 H1 H2 ∧ nb_217 n1 n4 H1 H2)) (f6 : n5 = hV H2 (n1).toNat 13) (f7 : 0 < n5) : nb_227 n2 H0 H2 := by
  unfold nb_227
  intro z zr
  have ga := f1.2.1.1.2
  unfold Bb_227_80 at ga
  obtain ⟨z1, a1, pm, ps, k⟩ := ga z zr
  have vz : vwR H1 = vwR H0 := vwR_fr f1.1.2.1 (by decide +kernel)
  have fx : hV H1 285 33 = hV H0 285 33 := f1.1.2.1.1 285 33 (by decide +kernel)
  have d12 := rdS (q := 285) f6 f0
  have q6 := f3
  have qc5 := f2
  have q13 := f7
  have c0 := f5.2.2 z1
  try rw [f4] at c0
  rw [vz, a1] at c0
  have v0 : vwR H2 = vwR H0 := (vwR_fr f5.1.2.1 (by decide +kernel)).trans vz
  have hn := faultR_of c0.1 (by rw [c0.2]; exact pfailR_lt z (by decide))
  have lo := c0.1.2.2.2.1
  have pm2 : hV H2 296 = hV H1 296 := fRow f5.1.2.1 296 (by decide +kernel)
  have ps2 : hV H2 297 = hV H1 297 := fRow f5.1.2.1 297 (by decide +kernel)
  refine ⟨c0.1, .inl ⟨by omega, c0.2⟩, fun k _ => ⟨by rw [pm2, pm], by rw [ps2, ps]⟩, fun c => absurd c hn⟩
def g_227w_80_5 : vG := ([(34, [5], [], 0), (20, [5, 1], [2], 13), (1217, [1, 4], [1, 2], 0), (0, [4], [], 1), (40, [2, 3], [], 0), (0, [3], [], -1), (5000, [0, 1, 2], [0, 1], 80), (0, [1], [], 285)], (3000, [], [2], 119))
theorem c_227w_80_5 {q0 : Nat} : vOkm T0 (eN e_227 L_227w A_227 mu_227 n_227 B_227 (some q0)) 1 g_227w_80_5 := vOk_inI fun ρ η f0 f1 f2 f3 f4 f5 f6 f7 => q_227w_12 (q0 := q0) (n0 := ρ 2) (n1 := ρ 1) (n2 := ρ 0) (n3 := ρ 3) (n4 := ρ 4) (n5 := ρ 5) (H0 := η 0) (H1 := η 1) (H2 := η 2) f7 f6 f5 f4 f3 f2 f1 f0
def p_227w_80 : List vG := [g_227w_80_0,
  g_227w_80_1,
  g_227w_80_2,
  g_227w_80_3,
  g_227w_80_4,
  g_227w_80_5]
theorem r_227w_80 : vCovBO (eRc e_227 L_227 cs_227 2000 (80, [(0, (3, 12, 285, 0)), (1, (0, -1, 5, 0))])) p_227w_80 = true := by decide +kernel
theorem q_227w_13 {q0 : Nat} {n0 n1 n2 n9 n10 n11 n14 n15 n16 n17 n18 n19 : Int} {H0 H1 H2 H3 H4 H5 H6 : gH} (f0 : (hLe T0 H0 H1 ∧ hFr s_227.2.2.2.2 H0 H1 ∧ hWt T0 H1) ∧ ((Ab_227_120 n2 n1 n0 H0 H1 ∧ Bb_227_120 n2 n1 n0 H0 H1) ∧ preb_227 n2 H0) ∧ some q0 = some (mub_227_120 n2 n1 n0 H0 H1)) (f1 : n10 = 298) (f2 : hUpd H2 H1 n10 n9 n0) (f3 : n11 = 299) (f4 : hUpd H3 H2 n11 n9 n14) (f5 : n15 = 301) (f6 : hUpd H4 H3 n15 n9 n16) (f7 : n17 = 303) (f8 : hUpd H5 H4 n17 n9 n18) (f9 : (hLe T0 H5 H6 ∧ hFr s_219.2.2.2.2 H5 H6 ∧ ((0 : Int) = 0 → H6.length = H5.length) ∧ hWt T0 H6) ∧ (postb_219 n1 H5 H6 ∧ nb_219 n1 H5 H6)) : Bb_227_180 n2 n1 n0 n9 n19 H0 H6 := by
  unfold Bb_227_180
  intro z zr
  have ga := f0.2.1.1.2
  unfold Bb_227_120 at ga
  obtain ⟨z1, a1, pm, ps, k0, k5, kd, h16⟩ := ga z zr
  have vz : vwR H1 = vwR H0 := vwR_fr f0.1.2.1 (by decide +kernel)
  have p0 := PR_row (q := 298) f2 f1 (by decide) z1
  have v0 : vwR H2 = vwR H0 := p0.2.1.trans vz
  have ah0 : absR H2 = (absR H0) := p0.1.trans a1
  have p1 := PR_row (q := 299) f4 f3 (by decide) p0.2.2.1
  have v1 : vwR H3 = vwR H0 := p1.2.1.trans v0
  have ah1 : absR H3 = (absR H0) := p1.1.trans ah0
  have p2 := PR_row (q := 301) f6 f5 (by decide) p1.2.2.1
  have v2 : vwR H4 = vwR H0 := p2.2.1.trans v1
  have ah2 : absR H4 = (absR H0) := p2.1.trans ah1
  have p3 := PR_row (q := 303) f8 f7 (by decide) p2.2.2.1
  have v3 : vwR H5 = vwR H0 := p3.2.1.trans v2
  have ah3 : absR H5 = (absR H0) := p3.1.trans ah2
  have c4 := f9.2.2 p3.2.2.1 (by rw [v3, ah3]; rw [kd]; omega)
  rw [v3, ah3, kd] at c4
  have v4 : vwR H6 = vwR H0 := (vwR_fr f9.1.2.1 (by decide +kernel)).trans v3
  have pm2 : hV H6 296 = hV H1 296 := (fRow f9.1.2.1 296 (by decide +kernel)).trans ((uRowNe f8 296 (by rw [f7]; decide)).trans ((uRowNe f6 296 (by rw [f5]; decide)).trans ((uRowNe f4 296 (by rw [f3]; decide)).trans (uRowNe f2 296 (by rw [f1]; decide)))))
  have ps2 : hV H6 297 = hV H1 297 := (fRow f9.1.2.1 297 (by decide +kernel)).trans ((uRowNe f8 297 (by rw [f7]; decide)).trans ((uRowNe f6 297 (by rw [f5]; decide)).trans ((uRowNe f4 297 (by rw [f3]; decide)).trans (uRowNe f2 297 (by rw [f1]; decide)))))
  exact ⟨c4.1, c4.2, pm2.trans pm, ps2.trans ps, k0, k5, kd, h16⟩
def g_227w_120_0 : vG := ([(1219, [1], [5, 6], 0), (80, [17, 9, 18], [5, 4], 0), (0, [17], [], 303), (80, [15, 9, 16], [4, 3], 0), (0, [15], [], 301), (80, [11, 9, 14], [3, 2], 0), (0, [11], [], 299), (80, [10, 9, 2], [2, 1], 0), (0, [10], [], 298), (5000, [0, 1, 2], [0, 1], 120)], (4000, [1, 2, 9, 19], [6], 180))
theorem c_227w_120_0 {q0 : Nat} : vOkm T0 (eN e_227 L_227w A_227 mu_227 n_227 B_227 (some q0)) 1 g_227w_120_0 := vOk_inI fun ρ η f0 f1 f2 f3 f4 f5 f6 f7 f8 f9 => q_227w_13 (q0 := q0) (n0 := ρ 2) (n1 := ρ 1) (n2 := ρ 0) (n9 := ρ 9) (n10 := ρ 10) (n11 := ρ 11) (n14 := ρ 14) (n15 := ρ 15) (n16 := ρ 16) (n17 := ρ 17) (n18 := ρ 18) (n19 := ρ 19) (H0 := η 0) (H1 := η 1) (H2 := η 2) (H3 := η 3) (H4 := η 4) (H5 := η 5) (H6 := η 6) f9 f8 f7 f6 f5 f4 f3 f2 f1 f0
def p_227w_120 : List vG := [g_227w_120_0]
theorem r_227w_120 : vCovBO (eRc e_227 L_227 cs_227 2000 (120, [(0, (3, 12, 285, 0)), (1, (0, 0, 5, 0))])) p_227w_120 = true := by decide +kernel
theorem q_227w_14 {q0 : Nat} {n0 n1 n2 n3 n4 n5 n6 n7 n8 n9 n10 n11 n12 n13 n14 n15 n16 : Int} {H0 H1 H2 H3 H4 H5 : gH} (f0 : n0 ≤ 1) (f1 : 1 ≤ n0) (f2 : n1 ≤ 1007) (f3 : 0 ≤ n1) (f4 : n2 ≤ 5) (f5 : 0 ≤ n2) (f6 : n3 = 285) (f7 : (hLe T0 H0 H1 ∧ hFr s_227.2.2.2.2 H0 H1 ∧ hWt T0 H1) ∧ ((Ab_227_180 n4 n3 n2 n1 n0 H0 H1 ∧ Bb_227_180 n4 n3 n2 n1 n0 H0 H1) ∧ preb_227 n4 H0) ∧ some q0 = some (mub_227_180 n4 n3 n2 n1 n0 H0 H1)) (f8 : n2 < 0) (f9 : n5 = hV H1 (n3).toNat 11) (f10 : n6 = 1) (f11 : (hLe T0 H1 H2 ∧ hFr s_220.2.2.2.2 H1 H2 ∧ ((0 : Int) = 0 → H2.length = H1.length) ∧ hWt T0 H2) ∧ (postb_220 n3 n6 H1 H2 ∧ nb_220 n3 n6 H1 H2)) (f12 : n7 = 25) (f13 : (hLe T0 H2 H3 ∧ hFr s_220.2.2.2.2 H2 H3 ∧ ((0 : Int) = 0 → H3.length = H2.length) ∧ hWt T0 H3) ∧ (postb_220 n3 n7 H2 H3 ∧ nb_220 n3 n7 H2 H3)) (f14 : n8 = 0) (f15 : (hLe T0 H3 H4 ∧ hFr s_229.2.2.2.2 H3 H4 ∧ ((0 : Int) = 0 → H4.length = H3.length) ∧ hWt T0 H4) ∧ (postb_229 n3 n1 n8 H3 H4 ∧ nb_229 n3 n1 n8 H3 H4)) (f16 : n9 = hV H4 (n3).toNat 13) (f17 : n9 ≤ 0) (f18 : n10 = 300) (f19 : n11 = (-1)) (f20 : hUpd H5 H4 n10 n1 n11) (f21 : n12 = 294) (f22 : n13 = hV H5 (n3).toNat 32) (f23 : n14 ≤ 6) (f24 : 0 ≤ n14) (f25 : n14 = hV H5 (n12).toNat (n13).toNat) (f26 : n15 = 1) (f27 : n16 = w32 (n14 - n15)) : Bb_227_471 n4 n3 n2 n1 n0 n5 n16 H0 H5 := by
  exfalso
  clear f0 f1 f2 f3 f4 f6 f7 f9 f10 f11 f12 f13 f14 f15 f16 f17 f18 f19 f20 f21 f22 f23 f24 f25 f26 f27
  omega
def g_227w_180_0 : vG := ([(2, [16, 14, 15], [], 0), (0, [15], [], 1), (22, [14, 12, 13], [5], 0), (90, [14], [], 0), (91, [14], [], 6), (20, [13, 1], [5], 32), (0, [12], [], 294), (80, [10, 3, 11], [5, 4], 0), (0, [11], [], -1), (0, [10], [], 300), (35, [9], [], 0), (20, [9, 1], [4], 13), (1229, [1, 3, 8], [3, 4], 0), (0, [8], [], 0), (1220, [1, 7], [2, 3], 0), (0, [7], [], 25), (1220, [1, 6], [1, 2], 0), (0, [6], [], 1), (20, [5, 1], [1], 11), (66, [2], [], 0), (5000, [0, 1, 2, 3, 4], [0, 1], 180), (0, [1], [], 285), (90, [2], [], 0), (91, [2], [], 5), (90, [3], [], 0), (91, [3], [], 1007), (90, [4], [], 1), (91, [4], [], 1)], (4000, [1, 2, 3, 4, 5, 16], [5], 471))
theorem c_227w_180_0 {q0 : Nat} : vOkm T0 (eN e_227 L_227w A_227 mu_227 n_227 B_227 (some q0)) 1 g_227w_180_0 := vOk_inI fun ρ η f0 f1 f2 f3 f4 f5 f6 f7 f8 f9 f10 f11 f12 f13 f14 f15 f16 f17 f18 f19 f20 f21 f22 f23 f24 f25 f26 f27 => q_227w_14 (q0 := q0) (n0 := ρ 4) (n1 := ρ 3) (n2 := ρ 2) (n3 := ρ 1) (n4 := ρ 0) (n5 := ρ 5) (n6 := ρ 6) (n7 := ρ 7) (n8 := ρ 8) (n9 := ρ 9) (n10 := ρ 10) (n11 := ρ 11) (n12 := ρ 12) (n13 := ρ 13) (n14 := ρ 14) (n15 := ρ 15) (n16 := ρ 16) (H0 := η 0) (H1 := η 1) (H2 := η 2) (H3 := η 3) (H4 := η 4) (H5 := η 5) f27 f26 f25 f24 f23 f22 f21 f20 f19 f18 f17 f16 f15 f14 f13 f12 f11 f10 f9 f8 f7 f6 f5 f4 f3 f2 f1 f0
theorem q_227w_15 {q0 : Nat} {n0 n1 n2 n3 n4 n5 n6 n7 n8 n9 : Int} {H0 H1 H2 H3 H4 : gH} (f0 : n0 ≤ 1) (f1 : 1 ≤ n0) (f2 : n1 ≤ 1007) (f3 : 0 ≤ n1) (f4 : n2 ≤ 5) (f5 : 0 ≤ n2) (f6 : n3 = 285) (f7 : (hLe T0 H0 H1 ∧ hFr s_227.2.2.2.2 H0 H1 ∧ hWt T0 H1) ∧ ((Ab_227_180 n4 n3 n2 n1 n0 H0 H1 ∧ Bb_227_180 n4 n3 n2 n1 n0 H0 H1) ∧ preb_227 n4 H0) ∧ some q0 = some (mub_227_180 n4 n3 n2 n1 n0 H0 H1)) (f8 : n2 < 0) (f9 : n5 = hV H1 (n3).toNat 11) (f10 : n6 = 1) (f11 : (hLe T0 H1 H2 ∧ hFr s_220.2.2.2.2 H1 H2 ∧ ((0 : Int) = 0 → H2.length = H1.length) ∧ hWt T0 H2) ∧ (postb_220 n3 n6 H1 H2 ∧ nb_220 n3 n6 H1 H2)) (f12 : n7 = 25) (f13 : (hLe T0 H2 H3 ∧ hFr s_220.2.2.2.2 H2 H3 ∧ ((0 : Int) = 0 → H3.length = H2.length) ∧ hWt T0 H3) ∧ (postb_220 n3 n7 H2 H3 ∧ nb_220 n3 n7 H2 H3)) (f14 : n8 = 0) (f15 : (hLe T0 H3 H4 ∧ hFr s_229.2.2.2.2 H3 H4 ∧ ((0 : Int) = 0 → H4.length = H3.length) ∧ hWt T0 H4) ∧ (postb_229 n3 n1 n8 H3 H4 ∧ nb_229 n3 n1 n8 H3 H4)) (f16 : n9 = hV H4 (n3).toNat 13) (f17 : 0 < n9) : nb_227 n4 H0 H4 := by
  exfalso
  clear f0 f1 f2 f3 f4 f6 f7 f9 f10 f11 f12 f13 f14 f15 f16 f17
  omega
def g_227w_180_1 : vG := ([(34, [9], [], 0), (20, [9, 1], [4], 13), (1229, [1, 3, 8], [3, 4], 0), (0, [8], [], 0), (1220, [1, 7], [2, 3], 0), (0, [7], [], 25), (1220, [1, 6], [1, 2], 0), (0, [6], [], 1), (20, [5, 1], [1], 11), (66, [2], [], 0), (5000, [0, 1, 2, 3, 4], [0, 1], 180), (0, [1], [], 285), (90, [2], [], 0), (91, [2], [], 5), (90, [3], [], 0), (91, [3], [], 1007), (90, [4], [], 1), (91, [4], [], 1)], (3000, [], [4], 450))
theorem c_227w_180_1 {q0 : Nat} : vOkm T0 (eN e_227 L_227w A_227 mu_227 n_227 B_227 (some q0)) 1 g_227w_180_1 := vOk_inI fun ρ η f0 f1 f2 f3 f4 f5 f6 f7 f8 f9 f10 f11 f12 f13 f14 f15 f16 f17 => q_227w_15 (q0 := q0) (n0 := ρ 4) (n1 := ρ 3) (n2 := ρ 2) (n3 := ρ 1) (n4 := ρ 0) (n5 := ρ 5) (n6 := ρ 6) (n7 := ρ 7) (n8 := ρ 8) (n9 := ρ 9) (H0 := η 0) (H1 := η 1) (H2 := η 2) (H3 := η 3) (H4 := η 4) f17 f16 f15 f14 f13 f12 f11 f10 f9 f8 f7 f6 f5 f4 f3 f2 f1 f0
theorem q_227w_16 {q0 : Nat} {n0 n1 n2 n3 n4 n5 n6 n7 n8 n9 n10 n11 n12 n13 n14 n15 n16 : Int} {H0 H1 H2 H3 H4 H5 : gH} (f0 : n0 ≤ 1) (f1 : 1 ≤ n0) (f2 : n1 ≤ 1007) (f3 : 0 ≤ n1) (f4 : n2 ≤ 5) (f5 : 0 ≤ n2) (f6 : n3 = 285) (f7 : (hLe T0 H0 H1 ∧ hFr s_227.2.2.2.2 H0 H1 ∧ hWt T0 H1) ∧ ((Ab_227_180 n4 n3 n2 n1 n0 H0 H1 ∧ Bb_227_180 n4 n3 n2 n1 n0 H0 H1) ∧ preb_227 n4 H0) ∧ some q0 = some (mub_227_180 n4 n3 n2 n1 n0 H0 H1)) (f8 : 4 < n2) (f9 : n5 = hV H1 (n3).toNat 11) (f10 : n6 = 1) (f11 : (hLe T0 H1 H2 ∧ hFr s_220.2.2.2.2 H1 H2 ∧ ((0 : Int) = 0 → H2.length = H1.length) ∧ hWt T0 H2) ∧ (postb_220 n3 n6 H1 H2 ∧ nb_220 n3 n6 H1 H2)) (f12 : n7 = 25) (f13 : (hLe T0 H2 H3 ∧ hFr s_220.2.2.2.2 H2 H3 ∧ ((0 : Int) = 0 → H3.length = H2.length) ∧ hWt T0 H3) ∧ (postb_220 n3 n7 H2 H3 ∧ nb_220 n3 n7 H2 H3)) (f14 : n8 = 0) (f15 : (hLe T0 H3 H4 ∧ hFr s_229.2.2.2.2 H3 H4 ∧ ((0 : Int) = 0 → H4.length = H3.length) ∧ hWt T0 H4) ∧ (postb_229 n3 n1 n8 H3 H4 ∧ nb_229 n3 n1 n8 H3 H4)) (f16 : n9 = hV H4 (n3).toNat 13) (f17 : n9 ≤ 0) (f18 : n10 = 300) (f19 : n11 = (-1)) (f20 : hUpd H5 H4 n10 n1 n11) (f21 : n12 = 294) (f22 : n13 = hV H5 (n3).toNat 32) (f23 : n14 ≤ 6) (f24 : 0 ≤ n14) (f25 : n14 = hV H5 (n12).toNat (n13).toNat) (f26 : n15 = 1) (f27 : n16 = w32 (n14 - n15)) : Bb_227_471 n4 n3 n2 n1 n0 n5 n16 H0 H5 := by
  unfold Bb_227_471
  intro z zr
  have ga := f7.2.1.1.2
  unfold Bb_227_180 at ga
  obtain ⟨z1, a1, pm, ps, k0, k5, kd, h16⟩ := ga z zr
  have vz : vwR H1 = vwR H0 := vwR_fr f7.1.2.1 (by decide +kernel)
  have q9 := f8
  have q24 := f17
  have rg0 := f0
  have rg1 := f1
  have rg2 := f2
  have rg3 := f3
  have rg4 := f4
  have rg5 := f5
  have ke : 20 + n2 = 25 := by omega
  rw [ke] at a1 kd
  have c0 := f11.2.2 z1 (by rw [f10]; decide)
  try rw [f10] at c0
  rw [vz, a1, kmc_1] at c0
  have v0 : vwR H2 = vwR H0 := (vwR_fr f11.1.2.1 (by decide +kernel)).trans vz
  have c1 := f13.2.2 c0.1 (by rw [f12]; decide)
  try rw [f12] at c1
  rw [v0, c0.2, kmc_25] at c1
  have v1 : vwR H3 = vwR H0 := (vwR_fr f13.1.2.1 (by decide +kernel)).trans v0
  have c2 := f15.2.2 c1.1
  try rw [f14] at c2
  rw [v1, c1.2] at c2
  have v2 : vwR H4 = vwR H0 := (vwR_fr f15.1.2.1 (by decide +kernel)).trans v1
  have p3 := PR_row (q := 300) f20 f18 (by decide) c2.1
  have v3 : vwR H5 = vwR H0 := p3.2.1.trans v2
  have ah3 : absR H5 = (pTime (vwR H0) (ptk (vwR H0) 26 (ptk (vwR H0) 2 (ptk (vwR H0) 25 (absR H0))))) := p3.1.trans c2.2
  have pm2 : hV H5 296 = hV H1 296 := (uRowNe f20 296 (by rw [f18]; decide)).trans ((fRow f15.1.2.1 296 (by decide +kernel)).trans ((fRow f13.1.2.1 296 (by decide +kernel)).trans (fRow f11.1.2.1 296 (by decide +kernel))))
  have ps2 : hV H5 297 = hV H1 297 := (uRowNe f20 297 (by rw [f18]; decide)).trans ((fRow f15.1.2.1 297 (by decide +kernel)).trans ((fRow f13.1.2.1 297 (by decide +kernel)).trans (fRow f11.1.2.1 297 (by decide +kernel))))
  have d13 := rdS (q := 285) f9 f6
  have d23 := rdS (q := 285) f16 f6
  have d37 := rdS (q := 285) f22 f6
  have d40 := rdW (q := 294) f25 f21
  have rg38 := f23
  have rg39 := f24
  have s42 : n16 = n14 - 1 := by
    have q := f27
    rw [f26] at q
    rw [q]
    exact w32_id (by omega) (by omega)
  have f32_ : hV H1 285 32 = hV H0 285 32 := f7.1.2.1.1 285 32 (by decide +kernel)
  have bl2 : hV H5 294 = hV H1 294 := (uRowNe f20 294 (by rw [f18]; decide)).trans ((fRow f15.1.2.1 294 (by decide +kernel)).trans ((fRow f13.1.2.1 294 (by decide +kernel)).trans (fRow f11.1.2.1 294 (by decide +kernel))))
  have bl3 : hV H5 294 = hV H1 294 := (uRowNe f20 294 (by rw [f18]; decide)).trans ((fRow f15.1.2.1 294 (by decide +kernel)).trans ((fRow f13.1.2.1 294 (by decide +kernel)).trans (fRow f11.1.2.1 294 (by decide +kernel))))
  have bl0 : hV H1 294 = hV H0 294 := fRow f7.1.2.1 294 (by decide +kernel)
  have p32 : hV H5 285 32 = hV H1 285 32 := (uPlace f20 285 32 (by rw [f18]; decide)).trans ((f15.1.2.1.1 285 32 (by decide +kernel)).trans ((f13.1.2.1.1 285 32 (by decide +kernel)).trans (f11.1.2.1.1 285 32 (by decide +kernel))))
  rw [bl3, bl0, d37, p32, f32_] at d40
  have e13 : hV H5 285 13 = hV H4 285 13 := uPlace f20 285 13 (by rw [f18]; decide)
  have f9 : hV H5 285 13 = 0 := by have := p3.2.2.1.2.2.2.1; omega
  have tr := (TRs.trans (TRs_fr f11.1.2.1 (by decide +kernel)) (TRs.trans (TRs_fr f13.1.2.1 (by decide +kernel)) (TRs.trans (TRs_fr f15.1.2.1 (by decide +kernel)) (TRs_row (q := 300) f20 f18 (by decide)))))
  have hpe := absR_pos p3.2.2.1 f9
  have ae := ah3
  have hq := hpe.2
  rw [ae] at hq
  have fa_ := faultR_no z1 (by rw [a1]; exact (pb_trans (pb_tk z (c := 2)) (pb_tk z (c := 26)) (pb_time z hq).1).1)
  have uq := UQ_of z1 p3.2.2.1 fa_ f9 tr (by rw [vz, a1]; exact ae)
  have pa := absR_pos z1 fa_
  have ku := uq.2.2
  rw [kindR_at z1 fa_] at ku
  have k1 := km_inj (ku.trans kmc_1.symm)
  have t4 : n5 = (ptk (vwR H0) 25 (absR H0)).1 := by rw [← a1, pa.1]; exact d13
  have uqa := uq.1
  rw [a1] at uqa
  rw [← t4] at uqa
  have ux := uq.2.1
  rw [pa.1, ← d13] at ux
  have cw : hV H5 300 (n1).toNat = -1 := (uSame f20 300 (n1).toNat (by rw [f18]; rfl) (Int.toNat_of_nonneg (by omega))).trans f19
  refine ⟨p3.2.2.1, ae, pm2.trans pm, ps2.trans ps, kd, h16, f9, t4, ?_, uqa, by rw [d13]; exact z1.2.1, ux, by omega, by omega, ?_⟩
  · rw [tr.2.1, d13]
    exact k1
  · rw [cw]
    exact SRi_0 (by omega)
def g_227w_180_2 : vG := ([(2, [16, 14, 15], [], 0), (0, [15], [], 1), (22, [14, 12, 13], [5], 0), (90, [14], [], 0), (91, [14], [], 6), (20, [13, 1], [5], 32), (0, [12], [], 294), (80, [10, 3, 11], [5, 4], 0), (0, [11], [], -1), (0, [10], [], 300), (35, [9], [], 0), (20, [9, 1], [4], 13), (1229, [1, 3, 8], [3, 4], 0), (0, [8], [], 0), (1220, [1, 7], [2, 3], 0), (0, [7], [], 25), (1220, [1, 6], [1, 2], 0), (0, [6], [], 1), (20, [5, 1], [1], 11), (67, [2], [], 4), (5000, [0, 1, 2, 3, 4], [0, 1], 180), (0, [1], [], 285), (90, [2], [], 0), (91, [2], [], 5), (90, [3], [], 0), (91, [3], [], 1007), (90, [4], [], 1), (91, [4], [], 1)], (4000, [1, 2, 3, 4, 5, 16], [5], 471))
theorem c_227w_180_2 {q0 : Nat} : vOkm T0 (eN e_227 L_227w A_227 mu_227 n_227 B_227 (some q0)) 1 g_227w_180_2 := vOk_inI fun ρ η f0 f1 f2 f3 f4 f5 f6 f7 f8 f9 f10 f11 f12 f13 f14 f15 f16 f17 f18 f19 f20 f21 f22 f23 f24 f25 f26 f27 => q_227w_16 (q0 := q0) (n0 := ρ 4) (n1 := ρ 3) (n2 := ρ 2) (n3 := ρ 1) (n4 := ρ 0) (n5 := ρ 5) (n6 := ρ 6) (n7 := ρ 7) (n8 := ρ 8) (n9 := ρ 9) (n10 := ρ 10) (n11 := ρ 11) (n12 := ρ 12) (n13 := ρ 13) (n14 := ρ 14) (n15 := ρ 15) (n16 := ρ 16) (H0 := η 0) (H1 := η 1) (H2 := η 2) (H3 := η 3) (H4 := η 4) (H5 := η 5) f27 f26 f25 f24 f23 f22 f21 f20 f19 f18 f17 f16 f15 f14 f13 f12 f11 f10 f9 f8 f7 f6 f5 f4 f3 f2 f1 f0
theorem q_227w_17 {q0 : Nat} {n0 n1 n2 n3 n4 n5 n6 n7 n8 n9 : Int} {H0 H1 H2 H3 H4 : gH} (f0 : n0 ≤ 1) (f1 : 1 ≤ n0) (f2 : n1 ≤ 1007) (f3 : 0 ≤ n1) (f4 : n2 ≤ 5) (f5 : 0 ≤ n2) (f6 : n3 = 285) (f7 : (hLe T0 H0 H1 ∧ hFr s_227.2.2.2.2 H0 H1 ∧ hWt T0 H1) ∧ ((Ab_227_180 n4 n3 n2 n1 n0 H0 H1 ∧ Bb_227_180 n4 n3 n2 n1 n0 H0 H1) ∧ preb_227 n4 H0) ∧ some q0 = some (mub_227_180 n4 n3 n2 n1 n0 H0 H1)) (f8 : 4 < n2) (f9 : n5 = hV H1 (n3).toNat 11) (f10 : n6 = 1) (f11 : (hLe T0 H1 H2 ∧ hFr s_220.2.2.2.2 H1 H2 ∧ ((0 : Int) = 0 → H2.length = H1.length) ∧ hWt T0 H2) ∧ (postb_220 n3 n6 H1 H2 ∧ nb_220 n3 n6 H1 H2)) (f12 : n7 = 25) (f13 : (hLe T0 H2 H3 ∧ hFr s_220.2.2.2.2 H2 H3 ∧ ((0 : Int) = 0 → H3.length = H2.length) ∧ hWt T0 H3) ∧ (postb_220 n3 n7 H2 H3 ∧ nb_220 n3 n7 H2 H3)) (f14 : n8 = 0) (f15 : (hLe T0 H3 H4 ∧ hFr s_229.2.2.2.2 H3 H4 ∧ ((0 : Int) = 0 → H4.length = H3.length) ∧ hWt T0 H4) ∧ (postb_229 n3 n1 n8 H3 H4 ∧ nb_229 n3 n1 n8 H3 H4)) (f16 : n9 = hV H4 (n3).toNat 13) (f17 : 0 < n9) : nb_227 n4 H0 H4 := by
  unfold nb_227
  intro z zr
  have ga := f7.2.1.1.2
  unfold Bb_227_180 at ga
  obtain ⟨z1, a1, pm, ps, k0, k5, kd, h16⟩ := ga z zr
  have vz : vwR H1 = vwR H0 := vwR_fr f7.1.2.1 (by decide +kernel)
  have q9 := f8
  have q24 := f17
  have rg0 := f0
  have rg1 := f1
  have rg2 := f2
  have rg3 := f3
  have rg4 := f4
  have rg5 := f5
  have ke : 20 + n2 = 25 := by omega
  rw [ke] at a1 kd
  have c0 := f11.2.2 z1 (by rw [f10]; decide)
  try rw [f10] at c0
  rw [vz, a1, kmc_1] at c0
  have v0 : vwR H2 = vwR H0 := (vwR_fr f11.1.2.1 (by decide +kernel)).trans vz
  have c1 := f13.2.2 c0.1 (by rw [f12]; decide)
  try rw [f12] at c1
  rw [v0, c0.2, kmc_25] at c1
  have v1 : vwR H3 = vwR H0 := (vwR_fr f13.1.2.1 (by decide +kernel)).trans v0
  have c2 := f15.2.2 c1.1
  try rw [f14] at c2
  rw [v1, c1.2] at c2
  have v2 : vwR H4 = vwR H0 := (vwR_fr f15.1.2.1 (by decide +kernel)).trans v1
  have pm2 : hV H4 296 = hV H1 296 := (fRow f15.1.2.1 296 (by decide +kernel)).trans ((fRow f13.1.2.1 296 (by decide +kernel)).trans (fRow f11.1.2.1 296 (by decide +kernel)))
  have ps2 : hV H4 297 = hV H1 297 := (fRow f15.1.2.1 297 (by decide +kernel)).trans ((fRow f13.1.2.1 297 (by decide +kernel)).trans (fRow f11.1.2.1 297 (by decide +kernel)))
  have d13 := rdS (q := 285) f9 f6
  have d23 := rdS (q := 285) f16 f6
  have hn := absR_neg c2.1 (by omega)
  have hn2 := hn
  rw [c2.2] at hn2
  refine ⟨c2.1, .inr (.inr ⟨by omega, by omega, h16, ?_⟩), fun k _ => ⟨by rw [pm2, pm], by rw [ps2, ps]⟩, fun c => absurd c (by omega)⟩
  rw [c2.2]
  unfold pCue
  rw [kd, pBody_25, use_off hn2, ptk_neg hn2 pTime_ok]
def g_227w_180_3 : vG := ([(34, [9], [], 0), (20, [9, 1], [4], 13), (1229, [1, 3, 8], [3, 4], 0), (0, [8], [], 0), (1220, [1, 7], [2, 3], 0), (0, [7], [], 25), (1220, [1, 6], [1, 2], 0), (0, [6], [], 1), (20, [5, 1], [1], 11), (67, [2], [], 4), (5000, [0, 1, 2, 3, 4], [0, 1], 180), (0, [1], [], 285), (90, [2], [], 0), (91, [2], [], 5), (90, [3], [], 0), (91, [3], [], 1007), (90, [4], [], 1), (91, [4], [], 1)], (3000, [], [4], 450))
theorem c_227w_180_3 {q0 : Nat} : vOkm T0 (eN e_227 L_227w A_227 mu_227 n_227 B_227 (some q0)) 1 g_227w_180_3 := vOk_inI fun ρ η f0 f1 f2 f3 f4 f5 f6 f7 f8 f9 f10 f11 f12 f13 f14 f15 f16 f17 => q_227w_17 (q0 := q0) (n0 := ρ 4) (n1 := ρ 3) (n2 := ρ 2) (n3 := ρ 1) (n4 := ρ 0) (n5 := ρ 5) (n6 := ρ 6) (n7 := ρ 7) (n8 := ρ 8) (n9 := ρ 9) (H0 := η 0) (H1 := η 1) (H2 := η 2) (H3 := η 3) (H4 := η 4) f17 f16 f15 f14 f13 f12 f11 f10 f9 f8 f7 f6 f5 f4 f3 f2 f1 f0
theorem q_227w_18 {q0 : Nat} {n0 n1 n2 n3 n4 : Int} {H0 H1 H2 : gH} (f0 : n0 ≤ 1) (f1 : 1 ≤ n0) (f2 : n1 ≤ 1007) (f3 : 0 ≤ n1) (f4 : n2 ≤ 5) (f5 : 0 ≤ n2) (f6 : (hLe T0 H0 H1 ∧ hFr s_227.2.2.2.2 H0 H1 ∧ hWt T0 H1) ∧ ((Ab_227_180 n4 n3 n2 n1 n0 H0 H1 ∧ Bb_227_180 n4 n3 n2 n1 n0 H0 H1) ∧ preb_227 n4 H0) ∧ some q0 = some (mub_227_180 n4 n3 n2 n1 n0 H0 H1)) (f7 : n2 = 0) (f8 : (hLe T0 H1 H2 ∧ hFr s_228.2.2.2.2 H1 H2 ∧ ((0 : Int) = 0 → H2.length = H1.length) ∧ hWt T0 H2) ∧ (postb_228 n3 n1 H1 H2 ∧ nb_228 n3 n1 H1 H2)) : Bb_227_567 n4 n3 n2 n1 n0 H0 H2 := by
  unfold Bb_227_567
  intro z zr
  have ga := f6.2.1.1.2
  unfold Bb_227_180 at ga
  obtain ⟨z1, a1, pm, ps, k0, k5, kd, h16⟩ := ga z zr
  have vz : vwR H1 = vwR H0 := vwR_fr f6.1.2.1 (by decide +kernel)
  have xc := f7
  have rg0 := f0
  have rg1 := f1
  have rg2 := f2
  have rg3 := f3
  have rg4 := f4
  have rg5 := f5
  have ke : 20 + n2 = 20 := by omega
  rw [ke] at a1 kd
  have c0 := f8.2.2 z1
  rw [vz, a1] at c0
  have v0 : vwR H2 = vwR H0 := (vwR_fr f8.1.2.1 (by decide +kernel)).trans vz
  have pm2 : hV H2 296 = hV H1 296 := fRow f8.1.2.1 296 (by decide +kernel)
  have ps2 : hV H2 297 = hV H1 297 := fRow f8.1.2.1 297 (by decide +kernel)
  refine ⟨c0.1, ?_, pm2.trans pm, ps2.trans ps, by omega, by omega, h16, fun _ => ?_⟩
  · rw [kd, pBody_20]
    exact c0.2
  · rw [pcz_no (by omega)]
    omega
def g_227w_180_4 : vG := ([(1228, [1, 3], [1, 2], 0), (0, [2], [], 0), (5000, [0, 1, 2, 3, 4], [0, 1], 180), (90, [2], [], 0), (91, [2], [], 5), (90, [3], [], 0), (91, [3], [], 1007), (90, [4], [], 1), (91, [4], [], 1)], (4000, [1, 2, 3, 4], [2], 567))
theorem c_227w_180_4 {q0 : Nat} : vOkm T0 (eN e_227 L_227w A_227 mu_227 n_227 B_227 (some q0)) 1 g_227w_180_4 := vOk_inI fun ρ η f0 f1 f2 f3 f4 f5 f6 f7 f8 => q_227w_18 (q0 := q0) (n0 := ρ 4) (n1 := ρ 3) (n2 := ρ 2) (n3 := ρ 1) (n4 := ρ 0) (H0 := η 0) (H1 := η 1) (H2 := η 2) f8 f7 f6 f5 f4 f3 f2 f1 f0
theorem q_227w_19 {q0 : Nat} {n0 n1 n2 n3 n4 n5 n6 n7 n8 n9 n10 n11 n12 n13 n14 n16 n17 n18 n19 n20 n21 n25 n26 n27 n28 : Int} {H0 H1 H2 H3 H4 H5 H6 H7 H8 H9 H10 H11 H12 H13 : gH} (f0 : n0 ≤ 1) (f1 : 1 ≤ n0) (f2 : n1 ≤ 1007) (f3 : 0 ≤ n1) (f4 : n2 ≤ 5) (f5 : 0 ≤ n2) (f6 : (hLe T0 H0 H1 ∧ hFr s_227.2.2.2.2 H0 H1 ∧ hWt T0 H1) ∧ ((Ab_227_180 n4 n3 n2 n1 n0 H0 H1 ∧ Bb_227_180 n4 n3 n2 n1 n0 H0 H1) ∧ preb_227 n4 H0) ∧ some q0 = some (mub_227_180 n4 n3 n2 n1 n0 H0 H1)) (f7 : n2 = 1) (f8 : n5 = 300) (f9 : n6 = 0) (f10 : n7 = 2) (f11 : (hLe T0 H1 H2 ∧ hFr s_223.2.2.2.2 H1 H2 ∧ ((0 : Int) = 0 → H2.length = H1.length) ∧ hWt T0 H2) ∧ (postb_223 n8 n3 n6 n7 H1 H2 ∧ nb_223 n8 n3 n6 n7 H1 H2)) (f12 : hUpd H3 H2 n5 n1 n8) (f13 : n9 = 26) (f14 : (hLe T0 H3 H4 ∧ hFr s_220.2.2.2.2 H3 H4 ∧ ((0 : Int) = 0 → H4.length = H3.length) ∧ hWt T0 H4) ∧ (postb_220 n3 n9 H3 H4 ∧ nb_220 n3 n9 H3 H4)) (f15 : n10 = 0) (f16 : (hLe T0 H4 H5 ∧ hFr s_229.2.2.2.2 H4 H5 ∧ ((0 : Int) = 0 → H5.length = H4.length) ∧ hWt T0 H5) ∧ (postb_229 n3 n1 n10 H4 H5 ∧ nb_229 n3 n1 n10 H4 H5)) (f17 : n11 = 32) (f18 : (hLe T0 H5 H6 ∧ hFr s_220.2.2.2.2 H5 H6 ∧ ((0 : Int) = 0 → H6.length = H5.length) ∧ hWt T0 H6) ∧ (postb_220 n3 n11 H5 H6 ∧ nb_220 n3 n11 H5 H6)) (f19 : n12 = 1) (f20 : (hLe T0 H6 H7 ∧ hFr s_229.2.2.2.2 H6 H7 ∧ ((0 : Int) = 0 → H7.length = H6.length) ∧ hWt T0 H7) ∧ (postb_229 n3 n1 n12 H6 H7 ∧ nb_229 n3 n1 n12 H6 H7)) (f21 : n13 = 28) (f22 : (hLe T0 H7 H8 ∧ hFr s_220.2.2.2.2 H7 H8 ∧ ((0 : Int) = 0 → H8.length = H7.length) ∧ hWt T0 H8) ∧ (postb_220 n3 n13 H7 H8 ∧ nb_220 n3 n13 H7 H8)) (f23 : n14 = 305) (f24 : n17 = 0) (f25 : n18 = 400) (f26 : (hLe T0 H8 H9 ∧ hFr s_223.2.2.2.2 H8 H9 ∧ ((0 : Int) = 0 → H9.length = H8.length) ∧ hWt T0 H9) ∧ (postb_223 n19 n3 n17 n18 H8 H9 ∧ nb_223 n19 n3 n17 n18 H8 H9)) (f27 : hUpd H10 H9 n14 n16 n19) (f28 : n20 = 5) (f29 : (hLe T0 H10 H11 ∧ hFr s_220.2.2.2.2 H10 H11 ∧ ((0 : Int) = 0 → H11.length = H10.length) ∧ hWt T0 H11) ∧ (postb_220 n3 n20 H10 H11 ∧ nb_220 n3 n20 H10 H11)) (f30 : n21 = 305) (f31 : n26 = 0) (f32 : n27 = 400) (f33 : (hLe T0 H11 H12 ∧ hFr s_223.2.2.2.2 H11 H12 ∧ ((0 : Int) = 0 → H12.length = H11.length) ∧ hWt T0 H12) ∧ (postb_223 n28 n3 n26 n27 H11 H12 ∧ nb_223 n28 n3 n26 n27 H11 H12)) (f34 : hUpd H13 H12 n21 n25 n28) : Bb_227_567 n4 n3 n2 n1 n0 H0 H13 := by
  unfold Bb_227_567
  intro z zr
  have ga := f6.2.1.1.2
  unfold Bb_227_180 at ga
  obtain ⟨z1, a1, pm, ps, k0, k5, kd, h16⟩ := ga z zr
  have vz : vwR H1 = vwR H0 := vwR_fr f6.1.2.1 (by decide +kernel)
  have xc := f7
  have rg0 := f0
  have rg1 := f1
  have rg2 := f2
  have rg3 := f3
  have rg4 := f4
  have rg5 := f5
  have ke : 20 + n2 = 21 := by omega
  rw [ke] at a1 kd
  have c0 := f11.2.2 z1
  try rw [f9] at c0
  try rw [f10] at c0
  rw [vz, a1] at c0
  have v0 : vwR H2 = vwR H0 := (vwR_fr f11.1.2.1 (by decide +kernel)).trans vz
  have p1 := PR_row (q := 300) f12 f8 (by decide) c0.1
  have v1 : vwR H3 = vwR H0 := p1.2.1.trans v0
  have ah1 : absR H3 = (pnm (vwR H0) 0 2 (ptk (vwR H0) 21 (absR H0))) := p1.1.trans c0.2
  have c2 := f14.2.2 p1.2.2.1 (by rw [f13]; decide)
  try rw [f13] at c2
  rw [v1, ah1, kmc_26] at c2
  have v2 : vwR H4 = vwR H0 := (vwR_fr f14.1.2.1 (by decide +kernel)).trans v1
  have c3 := f16.2.2 c2.1
  try rw [f15] at c3
  rw [v2, c2.2] at c3
  have v3 : vwR H5 = vwR H0 := (vwR_fr f16.1.2.1 (by decide +kernel)).trans v2
  have c4 := f18.2.2 c3.1 (by rw [f17]; decide)
  try rw [f17] at c4
  rw [v3, c3.2, kmc_32] at c4
  have v4 : vwR H6 = vwR H0 := (vwR_fr f18.1.2.1 (by decide +kernel)).trans v3
  have c5 := f20.2.2 c4.1
  try rw [f19] at c5
  rw [v4, c4.2] at c5
  have v5 : vwR H7 = vwR H0 := (vwR_fr f20.1.2.1 (by decide +kernel)).trans v4
  have c6 := f22.2.2 c5.1 (by rw [f21]; decide)
  try rw [f21] at c6
  rw [v5, c5.2, kmc_28] at c6
  have v6 : vwR H8 = vwR H0 := (vwR_fr f22.1.2.1 (by decide +kernel)).trans v5
  have c7 := f26.2.2 c6.1
  try rw [f24] at c7
  try rw [f25] at c7
  rw [v6, c6.2] at c7
  have v7 : vwR H9 = vwR H0 := (vwR_fr f26.1.2.1 (by decide +kernel)).trans v6
  have p8 := PR_row (q := 305) f27 f23 (by decide) c7.1
  have v8 : vwR H10 = vwR H0 := p8.2.1.trans v7
  have ah8 : absR H10 = (pnm (vwR H0) 0 400 (ptk (vwR H0) 29 (pTime (vwR H0) (ptk (vwR H0) 32 (pTime (vwR H0) (ptk (vwR H0) 27 (pnm (vwR H0) 0 2 (ptk (vwR H0) 21 (absR H0))))))))) := p8.1.trans c7.2
  have c9 := f29.2.2 p8.2.2.1 (by rw [f28]; decide)
  try rw [f28] at c9
  rw [v8, ah8, kmc_5] at c9
  have v9 : vwR H11 = vwR H0 := (vwR_fr f29.1.2.1 (by decide +kernel)).trans v8
  have c10 := f33.2.2 c9.1
  try rw [f31] at c10
  try rw [f32] at c10
  rw [v9, c9.2] at c10
  have v10 : vwR H12 = vwR H0 := (vwR_fr f33.1.2.1 (by decide +kernel)).trans v9
  have p11 := PR_row (q := 305) f34 f30 (by decide) c10.1
  have v11 : vwR H13 = vwR H0 := p11.2.1.trans v10
  have ah11 : absR H13 = (pnm (vwR H0) 0 400 (ptk (vwR H0) 5 (pnm (vwR H0) 0 400 (ptk (vwR H0) 29 (pTime (vwR H0) (ptk (vwR H0) 32 (pTime (vwR H0) (ptk (vwR H0) 27 (pnm (vwR H0) 0 2 (ptk (vwR H0) 21 (absR H0))))))))))) := p11.1.trans c10.2
  have pm2 : hV H13 296 = hV H1 296 := (uRowNe f34 296 (by rw [f30]; decide)).trans ((fRow f33.1.2.1 296 (by decide +kernel)).trans ((fRow f29.1.2.1 296 (by decide +kernel)).trans ((uRowNe f27 296 (by rw [f23]; decide)).trans ((fRow f26.1.2.1 296 (by decide +kernel)).trans ((fRow f22.1.2.1 296 (by decide +kernel)).trans ((fRow f20.1.2.1 296 (by decide +kernel)).trans ((fRow f18.1.2.1 296 (by decide +kernel)).trans ((fRow f16.1.2.1 296 (by decide +kernel)).trans ((fRow f14.1.2.1 296 (by decide +kernel)).trans ((uRowNe f12 296 (by rw [f8]; decide)).trans (fRow f11.1.2.1 296 (by decide +kernel))))))))))))
  have ps2 : hV H13 297 = hV H1 297 := (uRowNe f34 297 (by rw [f30]; decide)).trans ((fRow f33.1.2.1 297 (by decide +kernel)).trans ((fRow f29.1.2.1 297 (by decide +kernel)).trans ((uRowNe f27 297 (by rw [f23]; decide)).trans ((fRow f26.1.2.1 297 (by decide +kernel)).trans ((fRow f22.1.2.1 297 (by decide +kernel)).trans ((fRow f20.1.2.1 297 (by decide +kernel)).trans ((fRow f18.1.2.1 297 (by decide +kernel)).trans ((fRow f16.1.2.1 297 (by decide +kernel)).trans ((fRow f14.1.2.1 297 (by decide +kernel)).trans ((uRowNe f12 297 (by rw [f8]; decide)).trans (fRow f11.1.2.1 297 (by decide +kernel))))))))))))
  refine ⟨p11.2.2.1, ?_, pm2.trans pm, ps2.trans ps, by omega, by omega, h16, fun _ => ?_⟩
  · rw [kd, pBody_21]
    exact ah11
  · rw [pcz_no (by omega)]
    omega
def g_227w_180_5 : vG := ([(80, [21, 25, 28], [13, 12], 0), (1223, [28, 1, 26, 27], [11, 12], 0), (0, [27], [], 400), (0, [26], [], 0), (0, [21], [], 305), (1220, [1, 20], [10, 11], 0), (0, [20], [], 5), (80, [14, 16, 19], [10, 9], 0), (1223, [19, 1, 17, 18], [8, 9], 0), (0, [18], [], 400), (0, [17], [], 0), (0, [14], [], 305), (1220, [1, 13], [7, 8], 0), (0, [13], [], 28), (1229, [1, 3, 12], [6, 7], 0), (0, [12], [], 1), (1220, [1, 11], [5, 6], 0), (0, [11], [], 32), (1229, [1, 3, 10], [4, 5], 0), (0, [10], [], 0), (1220, [1, 9], [3, 4], 0), (0, [9], [], 26), (80, [5, 3, 8], [3, 2], 0), (1223, [8, 1, 6, 7], [1, 2], 0), (0, [7], [], 2), (0, [6], [], 0), (0, [5], [], 300), (0, [2], [], 1), (5000, [0, 1, 2, 3, 4], [0, 1], 180), (90, [2], [], 0), (91, [2], [], 5), (90, [3], [], 0), (91, [3], [], 1007), (90, [4], [], 1), (91, [4], [], 1)], (4000, [1, 2, 3, 4], [13], 567))
theorem c_227w_180_5 {q0 : Nat} : vOkm T0 (eN e_227 L_227w A_227 mu_227 n_227 B_227 (some q0)) 1 g_227w_180_5 := vOk_inI fun ρ η f0 f1 f2 f3 f4 f5 f6 f7 f8 f9 f10 f11 f12 f13 f14 f15 f16 f17 f18 f19 f20 f21 f22 f23 f24 f25 f26 f27 f28 f29 f30 f31 f32 f33 f34 => q_227w_19 (q0 := q0) (n0 := ρ 4) (n1 := ρ 3) (n2 := ρ 2) (n3 := ρ 1) (n4 := ρ 0) (n5 := ρ 5) (n6 := ρ 6) (n7 := ρ 7) (n8 := ρ 8) (n9 := ρ 9) (n10 := ρ 10) (n11 := ρ 11) (n12 := ρ 12) (n13 := ρ 13) (n14 := ρ 14) (n16 := ρ 16) (n17 := ρ 17) (n18 := ρ 18) (n19 := ρ 19) (n20 := ρ 20) (n21 := ρ 21) (n25 := ρ 25) (n26 := ρ 26) (n27 := ρ 27) (n28 := ρ 28) (H0 := η 0) (H1 := η 1) (H2 := η 2) (H3 := η 3) (H4 := η 4) (H5 := η 5) (H6 := η 6) (H7 := η 7) (H8 := η 8) (H9 := η 9) (H10 := η 10) (H11 := η 11) (H12 := η 12) (H13 := η 13) f34 f33 f32 f31 f30 f29 f28 f27 f26 f25 f24 f23 f22 f21 f20 f19 f18 f17 f16 f15 f14 f13 f12 f11 f10 f9 f8 f7 f6 f5 f4 f3 f2 f1 f0
theorem q_227w_20 {q0 : Nat} {n0 n1 n2 n3 n4 n5 n6 n7 n8 n9 n10 n12 n13 n14 n15 n16 n17 n21 n22 n23 n24 n25 n26 n30 n31 n32 n33 : Int} {H0 H1 H2 H3 H4 H5 H6 H7 H8 H9 H10 H11 H12 : gH} (f0 : n0 ≤ 1) (f1 : 1 ≤ n0) (f2 : n1 ≤ 1007) (f3 : 0 ≤ n1) (f4 : n2 ≤ 5) (f5 : 0 ≤ n2) (f6 : (hLe T0 H0 H1 ∧ hFr s_227.2.2.2.2 H0 H1 ∧ hWt T0 H1) ∧ ((Ab_227_180 n4 n3 n2 n1 n0 H0 H1 ∧ Bb_227_180 n4 n3 n2 n1 n0 H0 H1) ∧ preb_227 n4 H0) ∧ some q0 = some (mub_227_180 n4 n3 n2 n1 n0 H0 H1)) (f7 : n2 = 2) (f8 : n5 = 300) (f9 : n6 = 0) (f10 : n7 = 2) (f11 : (hLe T0 H1 H2 ∧ hFr s_223.2.2.2.2 H1 H2 ∧ ((0 : Int) = 0 → H2.length = H1.length) ∧ hWt T0 H2) ∧ (postb_223 n8 n3 n6 n7 H1 H2 ∧ nb_223 n8 n3 n6 n7 H1 H2)) (f12 : hUpd H3 H2 n5 n1 n8) (f13 : n9 = 34) (f14 : (hLe T0 H3 H4 ∧ hFr s_220.2.2.2.2 H3 H4 ∧ ((0 : Int) = 0 → H4.length = H3.length) ∧ hWt T0 H4) ∧ (postb_220 n3 n9 H3 H4 ∧ nb_220 n3 n9 H3 H4)) (f15 : n10 = 305) (f16 : n13 = 0) (f17 : n14 = 2) (f18 : (hLe T0 H4 H5 ∧ hFr s_223.2.2.2.2 H4 H5 ∧ ((0 : Int) = 0 → H5.length = H4.length) ∧ hWt T0 H5) ∧ (postb_223 n15 n3 n13 n14 H4 H5 ∧ nb_223 n15 n3 n13 n14 H4 H5)) (f19 : hUpd H6 H5 n10 n12 n15) (f20 : n16 = 35) (f21 : (hLe T0 H6 H7 ∧ hFr s_220.2.2.2.2 H6 H7 ∧ ((0 : Int) = 0 → H7.length = H6.length) ∧ hWt T0 H7) ∧ (postb_220 n3 n16 H6 H7 ∧ nb_220 n3 n16 H6 H7)) (f22 : n17 = 305) (f23 : n22 = 0) (f24 : n23 = 400) (f25 : (hLe T0 H7 H8 ∧ hFr s_223.2.2.2.2 H7 H8 ∧ ((0 : Int) = 0 → H8.length = H7.length) ∧ hWt T0 H8) ∧ (postb_223 n24 n3 n22 n23 H7 H8 ∧ nb_223 n24 n3 n22 n23 H7 H8)) (f26 : hUpd H9 H8 n17 n21 n24) (f27 : n25 = 36) (f28 : (hLe T0 H9 H10 ∧ hFr s_220.2.2.2.2 H9 H10 ∧ ((0 : Int) = 0 → H10.length = H9.length) ∧ hWt T0 H10) ∧ (postb_220 n3 n25 H9 H10 ∧ nb_220 n3 n25 H9 H10)) (f29 : n26 = 305) (f30 : n31 = 0) (f31 : n32 = 60) (f32 : (hLe T0 H10 H11 ∧ hFr s_223.2.2.2.2 H10 H11 ∧ ((0 : Int) = 0 → H11.length = H10.length) ∧ hWt T0 H11) ∧ (postb_223 n33 n3 n31 n32 H10 H11 ∧ nb_223 n33 n3 n31 n32 H10 H11)) (f33 : hUpd H12 H11 n26 n30 n33) : Bb_227_567 n4 n3 n2 n1 n0 H0 H12 := by
  unfold Bb_227_567
  intro z zr
  have ga := f6.2.1.1.2
  unfold Bb_227_180 at ga
  obtain ⟨z1, a1, pm, ps, k0, k5, kd, h16⟩ := ga z zr
  have vz : vwR H1 = vwR H0 := vwR_fr f6.1.2.1 (by decide +kernel)
  have xc := f7
  have rg0 := f0
  have rg1 := f1
  have rg2 := f2
  have rg3 := f3
  have rg4 := f4
  have rg5 := f5
  have ke : 20 + n2 = 22 := by omega
  rw [ke] at a1 kd
  have c0 := f11.2.2 z1
  try rw [f9] at c0
  try rw [f10] at c0
  rw [vz, a1] at c0
  have v0 : vwR H2 = vwR H0 := (vwR_fr f11.1.2.1 (by decide +kernel)).trans vz
  have p1 := PR_row (q := 300) f12 f8 (by decide) c0.1
  have v1 : vwR H3 = vwR H0 := p1.2.1.trans v0
  have ah1 : absR H3 = (pnm (vwR H0) 0 2 (ptk (vwR H0) 22 (absR H0))) := p1.1.trans c0.2
  have c2 := f14.2.2 p1.2.2.1 (by rw [f13]; decide)
  try rw [f13] at c2
  rw [v1, ah1, kmc_34] at c2
  have v2 : vwR H4 = vwR H0 := (vwR_fr f14.1.2.1 (by decide +kernel)).trans v1
  have c3 := f18.2.2 c2.1
  try rw [f16] at c3
  try rw [f17] at c3
  rw [v2, c2.2] at c3
  have v3 : vwR H5 = vwR H0 := (vwR_fr f18.1.2.1 (by decide +kernel)).trans v2
  have p4 := PR_row (q := 305) f19 f15 (by decide) c3.1
  have v4 : vwR H6 = vwR H0 := p4.2.1.trans v3
  have ah4 : absR H6 = (pnm (vwR H0) 0 2 (ptk (vwR H0) 33 (pnm (vwR H0) 0 2 (ptk (vwR H0) 22 (absR H0))))) := p4.1.trans c3.2
  have c5 := f21.2.2 p4.2.2.1 (by rw [f20]; decide)
  try rw [f20] at c5
  rw [v4, ah4, kmc_35] at c5
  have v5 : vwR H7 = vwR H0 := (vwR_fr f21.1.2.1 (by decide +kernel)).trans v4
  have c6 := f25.2.2 c5.1
  try rw [f23] at c6
  try rw [f24] at c6
  rw [v5, c5.2] at c6
  have v6 : vwR H8 = vwR H0 := (vwR_fr f25.1.2.1 (by decide +kernel)).trans v5
  have p7 := PR_row (q := 305) f26 f22 (by decide) c6.1
  have v7 : vwR H9 = vwR H0 := p7.2.1.trans v6
  have ah7 : absR H9 = (pnm (vwR H0) 0 400 (ptk (vwR H0) 34 (pnm (vwR H0) 0 2 (ptk (vwR H0) 33 (pnm (vwR H0) 0 2 (ptk (vwR H0) 22 (absR H0))))))) := p7.1.trans c6.2
  have c8 := f28.2.2 p7.2.2.1 (by rw [f27]; decide)
  try rw [f27] at c8
  rw [v7, ah7, kmc_36] at c8
  have v8 : vwR H10 = vwR H0 := (vwR_fr f28.1.2.1 (by decide +kernel)).trans v7
  have c9 := f32.2.2 c8.1
  try rw [f30] at c9
  try rw [f31] at c9
  rw [v8, c8.2] at c9
  have v9 : vwR H11 = vwR H0 := (vwR_fr f32.1.2.1 (by decide +kernel)).trans v8
  have p10 := PR_row (q := 305) f33 f29 (by decide) c9.1
  have v10 : vwR H12 = vwR H0 := p10.2.1.trans v9
  have ah10 : absR H12 = (pnm (vwR H0) 0 60 (ptk (vwR H0) 35 (pnm (vwR H0) 0 400 (ptk (vwR H0) 34 (pnm (vwR H0) 0 2 (ptk (vwR H0) 33 (pnm (vwR H0) 0 2 (ptk (vwR H0) 22 (absR H0))))))))) := p10.1.trans c9.2
  have pm2 : hV H12 296 = hV H1 296 := (uRowNe f33 296 (by rw [f29]; decide)).trans ((fRow f32.1.2.1 296 (by decide +kernel)).trans ((fRow f28.1.2.1 296 (by decide +kernel)).trans ((uRowNe f26 296 (by rw [f22]; decide)).trans ((fRow f25.1.2.1 296 (by decide +kernel)).trans ((fRow f21.1.2.1 296 (by decide +kernel)).trans ((uRowNe f19 296 (by rw [f15]; decide)).trans ((fRow f18.1.2.1 296 (by decide +kernel)).trans ((fRow f14.1.2.1 296 (by decide +kernel)).trans ((uRowNe f12 296 (by rw [f8]; decide)).trans (fRow f11.1.2.1 296 (by decide +kernel)))))))))))
  have ps2 : hV H12 297 = hV H1 297 := (uRowNe f33 297 (by rw [f29]; decide)).trans ((fRow f32.1.2.1 297 (by decide +kernel)).trans ((fRow f28.1.2.1 297 (by decide +kernel)).trans ((uRowNe f26 297 (by rw [f22]; decide)).trans ((fRow f25.1.2.1 297 (by decide +kernel)).trans ((fRow f21.1.2.1 297 (by decide +kernel)).trans ((uRowNe f19 297 (by rw [f15]; decide)).trans ((fRow f18.1.2.1 297 (by decide +kernel)).trans ((fRow f14.1.2.1 297 (by decide +kernel)).trans ((uRowNe f12 297 (by rw [f8]; decide)).trans (fRow f11.1.2.1 297 (by decide +kernel)))))))))))
  refine ⟨p10.2.2.1, ?_, pm2.trans pm, ps2.trans ps, by omega, by omega, h16, fun _ => ?_⟩
  · rw [kd, pBody_22]
    exact ah10
  · rw [pcz_no (by omega)]
    omega
def g_227w_180_6 : vG := ([(80, [26, 30, 33], [12, 11], 0), (1223, [33, 1, 31, 32], [10, 11], 0), (0, [32], [], 60), (0, [31], [], 0), (0, [26], [], 305), (1220, [1, 25], [9, 10], 0), (0, [25], [], 36), (80, [17, 21, 24], [9, 8], 0), (1223, [24, 1, 22, 23], [7, 8], 0), (0, [23], [], 400), (0, [22], [], 0), (0, [17], [], 305), (1220, [1, 16], [6, 7], 0), (0, [16], [], 35), (80, [10, 12, 15], [6, 5], 0), (1223, [15, 1, 13, 14], [4, 5], 0), (0, [14], [], 2), (0, [13], [], 0), (0, [10], [], 305), (1220, [1, 9], [3, 4], 0), (0, [9], [], 34), (80, [5, 3, 8], [3, 2], 0), (1223, [8, 1, 6, 7], [1, 2], 0), (0, [7], [], 2), (0, [6], [], 0), (0, [5], [], 300), (0, [2], [], 2), (5000, [0, 1, 2, 3, 4], [0, 1], 180), (90, [2], [], 0), (91, [2], [], 5), (90, [3], [], 0), (91, [3], [], 1007), (90, [4], [], 1), (91, [4], [], 1)], (4000, [1, 2, 3, 4], [12], 567))
theorem c_227w_180_6 {q0 : Nat} : vOkm T0 (eN e_227 L_227w A_227 mu_227 n_227 B_227 (some q0)) 1 g_227w_180_6 := vOk_inI fun ρ η f0 f1 f2 f3 f4 f5 f6 f7 f8 f9 f10 f11 f12 f13 f14 f15 f16 f17 f18 f19 f20 f21 f22 f23 f24 f25 f26 f27 f28 f29 f30 f31 f32 f33 => q_227w_20 (q0 := q0) (n0 := ρ 4) (n1 := ρ 3) (n2 := ρ 2) (n3 := ρ 1) (n4 := ρ 0) (n5 := ρ 5) (n6 := ρ 6) (n7 := ρ 7) (n8 := ρ 8) (n9 := ρ 9) (n10 := ρ 10) (n12 := ρ 12) (n13 := ρ 13) (n14 := ρ 14) (n15 := ρ 15) (n16 := ρ 16) (n17 := ρ 17) (n21 := ρ 21) (n22 := ρ 22) (n23 := ρ 23) (n24 := ρ 24) (n25 := ρ 25) (n26 := ρ 26) (n30 := ρ 30) (n31 := ρ 31) (n32 := ρ 32) (n33 := ρ 33) (H0 := η 0) (H1 := η 1) (H2 := η 2) (H3 := η 3) (H4 := η 4) (H5 := η 5) (H6 := η 6) (H7 := η 7) (H8 := η 8) (H9 := η 9) (H10 := η 10) (H11 := η 11) (H12 := η 12) f33 f32 f31 f30 f29 f28 f27 f26 f25 f24 f23 f22 f21 f20 f19 f18 f17 f16 f15 f14 f13 f12 f11 f10 f9 f8 f7 f6 f5 f4 f3 f2 f1 f0
theorem q_227w_21 {q0 : Nat} {n0 n1 n2 n3 n4 : Int} {H0 H1 H2 : gH} (f0 : n0 ≤ 1) (f1 : 1 ≤ n0) (f2 : n1 ≤ 1007) (f3 : 0 ≤ n1) (f4 : n2 ≤ 5) (f5 : 0 ≤ n2) (f6 : (hLe T0 H0 H1 ∧ hFr s_227.2.2.2.2 H0 H1 ∧ hWt T0 H1) ∧ ((Ab_227_180 n4 n3 n2 n1 n0 H0 H1 ∧ Bb_227_180 n4 n3 n2 n1 n0 H0 H1) ∧ preb_227 n4 H0) ∧ some q0 = some (mub_227_180 n4 n3 n2 n1 n0 H0 H1)) (f7 : n2 = 3) (f8 : (hLe T0 H1 H2 ∧ hFr s_230.2.2.2.2 H1 H2 ∧ ((0 : Int) = 0 → H2.length = H1.length) ∧ hWt T0 H2) ∧ (postb_230 n3 n1 H1 H2 ∧ nb_230 n3 n1 H1 H2)) : Bb_227_567 n4 n3 n2 n1 n0 H0 H2 := by
  unfold Bb_227_567
  intro z zr
  have ga := f6.2.1.1.2
  unfold Bb_227_180 at ga
  obtain ⟨z1, a1, pm, ps, k0, k5, kd, h16⟩ := ga z zr
  have vz : vwR H1 = vwR H0 := vwR_fr f6.1.2.1 (by decide +kernel)
  have xc := f7
  have rg0 := f0
  have rg1 := f1
  have rg2 := f2
  have rg3 := f3
  have rg4 := f4
  have rg5 := f5
  have ke : 20 + n2 = 23 := by omega
  rw [ke] at a1 kd
  have c0 := f8.2.2 z1
  rw [vz, a1] at c0
  have v0 : vwR H2 = vwR H0 := (vwR_fr f8.1.2.1 (by decide +kernel)).trans vz
  have pm2 : hV H2 296 = hV H1 296 := fRow f8.1.2.1 296 (by decide +kernel)
  have ps2 : hV H2 297 = hV H1 297 := fRow f8.1.2.1 297 (by decide +kernel)
  refine ⟨c0.1, ?_, pm2.trans pm, ps2.trans ps, by omega, by omega, h16, fun _ => ?_⟩
  · rw [kd, pBody_23]
    exact c0.2
  · rw [pcz_no (by omega)]
    omega
def g_227w_180_7 : vG := ([(1230, [1, 3], [1, 2], 0), (0, [2], [], 3), (5000, [0, 1, 2, 3, 4], [0, 1], 180), (90, [2], [], 0), (91, [2], [], 5), (90, [3], [], 0), (91, [3], [], 1007), (90, [4], [], 1), (91, [4], [], 1)], (4000, [1, 2, 3, 4], [2], 567))
theorem c_227w_180_7 {q0 : Nat} : vOkm T0 (eN e_227 L_227w A_227 mu_227 n_227 B_227 (some q0)) 1 g_227w_180_7 := vOk_inI fun ρ η f0 f1 f2 f3 f4 f5 f6 f7 f8 => q_227w_21 (q0 := q0) (n0 := ρ 4) (n1 := ρ 3) (n2 := ρ 2) (n3 := ρ 1) (n4 := ρ 0) (H0 := η 0) (H1 := η 1) (H2 := η 2) f8 f7 f6 f5 f4 f3 f2 f1 f0
theorem q_227w_22 {q0 : Nat} {n0 n1 n2 n3 n4 n5 n6 n7 n8 : Int} {H0 H1 H2 H3 : gH} (f0 : n0 ≤ 1) (f1 : 1 ≤ n0) (f2 : n1 ≤ 1007) (f3 : 0 ≤ n1) (f4 : n2 ≤ 5) (f5 : 0 ≤ n2) (f6 : (hLe T0 H0 H1 ∧ hFr s_227.2.2.2.2 H0 H1 ∧ hWt T0 H1) ∧ ((Ab_227_180 n4 n3 n2 n1 n0 H0 H1 ∧ Bb_227_180 n4 n3 n2 n1 n0 H0 H1) ∧ preb_227 n4 H0) ∧ some q0 = some (mub_227_180 n4 n3 n2 n1 n0 H0 H1)) (f7 : n2 = 4) (f8 : n5 = 300) (f9 : n6 = 0) (f10 : n7 = 9999) (f11 : (hLe T0 H1 H2 ∧ hFr s_223.2.2.2.2 H1 H2 ∧ ((0 : Int) = 0 → H2.length = H1.length) ∧ hWt T0 H2) ∧ (postb_223 n8 n3 n6 n7 H1 H2 ∧ nb_223 n8 n3 n6 n7 H1 H2)) (f12 : hUpd H3 H2 n5 n1 n8) : Bb_227_567 n4 n3 n2 n1 n0 H0 H3 := by
  unfold Bb_227_567
  intro z zr
  have ga := f6.2.1.1.2
  unfold Bb_227_180 at ga
  obtain ⟨z1, a1, pm, ps, k0, k5, kd, h16⟩ := ga z zr
  have vz : vwR H1 = vwR H0 := vwR_fr f6.1.2.1 (by decide +kernel)
  have xc := f7
  have rg0 := f0
  have rg1 := f1
  have rg2 := f2
  have rg3 := f3
  have rg4 := f4
  have rg5 := f5
  have ke : 20 + n2 = 24 := by omega
  rw [ke] at a1 kd
  have c0 := f11.2.2 z1
  try rw [f9] at c0
  try rw [f10] at c0
  rw [vz, a1] at c0
  have v0 : vwR H2 = vwR H0 := (vwR_fr f11.1.2.1 (by decide +kernel)).trans vz
  have p1 := PR_row (q := 300) f12 f8 (by decide) c0.1
  have v1 : vwR H3 = vwR H0 := p1.2.1.trans v0
  have ah1 : absR H3 = (pnm (vwR H0) 0 9999 (ptk (vwR H0) 24 (absR H0))) := p1.1.trans c0.2
  have pm2 : hV H3 296 = hV H1 296 := (uRowNe f12 296 (by rw [f8]; decide)).trans (fRow f11.1.2.1 296 (by decide +kernel))
  have ps2 : hV H3 297 = hV H1 297 := (uRowNe f12 297 (by rw [f8]; decide)).trans (fRow f11.1.2.1 297 (by decide +kernel))
  refine ⟨p1.2.2.1, ?_, pm2.trans pm, ps2.trans ps, by omega, by omega, h16, fun _ => ?_⟩
  · rw [kd, pBody_24]
    exact ah1
  · rw [pcz_no (by omega)]
    omega
def g_227w_180_8 : vG := ([(80, [5, 3, 8], [3, 2], 0), (1223, [8, 1, 6, 7], [1, 2], 0), (0, [7], [], 9999), (0, [6], [], 0), (0, [5], [], 300), (0, [2], [], 4), (5000, [0, 1, 2, 3, 4], [0, 1], 180), (90, [2], [], 0), (91, [2], [], 5), (90, [3], [], 0), (91, [3], [], 1007), (90, [4], [], 1), (91, [4], [], 1)], (4000, [1, 2, 3, 4], [3], 567))
theorem c_227w_180_8 {q0 : Nat} : vOkm T0 (eN e_227 L_227w A_227 mu_227 n_227 B_227 (some q0)) 1 g_227w_180_8 := vOk_inI fun ρ η f0 f1 f2 f3 f4 f5 f6 f7 f8 f9 f10 f11 f12 => q_227w_22 (q0 := q0) (n0 := ρ 4) (n1 := ρ 3) (n2 := ρ 2) (n3 := ρ 1) (n4 := ρ 0) (n5 := ρ 5) (n6 := ρ 6) (n7 := ρ 7) (n8 := ρ 8) (H0 := η 0) (H1 := η 1) (H2 := η 2) (H3 := η 3) f12 f11 f10 f9 f8 f7 f6 f5 f4 f3 f2 f1 f0
def p_227w_180 : List vG := [g_227w_180_0,
  g_227w_180_1,
  g_227w_180_2,
  g_227w_180_3,
  g_227w_180_4,
  g_227w_180_5,
  g_227w_180_6,
  g_227w_180_7,
  g_227w_180_8]
theorem r_227w_180 : vCovBO (eRc e_227 L_227 cs_227 2000 (180, [(0, (3, 12, 285, 0)), (1, (0, 0, 5, 0)), (2, (0, 0, 1007, 0)), (3, (0, 1, 1, 0))])) p_227w_180 = true := by decide +kernel
theorem q_227w_23 {q0 : Nat} {n0 n1 n2 n3 n4 n5 n6 n7 n8 n9 n10 n11 n12 n13 n14 n15 n16 n17 n18 n19 n20 : Int} {H0 H1 : gH} (f0 : n0 ≤ 5) (f1 : (-1) ≤ n0) (f2 : n3 ≤ 1007) (f3 : 0 ≤ n3) (f4 : n5 = 285) (f5 : (hLe T0 H0 H1 ∧ hFr s_227.2.2.2.2 H0 H1 ∧ hWt T0 H1) ∧ ((Ab_227_471 n6 n5 n4 n3 n2 n1 n0 H0 H1 ∧ Bb_227_471 n6 n5 n4 n3 n2 n1 n0 H0 H1) ∧ preb_227 n6 H0) ∧ some q0 = some (mub_227_471 n6 n5 n4 n3 n2 n1 n0 H0 H1)) (f6 : n0 < 0) (f7 : n7 = 300) (f8 : n8 ≤ 9999) (f9 : (-1) ≤ n8) (f10 : n8 = hV H1 (n7).toNat (n3).toNat) (f11 : n9 = (-1)) (f12 : n8 ≠ n9) (f13 : n10 = 300) (f14 : n11 ≤ 9999) (f15 : (-1) ≤ n11) (f16 : n11 = hV H1 (n10).toNat (n3).toNat) (f17 : n12 = (-1)) (f18 : n11 ≠ n12) (f19 : n13 = 297) (f20 : n14 = 7) (f21 : n15 ≤ 7) (f22 : 0 ≤ n15) (f23 : n15 = hV H1 (n5).toNat 32) (f24 : n16 = w32 (n14 * n15)) (f25 : n17 = 300) (f26 : n18 ≤ 9999) (f27 : (-1) ≤ n18) (f28 : n18 = hV H1 (n17).toNat (n3).toNat) (f29 : n19 = w32 (n16 + n18)) (f30 : n20 ≤ 2000) (f31 : 0 ≤ n20) (f32 : n20 = hV H1 (n13).toNat (n19).toNat) : Bb_227_567 n6 n5 n4 n3 n20 H0 H1 := by
  unfold Bb_227_567
  intro z zr
  have ga := f5.2.1.1.2
  unfold Bb_227_471 at ga
  obtain ⟨z1, a1, pm, ps, kd, h16, f0_, t4, k4, uq, t0, tl, xl, xh, sr⟩ := ga z zr
  have vz : vwR H1 = vwR H0 := vwR_fr f5.1.2.1 (by decide +kernel)
  have q13 := f6
  have q21 := f12
  have qc20 := f11
  have q29 := f18
  have qc28 := f17
  have d19 := rdW (q := 300) f10 f7
  have d27 := rdW (q := 300) f16 f13
  have d37 := rdS (q := 285) f23 f4
  have d44 := rdW (q := 300) f28 f25
  have d48 := rdW (q := 297) f32 f19
  have f32_ : hV H1 285 32 = hV H0 285 32 := f5.1.2.1.1 285 32 (by decide +kernel)
  have bl0 : hV H1 294 = hV H0 294 := fRow f5.1.2.1 294 (by decide +kernel)
  have bn0 : hV H1 295 = hV H0 295 := fRow f5.1.2.1 295 (by decide +kernel)
  have rg0 := f0
  have rg1 := f1
  have rg6 := f2
  have rg7 := f3
  have rg17 := f8
  have rg18 := f9
  have rg25 := f14
  have rg26 := f15
  have rg34 := f21
  have rg35 := f22
  have rg42 := f26
  have rg43 := f27
  have rg46 := f30
  have rg47 := f31
  have se := SRi_end sr (by omega)
  have e0 := d19
  have hpe := absR_pos z1 f0_
  have hq := hpe.2
  rw [a1] at hq
  have B1 := (pb_trans (pb_tk z (c := 2)) (pb_tk z (c := 26)) (pb_time z hq).1).1
  have e1 := d27
  have s38 : n16 = 7 * n15 := by
    have q := f24
    rw [f20] at q
    rw [q]
    exact w32_id (by omega) (by omega)
  have s45 : n19 = n16 + n18 := by
    have q := f29
    rw [q]
    exact w32_id (by omega) (by omega)
  have e32 := d37
  rw [f32_] at e32
  have eb := d48
  rw [ps] at eb
  have pf : pfd (BLr H0) ((vwR H0).2.2.1 (ptk (vwR H0) 25 (absR H0)).1) = n20 := by
    rcases se with s | s
    · omega
    · rw [s.2.2, eb]
      congr 1
      have := d44
      omega
  have pn : ¬ n20 = -1 := by omega
  refine ⟨z1, ?_, pm, ps, by omega, by omega, h16, fun _ => ?_⟩
  · rw [a1, kd, pBody_25, use_same (fun c => pn (pf.symm.trans c.2))]
  · rw [pczR_use z kd B1, pf, if_neg pn]
def g_227w_471_0 : vG := ([(22, [20, 13, 19], [1], 0), (90, [20], [], 0), (91, [20], [], 2000), (1, [19, 16, 18], [], 0), (22, [18, 17, 3], [1], 0), (90, [18], [], -1), (91, [18], [], 9999), (0, [17], [], 300), (3, [16, 14, 15], [], 0), (20, [15, 1], [1], 32), (90, [15], [], 0), (91, [15], [], 7), (0, [14], [], 7), (0, [13], [], 297), (41, [11, 12], [], 0), (0, [12], [], -1), (22, [11, 10, 3], [1], 0), (90, [11], [], -1), (91, [11], [], 9999), (0, [10], [], 300), (41, [8, 9], [], 0), (0, [9], [], -1), (22, [8, 7, 3], [1], 0), (90, [8], [], -1), (91, [8], [], 9999), (0, [7], [], 300), (32, [6], [], 0), (5000, [0, 1, 2, 3, 4, 5, 6], [0, 1], 471), (0, [1], [], 285), (90, [3], [], 0), (91, [3], [], 1007), (90, [6], [], -1), (91, [6], [], 5)], (4000, [1, 2, 3, 20], [1], 567))
theorem c_227w_471_0 {q0 : Nat} : vOkm T0 (eN e_227 L_227w A_227 mu_227 n_227 B_227 (some q0)) 1 g_227w_471_0 := vOk_inI fun ρ η f0 f1 f2 f3 f4 f5 f6 f7 f8 f9 f10 f11 f12 f13 f14 f15 f16 f17 f18 f19 f20 f21 f22 f23 f24 f25 f26 f27 f28 f29 f30 f31 f32 => q_227w_23 (q0 := q0) (n0 := ρ 6) (n1 := ρ 5) (n2 := ρ 4) (n3 := ρ 3) (n4 := ρ 2) (n5 := ρ 1) (n6 := ρ 0) (n7 := ρ 7) (n8 := ρ 8) (n9 := ρ 9) (n10 := ρ 10) (n11 := ρ 11) (n12 := ρ 12) (n13 := ρ 13) (n14 := ρ 14) (n15 := ρ 15) (n16 := ρ 16) (n17 := ρ 17) (n18 := ρ 18) (n19 := ρ 19) (n20 := ρ 20) (H0 := η 0) (H1 := η 1) f32 f31 f30 f29 f28 f27 f26 f25 f24 f23 f22 f21 f20 f19 f18 f17 f16 f15 f14 f13 f12 f11 f10 f9 f8 f7 f6 f5 f4 f3 f2 f1 f0
theorem q_227w_24 {q0 : Nat} {n0 n1 n2 n3 n4 n5 n6 n7 n8 n9 n10 n11 n12 n13 : Int} {H0 H1 : gH} (f0 : n0 ≤ 5) (f1 : (-1) ≤ n0) (f2 : n3 ≤ 1007) (f3 : 0 ≤ n3) (f4 : (hLe T0 H0 H1 ∧ hFr s_227.2.2.2.2 H0 H1 ∧ hWt T0 H1) ∧ ((Ab_227_471 n6 n5 n4 n3 n2 n1 n0 H0 H1 ∧ Bb_227_471 n6 n5 n4 n3 n2 n1 n0 H0 H1) ∧ preb_227 n6 H0) ∧ some q0 = some (mub_227_471 n6 n5 n4 n3 n2 n1 n0 H0 H1)) (f5 : n0 < 0) (f6 : n7 = 300) (f7 : n8 ≤ 9999) (f8 : (-1) ≤ n8) (f9 : n8 = hV H1 (n7).toNat (n3).toNat) (f10 : n9 = (-1)) (f11 : n8 ≠ n9) (f12 : n10 = 300) (f13 : n11 ≤ 9999) (f14 : (-1) ≤ n11) (f15 : n11 = hV H1 (n10).toNat (n3).toNat) (f16 : n12 = (-1)) (f17 : n11 = n12) : Bb_227_567 n6 n5 n4 n3 n13 H0 H1 := by
  unfold Bb_227_567
  intro z zr
  have ga := f4.2.1.1.2
  unfold Bb_227_471 at ga
  obtain ⟨z1, a1, pm, ps, kd, h16, f0_, t4, k4, uq, t0, tl, xl, xh, sr⟩ := ga z zr
  have vz : vwR H1 = vwR H0 := vwR_fr f4.1.2.1 (by decide +kernel)
  have q13 := f5
  have q21 := f11
  have qc20 := f10
  have q29 := f17
  have qc28 := f16
  have d19 := rdW (q := 300) f9 f6
  have d27 := rdW (q := 300) f15 f12
  have f32_ : hV H1 285 32 = hV H0 285 32 := f4.1.2.1.1 285 32 (by decide +kernel)
  have bl0 : hV H1 294 = hV H0 294 := fRow f4.1.2.1 294 (by decide +kernel)
  have bn0 : hV H1 295 = hV H0 295 := fRow f4.1.2.1 295 (by decide +kernel)
  have rg0 := f0
  have rg1 := f1
  have rg6 := f2
  have rg7 := f3
  have rg17 := f7
  have rg18 := f8
  have rg25 := f13
  have rg26 := f14
  have se := SRi_end sr (by omega)
  have e0 := d19
  have hpe := absR_pos z1 f0_
  have hq := hpe.2
  rw [a1] at hq
  have B1 := (pb_trans (pb_tk z (c := 2)) (pb_tk z (c := 26)) (pb_time z hq).1).1
  have e1 := d27
  exfalso
  omega
def g_227w_471_1 : vG := ([(40, [11, 12], [], 0), (0, [12], [], -1), (22, [11, 10, 3], [1], 0), (90, [11], [], -1), (91, [11], [], 9999), (0, [10], [], 300), (41, [8, 9], [], 0), (0, [9], [], -1), (22, [8, 7, 3], [1], 0), (90, [8], [], -1), (91, [8], [], 9999), (0, [7], [], 300), (32, [6], [], 0), (5000, [0, 1, 2, 3, 4, 5, 6], [0, 1], 471), (90, [3], [], 0), (91, [3], [], 1007), (90, [6], [], -1), (91, [6], [], 5)], (4000, [1, 2, 3, 13], [1], 567))
theorem c_227w_471_1 {q0 : Nat} : vOkm T0 (eN e_227 L_227w A_227 mu_227 n_227 B_227 (some q0)) 1 g_227w_471_1 := vOk_inI fun ρ η f0 f1 f2 f3 f4 f5 f6 f7 f8 f9 f10 f11 f12 f13 f14 f15 f16 f17 => q_227w_24 (q0 := q0) (n0 := ρ 6) (n1 := ρ 5) (n2 := ρ 4) (n3 := ρ 3) (n4 := ρ 2) (n5 := ρ 1) (n6 := ρ 0) (n7 := ρ 7) (n8 := ρ 8) (n9 := ρ 9) (n10 := ρ 10) (n11 := ρ 11) (n12 := ρ 12) (n13 := ρ 13) (H0 := η 0) (H1 := η 1) f17 f16 f15 f14 f13 f12 f11 f10 f9 f8 f7 f6 f5 f4 f3 f2 f1 f0
theorem q_227w_25 {q0 : Nat} {n0 n1 n2 n3 n4 n5 n6 n7 n8 n9 n10 n11 n12 n13 n14 n16 n18 n19 n20 n21 : Int} {H0 H1 H2 : gH} (f0 : n0 ≤ 5) (f1 : (-1) ≤ n0) (f2 : n3 ≤ 1007) (f3 : 0 ≤ n3) (f4 : n5 = 285) (f5 : (hLe T0 H0 H1 ∧ hFr s_227.2.2.2.2 H0 H1 ∧ hWt T0 H1) ∧ ((Ab_227_471 n6 n5 n4 n3 n2 n1 n0 H0 H1 ∧ Bb_227_471 n6 n5 n4 n3 n2 n1 n0 H0 H1) ∧ preb_227 n6 H0) ∧ some q0 = some (mub_227_471 n6 n5 n4 n3 n2 n1 n0 H0 H1)) (f6 : n0 < 0) (f7 : n7 = 300) (f8 : n8 ≤ 9999) (f9 : (-1) ≤ n8) (f10 : n8 = hV H1 (n7).toNat (n3).toNat) (f11 : n9 = (-1)) (f12 : n8 = n9) (f13 : n10 = 4) (f14 : (hLe T0 H1 H2 ∧ hFr s_218.2.2.2.2 H1 H2 ∧ ((0 : Int) = 0 → H2.length = H1.length) ∧ hWt T0 H2) ∧ (postb_218 n5 n10 n1 H1 H2 ∧ nb_218 n5 n10 n1 H1 H2)) (f15 : n11 = 300) (f16 : n12 ≤ 9999) (f17 : (-1) ≤ n12) (f18 : n12 = hV H2 (n11).toNat (n3).toNat) (f19 : n13 = (-1)) (f20 : n12 ≠ n13) (f21 : n14 = 297) (f22 : n16 ≤ 7) (f23 : 0 ≤ n16) (f24 : n16 = hV H2 (n5).toNat 32) (f25 : n18 = 300) (f26 : n19 ≤ 9999) (f27 : (-1) ≤ n19) (f28 : n19 = hV H2 (n18).toNat (n3).toNat) (f29 : n21 ≤ 2000) (f30 : 0 ≤ n21) (f31 : n21 = hV H2 (n14).toNat (n20).toNat) : Bb_227_567 n6 n5 n4 n3 n21 H0 H2 := by
  unfold Bb_227_567
  intro z zr
  have ga := f5.2.1.1.2
  unfold Bb_227_471 at ga
  obtain ⟨z1, a1, pm, ps, kd, h16, f0_, t4, k4, uq, t0, tl, xl, xh, sr⟩ := ga z zr
  have vz : vwR H1 = vwR H0 := vwR_fr f5.1.2.1 (by decide +kernel)
  have q13 := f6
  have q21 := f12
  have qc20 := f11
  have q31 := f20
  have qc30 := f19
  have d19 := rdW (q := 300) f10 f7
  have d29 := rdW (q := 300) f18 f15
  have d39 := rdS (q := 285) f24 f4
  have d46 := rdW (q := 300) f28 f25
  have d50 := rdW (q := 297) f31 f21
  have f32_ : hV H1 285 32 = hV H0 285 32 := f5.1.2.1.1 285 32 (by decide +kernel)
  have bl0 : hV H1 294 = hV H0 294 := fRow f5.1.2.1 294 (by decide +kernel)
  have bn0 : hV H1 295 = hV H0 295 := fRow f5.1.2.1 295 (by decide +kernel)
  have rg0 := f0
  have rg1 := f1
  have rg6 := f2
  have rg7 := f3
  have rg17 := f8
  have rg18 := f9
  have rg27 := f16
  have rg28 := f17
  have rg36 := f22
  have rg37 := f23
  have rg44 := f26
  have rg45 := f27
  have rg48 := f29
  have rg49 := f30
  have se := SRi_end sr (by omega)
  have e0 := d19
  have hpe := absR_pos z1 f0_
  have hq := hpe.2
  rw [a1] at hq
  have B1 := (pb_trans (pb_tk z (c := 2)) (pb_tk z (c := 26)) (pb_time z hq).1).1
  have ww := f14.2.2
  unfold nb_218 at ww
  rw [f13] at ww
  have wu := wr_use z1 f0_ ww uq t0 tl
  have cw2 : hV H2 300 = hV H1 300 := fRow f14.1.2.1 300 (by decide +kernel)
  have e1 := d29
  rw [cw2] at e1
  exfalso
  omega
def g_227w_471_2 : vG := ([(22, [21, 14, 20], [2], 0), (90, [21], [], 0), (91, [21], [], 2000), (22, [19, 18, 3], [2], 0), (90, [19], [], -1), (91, [19], [], 9999), (0, [18], [], 300), (20, [16, 1], [2], 32), (90, [16], [], 0), (91, [16], [], 7), (0, [14], [], 297), (41, [12, 13], [], 0), (0, [13], [], -1), (22, [12, 11, 3], [2], 0), (90, [12], [], -1), (91, [12], [], 9999), (0, [11], [], 300), (1218, [1, 10, 5], [1, 2], 0), (0, [10], [], 4), (40, [8, 9], [], 0), (0, [9], [], -1), (22, [8, 7, 3], [1], 0), (90, [8], [], -1), (91, [8], [], 9999), (0, [7], [], 300), (32, [6], [], 0), (5000, [0, 1, 2, 3, 4, 5, 6], [0, 1], 471), (0, [1], [], 285), (90, [3], [], 0), (91, [3], [], 1007), (90, [6], [], -1), (91, [6], [], 5)], (4000, [1, 2, 3, 21], [2], 567))
theorem c_227w_471_2 {q0 : Nat} : vOkm T0 (eN e_227 L_227w A_227 mu_227 n_227 B_227 (some q0)) 1 g_227w_471_2 := vOk_inI fun ρ η f0 f1 f2 f3 f4 f5 f6 f7 f8 f9 f10 f11 f12 f13 f14 f15 f16 f17 f18 f19 f20 f21 f22 f23 f24 f25 f26 f27 f28 f29 f30 f31 => q_227w_25 (q0 := q0) (n0 := ρ 6) (n1 := ρ 5) (n2 := ρ 4) (n3 := ρ 3) (n4 := ρ 2) (n5 := ρ 1) (n6 := ρ 0) (n7 := ρ 7) (n8 := ρ 8) (n9 := ρ 9) (n10 := ρ 10) (n11 := ρ 11) (n12 := ρ 12) (n13 := ρ 13) (n14 := ρ 14) (n16 := ρ 16) (n18 := ρ 18) (n19 := ρ 19) (n20 := ρ 20) (n21 := ρ 21) (H0 := η 0) (H1 := η 1) (H2 := η 2) f31 f30 f29 f28 f27 f26 f25 f24 f23 f22 f21 f20 f19 f18 f17 f16 f15 f14 f13 f12 f11 f10 f9 f8 f7 f6 f5 f4 f3 f2 f1 f0
theorem q_227w_26 {q0 : Nat} {n0 n1 n2 n3 n4 n5 n6 n7 n8 n9 n10 n11 n12 n13 n14 : Int} {H0 H1 H2 : gH} (f0 : n0 ≤ 5) (f1 : (-1) ≤ n0) (f2 : n3 ≤ 1007) (f3 : 0 ≤ n3) (f4 : (hLe T0 H0 H1 ∧ hFr s_227.2.2.2.2 H0 H1 ∧ hWt T0 H1) ∧ ((Ab_227_471 n6 n5 n4 n3 n2 n1 n0 H0 H1 ∧ Bb_227_471 n6 n5 n4 n3 n2 n1 n0 H0 H1) ∧ preb_227 n6 H0) ∧ some q0 = some (mub_227_471 n6 n5 n4 n3 n2 n1 n0 H0 H1)) (f5 : n0 < 0) (f6 : n7 = 300) (f7 : n8 ≤ 9999) (f8 : (-1) ≤ n8) (f9 : n8 = hV H1 (n7).toNat (n3).toNat) (f10 : n9 = (-1)) (f11 : n8 = n9) (f12 : n10 = 4) (f13 : (hLe T0 H1 H2 ∧ hFr s_218.2.2.2.2 H1 H2 ∧ ((0 : Int) = 0 → H2.length = H1.length) ∧ hWt T0 H2) ∧ (postb_218 n5 n10 n1 H1 H2 ∧ nb_218 n5 n10 n1 H1 H2)) (f14 : n11 = 300) (f15 : n12 ≤ 9999) (f16 : (-1) ≤ n12) (f17 : n12 = hV H2 (n11).toNat (n3).toNat) (f18 : n13 = (-1)) (f19 : n12 = n13) (f20 : n14 = 0) : Bb_227_567 n6 n5 n4 n3 n14 H0 H2 := by
  unfold Bb_227_567
  intro z zr
  have ga := f4.2.1.1.2
  unfold Bb_227_471 at ga
  obtain ⟨z1, a1, pm, ps, kd, h16, f0_, t4, k4, uq, t0, tl, xl, xh, sr⟩ := ga z zr
  have vz : vwR H1 = vwR H0 := vwR_fr f4.1.2.1 (by decide +kernel)
  have q13 := f5
  have q21 := f11
  have qc20 := f10
  have q31 := f19
  have qc30 := f18
  have d19 := rdW (q := 300) f9 f6
  have d29 := rdW (q := 300) f17 f14
  have f32_ : hV H1 285 32 = hV H0 285 32 := f4.1.2.1.1 285 32 (by decide +kernel)
  have bl0 : hV H1 294 = hV H0 294 := fRow f4.1.2.1 294 (by decide +kernel)
  have bn0 : hV H1 295 = hV H0 295 := fRow f4.1.2.1 295 (by decide +kernel)
  have rg0 := f0
  have rg1 := f1
  have rg6 := f2
  have rg7 := f3
  have rg17 := f7
  have rg18 := f8
  have rg27 := f15
  have rg28 := f16
  have se := SRi_end sr (by omega)
  have e0 := d19
  have hpe := absR_pos z1 f0_
  have hq := hpe.2
  rw [a1] at hq
  have B1 := (pb_trans (pb_tk z (c := 2)) (pb_tk z (c := 26)) (pb_time z hq).1).1
  have ww := f13.2.2
  unfold nb_218 at ww
  rw [f12] at ww
  have wu := wr_use z1 f0_ ww uq t0 tl
  have cw2 : hV H2 300 = hV H1 300 := fRow f13.1.2.1 300 (by decide +kernel)
  have e1 := d29
  rw [cw2] at e1
  have xz := f20
  have pm2 : hV H2 296 = hV H1 296 := fRow f13.1.2.1 296 (by decide +kernel)
  have ps2 : hV H2 297 = hV H1 297 := fRow f13.1.2.1 297 (by decide +kernel)
  have pf : pfd (BLr H0) ((vwR H0).2.2.1 (ptk (vwR H0) 25 (absR H0)).1) = -1 := by
    rcases se with s | s
    · exact s.2
    · omega
  have lp : (vwR H0).2.2.2 (ptk (vwR H0) 25 (absR H0)).1 = hV H1 289 (n1).toNat := by
    rw [← t4, ← vz]
    show lR H1 n1 = _
    unfold lR
    exact if_pos ⟨t0, by have := z1.2.2.1; omega, by have := z1.2.2.2.2.2.2.2.2.2.1 f0_; omega⟩
  refine ⟨wu.1, ?_, pm2.trans pm, ps2.trans ps, by omega, by omega, h16, fun _ => ?_⟩
  · rw [kd, pBody_25]
    by_cases c : (ptk (vwR H0) 25 (absR H0)).2 = 0
    · exact use_blame z ⟨c, pf⟩ hq (by rw [wu.2.1, a1]) (by rw [lp]; exact wu.2.2.2.1 c)
    · rw [wu.2.2.1 c, a1, use_same (fun q => c q.1)]
  · rw [pczR_use z kd B1, pf, if_pos rfl]
    exact xz
def g_227w_471_3 : vG := ([(0, [14], [], 0), (40, [12, 13], [], 0), (0, [13], [], -1), (22, [12, 11, 3], [2], 0), (90, [12], [], -1), (91, [12], [], 9999), (0, [11], [], 300), (1218, [1, 10, 5], [1, 2], 0), (0, [10], [], 4), (40, [8, 9], [], 0), (0, [9], [], -1), (22, [8, 7, 3], [1], 0), (90, [8], [], -1), (91, [8], [], 9999), (0, [7], [], 300), (32, [6], [], 0), (5000, [0, 1, 2, 3, 4, 5, 6], [0, 1], 471), (90, [3], [], 0), (91, [3], [], 1007), (90, [6], [], -1), (91, [6], [], 5)], (4000, [1, 2, 3, 14], [2], 567))
theorem c_227w_471_3 {q0 : Nat} : vOkm T0 (eN e_227 L_227w A_227 mu_227 n_227 B_227 (some q0)) 1 g_227w_471_3 := vOk_inI fun ρ η f0 f1 f2 f3 f4 f5 f6 f7 f8 f9 f10 f11 f12 f13 f14 f15 f16 f17 f18 f19 f20 => q_227w_26 (q0 := q0) (n0 := ρ 6) (n1 := ρ 5) (n2 := ρ 4) (n3 := ρ 3) (n4 := ρ 2) (n5 := ρ 1) (n6 := ρ 0) (n7 := ρ 7) (n8 := ρ 8) (n9 := ρ 9) (n10 := ρ 10) (n11 := ρ 11) (n12 := ρ 12) (n13 := ρ 13) (n14 := ρ 14) (H0 := η 0) (H1 := η 1) (H2 := η 2) f20 f19 f18 f17 f16 f15 f14 f13 f12 f11 f10 f9 f8 f7 f6 f5 f4 f3 f2 f1 f0
theorem q_227w_27 {q0 : Nat} {n0 n1 n2 n3 n4 n5 n6 n7 n8 n9 n10 n11 n12 n13 n14 n15 n16 : Int} {H0 H1 : gH} (f0 : n0 ≤ 5) (f1 : (-1) ≤ n0) (f2 : n3 ≤ 1007) (f3 : 0 ≤ n3) (f4 : n5 = 285) (f5 : (hLe T0 H0 H1 ∧ hFr s_227.2.2.2.2 H0 H1 ∧ hWt T0 H1) ∧ ((Ab_227_471 n6 n5 n4 n3 n2 n1 n0 H0 H1 ∧ Bb_227_471 n6 n5 n4 n3 n2 n1 n0 H0 H1) ∧ preb_227 n6 H0) ∧ some q0 = some (mub_227_471 n6 n5 n4 n3 n2 n1 n0 H0 H1)) (f6 : 0 ≤ n0) (f7 : n7 = 295) (f8 : n8 = 6) (f9 : n9 ≤ 7) (f10 : 0 ≤ n9) (f11 : n9 = hV H1 (n5).toNat 32) (f12 : n10 = w32 (n8 * n9)) (f13 : n11 = w32 (n10 + n0)) (f14 : n12 = hV H1 (n7).toNat (n11).toNat) (f15 : n13 = 291) (f16 : n14 = hV H1 (n13).toNat (n1).toNat) (f17 : n15 = (lg_cmp (Int64.ofInt n12) (Int64.ofInt n14)).toInt) (f18 : n15 ≠ 0) (f19 : n16 = w32 (n0 + (-1))) : Bb_227_471 n6 n5 n4 n3 n2 n1 n16 H0 H1 := by
  unfold Bb_227_471
  intro z zr
  have ga := f5.2.1.1.2
  unfold Bb_227_471 at ga
  obtain ⟨z1, a1, pm, ps, kd, h16, f0_, t4, k4, uq, t0, tl, xl, xh, sr⟩ := ga z zr
  have vz : vwR H1 = vwR H0 := vwR_fr f5.1.2.1 (by decide +kernel)
  have q13 := f6
  have q30 := f18
  have q31 := f19
  unfold w32 at q31
  have d21 := rdS (q := 285) f11 f4
  have d24 := rdW (q := 295) f14 f7
  have d28 := rdW (q := 291) f16 f15
  have f32_ : hV H1 285 32 = hV H0 285 32 := f5.1.2.1.1 285 32 (by decide +kernel)
  have bl0 : hV H1 294 = hV H0 294 := fRow f5.1.2.1 294 (by decide +kernel)
  have bn0 : hV H1 295 = hV H0 295 := fRow f5.1.2.1 295 (by decide +kernel)
  have rg0 := f0
  have rg1 := f1
  have rg6 := f2
  have rg7 := f3
  have rg18 := f9
  have rg19 := f10
  have s22 : n10 = 6 * n9 := by
    have q := f12
    rw [f8] at q
    rw [q]
    exact w32_id (by omega) (by omega)
  have s23 : n11 = n10 + n0 := by
    have q := f13
    rw [q]
    exact w32_id (by omega) (by omega)
  have s31 : n16 = n0 + (-1) := by
    have q := f19
    rw [q]
    exact w32_id (by omega) (by omega)
  have nz : hV H1 291 (n1).toNat = (vwR H0).2.2.1 (ptk (vwR H0) 25 (absR H0)).1 := by
    rw [← t4, ← vz]
    show _ = if kR H1 n1 = 1 then _ else _
    have ok : okR H1 n1 := ⟨t0, by have := z1.2.2.1; omega, by have := z1.2.2.2.2.2.2.2.2.2.1 f0_; omega⟩
    unfold kR
    rw [if_pos ok, if_pos k4]
  have nb := (z1.1.2.2.2 (n1).toNat (by have := z1.2.2.2.2.2.2.2.2.2.1 f0_; omega)).2.2.2 k4
  have e32 := d21
  rw [f32_] at e32
  have hpe := absR_pos z1 f0_
  have hq := hpe.2
  rw [a1] at hq
  have fz0 := faultR_no z (pb_tk z (pb_trans (pb_tk z (c := 2)) (pb_tk z (c := 26)) (pb_time z hq).1).1).1
  clear hq hpe
  have ix : (n11).toNat = (6 * hV H0 285 32).toNat + (n0).toNat := by omega
  have zb := (zr fz0 (n0).toNat (by omega)).1
  rw [← ix] at zb
  have nd := d24
  rw [bn0] at nd
  have ne := d28
  have lq := lcR f17 (by rw [nd]; exact zb) (by rw [ne]; exact nb)
  have bb : n0 < hV H0 294 (hV H0 285 32).toNat := xh
  have pm2 : hV H1 296 = hV H1 296 := rfl
  have ps2 : hV H1 297 = hV H1 297 := rfl
  have kd2 : hV H1 288 = hV H1 288 := rfl
  have y11 : hV H1 285 11 = hV H1 285 11 := rfl
  have y13 : hV H1 285 13 = hV H1 285 13 := rfl
  have y15 : hV H1 285 15 = hV H1 285 15 := rfl
  have y16 : hV H1 285 16 = hV H1 285 16 := rfl
  have pl2 : hV H1 289 = hV H1 289 := rfl
  have uq2 : UQ (ptk (vwR H0) 25 (absR H0)).2 n1 H1 := by unfold UQ; rw [y15, y16, pl2]; exact uq
  refine ⟨z1, a1, pm2.trans pm, ps2.trans ps, kd, h16, y13.trans f0_, t4, by rw [kd2]; exact k4, uq2, t0, by rw [y11]; exact tl, by omega, by omega, ?_⟩
  exact SRi_no sr (by omega) bb (by omega) (fun e => absurd (lq.mpr (by rw [nd, ne, ix, e, nz])) (by omega))
def g_227w_471_4 : vG := ([(10, [16, 6], [], -1), (31, [15], [], 0), (65, [15, 12, 14], [], 0), (22, [14, 13, 5], [1], 0), (0, [13], [], 291), (22, [12, 7, 11], [1], 0), (1, [11, 10, 6], [], 0), (3, [10, 8, 9], [], 0), (20, [9, 1], [1], 32), (90, [9], [], 0), (91, [9], [], 7), (0, [8], [], 6), (0, [7], [], 295), (33, [6], [], 0), (5000, [0, 1, 2, 3, 4, 5, 6], [0, 1], 471), (0, [1], [], 285), (90, [3], [], 0), (91, [3], [], 1007), (90, [6], [], -1), (91, [6], [], 5)], (4000, [1, 2, 3, 4, 5, 16], [1], 471))
theorem c_227w_471_4 {q0 : Nat} : vOkm T0 (eN e_227 L_227w A_227 mu_227 n_227 B_227 (some q0)) 1 g_227w_471_4 := vOk_inI fun ρ η f0 f1 f2 f3 f4 f5 f6 f7 f8 f9 f10 f11 f12 f13 f14 f15 f16 f17 f18 f19 => q_227w_27 (q0 := q0) (n0 := ρ 6) (n1 := ρ 5) (n2 := ρ 4) (n3 := ρ 3) (n4 := ρ 2) (n5 := ρ 1) (n6 := ρ 0) (n7 := ρ 7) (n8 := ρ 8) (n9 := ρ 9) (n10 := ρ 10) (n11 := ρ 11) (n12 := ρ 12) (n13 := ρ 13) (n14 := ρ 14) (n15 := ρ 15) (n16 := ρ 16) (H0 := η 0) (H1 := η 1) f19 f18 f17 f16 f15 f14 f13 f12 f11 f10 f9 f8 f7 f6 f5 f4 f3 f2 f1 f0
theorem q_227w_28 {q0 : Nat} {n0 n1 n2 n3 n4 n5 n6 n7 n8 n9 n10 n11 n12 n13 n14 n15 n16 n17 : Int} {H0 H1 H2 : gH} (f0 : n0 ≤ 5) (f1 : (-1) ≤ n0) (f2 : n3 ≤ 1007) (f3 : 0 ≤ n3) (f4 : n5 = 285) (f5 : (hLe T0 H0 H1 ∧ hFr s_227.2.2.2.2 H0 H1 ∧ hWt T0 H1) ∧ ((Ab_227_471 n6 n5 n4 n3 n2 n1 n0 H0 H1 ∧ Bb_227_471 n6 n5 n4 n3 n2 n1 n0 H0 H1) ∧ preb_227 n6 H0) ∧ some q0 = some (mub_227_471 n6 n5 n4 n3 n2 n1 n0 H0 H1)) (f6 : 0 ≤ n0) (f7 : n7 = 295) (f8 : n8 = 6) (f9 : n9 ≤ 7) (f10 : 0 ≤ n9) (f11 : n9 = hV H1 (n5).toNat 32) (f12 : n10 = w32 (n8 * n9)) (f13 : n11 = w32 (n10 + n0)) (f14 : n12 = hV H1 (n7).toNat (n11).toNat) (f15 : n13 = 291) (f16 : n14 = hV H1 (n13).toNat (n1).toNat) (f17 : n15 = (lg_cmp (Int64.ofInt n12) (Int64.ofInt n14)).toInt) (f18 : n15 = 0) (f19 : n16 = 300) (f20 : hUpd H2 H1 n16 n3 n0) (f21 : n17 = w32 (n0 + (-1))) : Bb_227_471 n6 n5 n4 n3 n2 n1 n17 H0 H2 := by
  unfold Bb_227_471
  intro z zr
  have ga := f5.2.1.1.2
  unfold Bb_227_471 at ga
  obtain ⟨z1, a1, pm, ps, kd, h16, f0_, t4, k4, uq, t0, tl, xl, xh, sr⟩ := ga z zr
  have vz : vwR H1 = vwR H0 := vwR_fr f5.1.2.1 (by decide +kernel)
  have q13 := f6
  have q30 := f18
  have q36 := f21
  unfold w32 at q36
  have d21 := rdS (q := 285) f11 f4
  have d24 := rdW (q := 295) f14 f7
  have d28 := rdW (q := 291) f16 f15
  have f32_ : hV H1 285 32 = hV H0 285 32 := f5.1.2.1.1 285 32 (by decide +kernel)
  have bl0 : hV H1 294 = hV H0 294 := fRow f5.1.2.1 294 (by decide +kernel)
  have bn0 : hV H1 295 = hV H0 295 := fRow f5.1.2.1 295 (by decide +kernel)
  have rg0 := f0
  have rg1 := f1
  have rg6 := f2
  have rg7 := f3
  have rg18 := f9
  have rg19 := f10
  have s22 : n10 = 6 * n9 := by
    have q := f12
    rw [f8] at q
    rw [q]
    exact w32_id (by omega) (by omega)
  have s23 : n11 = n10 + n0 := by
    have q := f13
    rw [q]
    exact w32_id (by omega) (by omega)
  have s36 : n17 = n0 + (-1) := by
    have q := f21
    rw [q]
    exact w32_id (by omega) (by omega)
  have nz : hV H1 291 (n1).toNat = (vwR H0).2.2.1 (ptk (vwR H0) 25 (absR H0)).1 := by
    rw [← t4, ← vz]
    show _ = if kR H1 n1 = 1 then _ else _
    have ok : okR H1 n1 := ⟨t0, by have := z1.2.2.1; omega, by have := z1.2.2.2.2.2.2.2.2.2.1 f0_; omega⟩
    unfold kR
    rw [if_pos ok, if_pos k4]
  have nb := (z1.1.2.2.2 (n1).toNat (by have := z1.2.2.2.2.2.2.2.2.2.1 f0_; omega)).2.2.2 k4
  have e32 := d21
  rw [f32_] at e32
  have hpe := absR_pos z1 f0_
  have hq := hpe.2
  rw [a1] at hq
  have fz0 := faultR_no z (pb_tk z (pb_trans (pb_tk z (c := 2)) (pb_tk z (c := 26)) (pb_time z hq).1).1).1
  clear hq hpe
  have ix : (n11).toNat = (6 * hV H0 285 32).toNat + (n0).toNat := by omega
  have zb := (zr fz0 (n0).toNat (by omega)).1
  rw [← ix] at zb
  have nd := d24
  rw [bn0] at nd
  have ne := d28
  have lq := lcR f17 (by rw [nd]; exact zb) (by rw [ne]; exact nb)
  have bb : n0 < hV H0 294 (hV H0 285 32).toNat := xh
  have p0 := PR_row (q := 300) f20 f19 (by decide) z1
  have v0 : vwR H2 = vwR H0 := p0.2.1.trans vz
  have ah0 : absR H2 = (pTime (vwR H0) (ptk (vwR H0) 26 (ptk (vwR H0) 2 (ptk (vwR H0) 25 (absR H0))))) := p0.1.trans a1
  have pm2 : hV H2 296 = hV H1 296 := uRowNe f20 296 (by rw [f19]; decide)
  have ps2 : hV H2 297 = hV H1 297 := uRowNe f20 297 (by rw [f19]; decide)
  have kd2 : hV H2 288 = hV H1 288 := uRowNe f20 288 (by rw [f19]; decide)
  have y11 : hV H2 285 11 = hV H1 285 11 := uPlace f20 285 11 (by rw [f19]; decide)
  have y13 : hV H2 285 13 = hV H1 285 13 := uPlace f20 285 13 (by rw [f19]; decide)
  have y15 : hV H2 285 15 = hV H1 285 15 := uPlace f20 285 15 (by rw [f19]; decide)
  have y16 : hV H2 285 16 = hV H1 285 16 := uPlace f20 285 16 (by rw [f19]; decide)
  have pl2 : hV H2 289 = hV H1 289 := uRowNe f20 289 (by rw [f19]; decide)
  have uq2 : UQ (ptk (vwR H0) 25 (absR H0)).2 n1 H2 := by unfold UQ; rw [y15, y16, pl2]; exact uq
  have cw : hV H2 300 (n3).toNat = n0 := uSame f20 300 (n3).toNat (by rw [f19]; rfl) (Int.toNat_of_nonneg (by omega))
  refine ⟨p0.2.2.1, ah0, pm2.trans pm, ps2.trans ps, kd, h16, y13.trans f0_, t4, by rw [kd2]; exact k4, uq2, t0, by rw [y11]; exact tl, by omega, by omega, ?_⟩
  rw [cw]
  exact SRi_hit sr (by omega) bb (by omega) (by rw [← ix, ← nd, lq.mp (by omega), ne, nz])
def g_227w_471_5 : vG := ([(10, [17, 6], [], -1), (80, [16, 3, 6], [2, 1], 0), (0, [16], [], 300), (30, [15], [], 0), (65, [15, 12, 14], [], 0), (22, [14, 13, 5], [1], 0), (0, [13], [], 291), (22, [12, 7, 11], [1], 0), (1, [11, 10, 6], [], 0), (3, [10, 8, 9], [], 0), (20, [9, 1], [1], 32), (90, [9], [], 0), (91, [9], [], 7), (0, [8], [], 6), (0, [7], [], 295), (33, [6], [], 0), (5000, [0, 1, 2, 3, 4, 5, 6], [0, 1], 471), (0, [1], [], 285), (90, [3], [], 0), (91, [3], [], 1007), (90, [6], [], -1), (91, [6], [], 5)], (4000, [1, 2, 3, 4, 5, 17], [2], 471))
theorem c_227w_471_5 {q0 : Nat} : vOkm T0 (eN e_227 L_227w A_227 mu_227 n_227 B_227 (some q0)) 1 g_227w_471_5 := vOk_inI fun ρ η f0 f1 f2 f3 f4 f5 f6 f7 f8 f9 f10 f11 f12 f13 f14 f15 f16 f17 f18 f19 f20 f21 => q_227w_28 (q0 := q0) (n0 := ρ 6) (n1 := ρ 5) (n2 := ρ 4) (n3 := ρ 3) (n4 := ρ 2) (n5 := ρ 1) (n6 := ρ 0) (n7 := ρ 7) (n8 := ρ 8) (n9 := ρ 9) (n10 := ρ 10) (n11 := ρ 11) (n12 := ρ 12) (n13 := ρ 13) (n14 := ρ 14) (n15 := ρ 15) (n16 := ρ 16) (n17 := ρ 17) (H0 := η 0) (H1 := η 1) (H2 := η 2) f21 f20 f19 f18 f17 f16 f15 f14 f13 f12 f11 f10 f9 f8 f7 f6 f5 f4 f3 f2 f1 f0
def p_227w_471 : List vG := [g_227w_471_0,
  g_227w_471_1,
  g_227w_471_2,
  g_227w_471_3,
  g_227w_471_4,
  g_227w_471_5]
theorem r_227w_471 : vCovBO (eRc e_227 L_227 cs_227 2000 (471, [(0, (3, 12, 285, 0)), (1, (0, 0, 5, 0)), (2, (0, 0, 1007, 0)), (3, (0, 1, 1, 0)), (4, (0, 0, 500, 0)), (5, (0, -1, 5, 0))])) p_227w_471 = true := by decide +kernel
theorem q_227w_29 {q0 : Nat} {n0 n1 n2 n3 n4 n5 n6 n7 n8 n9 n10 n11 n12 n13 n14 n15 n16 n17 n18 n19 : Int} {H0 H1 H2 H3 H4 : gH} (f0 : n0 ≤ 1000) (f1 : 0 ≤ n0) (f2 : n3 = 285) (f3 : (hLe T0 H0 H1 ∧ hFr s_227.2.2.2.2 H0 H1 ∧ hWt T0 H1) ∧ ((Ab_227_567 n4 n3 n2 n1 n0 H0 H1 ∧ Bb_227_567 n4 n3 n2 n1 n0 H0 H1) ∧ preb_227 n4 H0) ∧ some q0 = some (mub_227_567 n4 n3 n2 n1 n0 H0 H1)) (f4 : n5 = 4) (f5 : (hLe T0 H1 H2 ∧ hFr s_220.2.2.2.2 H1 H2 ∧ ((0 : Int) = 0 → H2.length = H1.length) ∧ hWt T0 H2) ∧ (postb_220 n3 n5 H1 H2 ∧ nb_220 n3 n5 H1 H2)) (f6 : n6 = hV H2 (n3).toNat 13) (f7 : n6 ≤ 0) (f8 : n7 = 296) (f9 : n8 ≤ 62) (f10 : 0 ≤ n8) (f11 : n8 = hV H2 (n3).toNat 33) (f12 : n9 ≤ 16) (f13 : 0 ≤ n9) (f14 : n9 = hV H2 (n7).toNat (n8).toNat) (f15 : n10 = 1) (f16 : n11 = w32 (n9 + n10)) (f17 : hUpd H3 H2 n7 n8 n11) (f18 : n12 = 297) (f19 : n13 ≤ 62) (f20 : 0 ≤ n13) (f21 : n13 = hV H3 (n3).toNat 33) (f22 : n14 ≤ 2000) (f23 : 0 ≤ n14) (f24 : n14 = hV H3 (n12).toNat (n13).toNat) (f25 : n15 = w32 (n14 + n0)) (f26 : hUpd H4 H3 n12 n13 n15) (f27 : n16 = 297) (f28 : n17 ≤ 62) (f29 : 0 ≤ n17) (f30 : n17 = hV H4 (n3).toNat 33) (f31 : n18 ≤ 2000) (f32 : 0 ≤ n18) (f33 : n18 = hV H4 (n16).toNat (n17).toNat) (f34 : n19 = 1000) (f35 : n18 ≤ n19) : nb_227 n4 H0 H4 := by
  unfold nb_227
  intro z zr
  have ga := f3.2.1.1.2
  unfold Bb_227_567 at ga
  obtain ⟨z1, a1, pm, ps, k20, k25, h16, mo⟩ := ga z zr
  have vz : vwR H1 = vwR H0 := vwR_fr f3.1.2.1 (by decide +kernel)
  have d14 := rdS (q := 285) f6 f2
  have d22 := rdS (q := 285) f11 f2
  have d25 := rdW (q := 296) f14 f8
  have d36 := rdS (q := 285) f21 f2
  have d39 := rdW (q := 297) f24 f18
  have d49 := rdS (q := 285) f30 f2
  have d52 := rdW (q := 297) f33 f27
  have q15 := f7
  have q54 := f35
  have qc53 := f34
  have fx : hV H1 285 33 = hV H0 285 33 := f3.1.2.1.1 285 33 (by decide +kernel)
  have c0 := f5.2.2 z1 (by rw [f4]; decide)
  try rw [f4] at c0
  rw [vz, a1, kmc_4] at c0
  have v0 : vwR H2 = vwR H0 := (vwR_fr f5.1.2.1 (by decide +kernel)).trans vz
  have p1 := PR_row (q := 296) f17 f8 (by decide) c0.1
  have v1 : vwR H3 = vwR H0 := p1.2.1.trans v0
  have ah1 : absR H3 = (ptk (vwR H0) 4 (pBody (vwR H0) (BLr H0) ((vwR H0).1 (absR H0).1) (ptk (vwR H0) ((vwR H0).1 (absR H0).1) (absR H0)))) := p1.1.trans c0.2
  have p2 := PR_row (q := 297) f26 f18 (by decide) p1.2.2.1
  have v2 : vwR H4 = vwR H0 := p2.2.1.trans v1
  have ah2 : absR H4 = (ptk (vwR H0) 4 (pBody (vwR H0) (BLr H0) ((vwR H0).1 (absR H0).1) (ptk (vwR H0) ((vwR H0).1 (absR H0).1) (absR H0)))) := p2.1.trans ah1
  have pm2 : hV H2 296 = hV H1 296 := fRow f5.1.2.1 296 (by decide +kernel)
  have ps2 : hV H2 297 = hV H1 297 := fRow f5.1.2.1 297 (by decide +kernel)
  have h33_0 : n8 = hV H0 285 33 := by rw [d22, show hV H2 285 33 = hV H1 285 33 from f5.1.2.1.1 285 33 (by decide +kernel), fx]
  have h33_1 : n13 = hV H0 285 33 := by rw [d36, show hV H3 285 33 = hV H1 285 33 from (uPlace f17 285 33 (by rw [f8]; decide)).trans (f5.1.2.1.1 285 33 (by decide +kernel)), fx]
  have h33_2 : n17 = hV H0 285 33 := by rw [d49, show hV H4 285 33 = hV H1 285 33 from (uPlace f26 285 33 (by rw [f18]; decide)).trans ((uPlace f17 285 33 (by rw [f8]; decide)).trans (f5.1.2.1.1 285 33 (by decide +kernel))), fx]
  have rg0 := f0
  have rg1 := f1
  have rg19 := f9
  have rg20 := f10
  have rg23 := f12
  have rg24 := f13
  have rg33 := f19
  have rg34 := f20
  have rg37 := f22
  have rg38 := f23
  have rg46 := f28
  have rg47 := f29
  have rg50 := f31
  have rg51 := f32
  have s27 : n11 = n9 + 1 := by
    have q := f16
    rw [f15] at q
    rw [q]
    exact w32_id (by omega) (by omega)
  have s40 : n15 = n14 + n0 := by
    have q := f25
    rw [q]
    exact w32_id (by omega) (by omega)
  have u1 : hV H3 296 = uF (hV H2 296) n8 n11 := uRow f17 296 f8.symm
  have ps3 : hV H3 297 = hV H2 297 := uRowNe f17 297 (by rw [f8]; decide)
  have u2 : hV H4 297 = uF (hV H3 297) n13 n15 := uRow f26 297 f18.symm
  have pe : hV H4 296 = hV H3 296 := uRowNe f26 296 (by rw [f18]; decide)
  rw [pm2, pm] at u1
  rw [ps3, ps2, ps] at u2
  have rm := d25
  rw [pm2, pm, h33_0] at rm
  have rz := d39
  rw [ps3, ps2, ps, h33_1] at rz
  have rt := d52
  rw [u2, uF_at, if_pos (by omega)] at rt
  have fz : hV H2 285 13 = 0 := by have := c0.1.2.2.2.1; have := d14; omega
  have fc : hV H1 285 13 = 0 := by
    have hq := (absR_pos c0.1 fz).2
    rw [c0.2] at hq
    exact faultR_no z1 (by rw [a1]; exact (pb_tk z hq).1)
  have mo1 := mo fc
  have pe2 : hV H4 297 = hV H4 297 := rfl
  refine ⟨p2.2.2.1, .inr (.inr ⟨k20, k25, h16, ah2⟩), fun k hk => ⟨?_, ?_⟩, fun _ => ⟨?_, ?_⟩⟩
  · rw [pe, u1, uF_at, if_neg (by omega)]
  · rw [pe2, u2, uF_at, if_neg (by omega)]
  · rw [pe, u1, uF_at, if_pos (by omega)]
    omega
  · rw [pe2, u2, uF_at, if_pos (by omega), ← mo1]
    unfold pcap
    first
    | (rw [if_pos (by omega)] <;> omega)
    | (rw [if_neg (by omega)] <;> omega)
def g_227w_567_0 : vG := ([(45, [18, 19], [], 0), (0, [19], [], 1000), (22, [18, 16, 17], [4], 0), (90, [18], [], 0), (91, [18], [], 2000), (20, [17, 1], [4], 33), (90, [17], [], 0), (91, [17], [], 62), (0, [16], [], 297), (80, [12, 13, 15], [4, 3], 0), (1, [15, 14, 4], [], 0), (22, [14, 12, 13], [3], 0), (90, [14], [], 0), (91, [14], [], 2000), (20, [13, 1], [3], 33), (90, [13], [], 0), (91, [13], [], 62), (0, [12], [], 297), (80, [7, 8, 11], [3, 2], 0), (1, [11, 9, 10], [], 0), (0, [10], [], 1), (22, [9, 7, 8], [2], 0), (90, [9], [], 0), (91, [9], [], 16), (20, [8, 1], [2], 33), (90, [8], [], 0), (91, [8], [], 62), (0, [7], [], 296), (35, [6], [], 0), (20, [6, 1], [2], 13), (1220, [1, 5], [1, 2], 0), (0, [5], [], 4), (5000, [0, 1, 2, 3, 4], [0, 1], 567), (0, [1], [], 285), (90, [4], [], 0), (91, [4], [], 1000)], (3000, [], [4], 633))
theorem c_227w_567_0 {q0 : Nat} : vOkm T0 (eN e_227 L_227w A_227 mu_227 n_227 B_227 (some q0)) 1 g_227w_567_0 := vOk_inI fun ρ η f0 f1 f2 f3 f4 f5 f6 f7 f8 f9 f10 f11 f12 f13 f14 f15 f16 f17 f18 f19 f20 f21 f22 f23 f24 f25 f26 f27 f28 f29 f30 f31 f32 f33 f34 f35 => q_227w_29 (q0 := q0) (n0 := ρ 4) (n1 := ρ 3) (n2 := ρ 2) (n3 := ρ 1) (n4 := ρ 0) (n5 := ρ 5) (n6 := ρ 6) (n7 := ρ 7) (n8 := ρ 8) (n9 := ρ 9) (n10 := ρ 10) (n11 := ρ 11) (n12 := ρ 12) (n13 := ρ 13) (n14 := ρ 14) (n15 := ρ 15) (n16 := ρ 16) (n17 := ρ 17) (n18 := ρ 18) (n19 := ρ 19) (H0 := η 0) (H1 := η 1) (H2 := η 2) (H3 := η 3) (H4 := η 4) f35 f34 f33 f32 f31 f30 f29 f28 f27 f26 f25 f24 f23 f22 f21 f20 f19 f18 f17 f16 f15 f14 f13 f12 f11 f10 f9 f8 f7 f6 f5 f4 f3 f2 f1 f0
theorem q_227w_30 {q0 : Nat} {n0 n1 n2 n3 n4 n5 n6 n7 n8 n9 n10 n11 n12 n13 n14 n15 n16 n17 n18 n19 n20 n21 n22 : Int} {H0 H1 H2 H3 H4 H5 : gH} (f0 : n0 ≤ 1000) (f1 : 0 ≤ n0) (f2 : n3 = 285) (f3 : (hLe T0 H0 H1 ∧ hFr s_227.2.2.2.2 H0 H1 ∧ hWt T0 H1) ∧ ((Ab_227_567 n4 n3 n2 n1 n0 H0 H1 ∧ Bb_227_567 n4 n3 n2 n1 n0 H0 H1) ∧ preb_227 n4 H0) ∧ some q0 = some (mub_227_567 n4 n3 n2 n1 n0 H0 H1)) (f4 : n5 = 4) (f5 : (hLe T0 H1 H2 ∧ hFr s_220.2.2.2.2 H1 H2 ∧ ((0 : Int) = 0 → H2.length = H1.length) ∧ hWt T0 H2) ∧ (postb_220 n3 n5 H1 H2 ∧ nb_220 n3 n5 H1 H2)) (f6 : n6 = hV H2 (n3).toNat 13) (f7 : n6 ≤ 0) (f8 : n7 = 296) (f9 : n8 ≤ 62) (f10 : 0 ≤ n8) (f11 : n8 = hV H2 (n3).toNat 33) (f12 : n9 ≤ 16) (f13 : 0 ≤ n9) (f14 : n9 = hV H2 (n7).toNat (n8).toNat) (f15 : n10 = 1) (f16 : n11 = w32 (n9 + n10)) (f17 : hUpd H3 H2 n7 n8 n11) (f18 : n12 = 297) (f19 : n13 ≤ 62) (f20 : 0 ≤ n13) (f21 : n13 = hV H3 (n3).toNat 33) (f22 : n14 ≤ 2000) (f23 : 0 ≤ n14) (f24 : n14 = hV H3 (n12).toNat (n13).toNat) (f25 : n15 = w32 (n14 + n0)) (f26 : hUpd H4 H3 n12 n13 n15) (f27 : n16 = 297) (f28 : n17 ≤ 62) (f29 : 0 ≤ n17) (f30 : n17 = hV H4 (n3).toNat 33) (f31 : n18 ≤ 2000) (f32 : 0 ≤ n18) (f33 : n18 = hV H4 (n16).toNat (n17).toNat) (f34 : n19 = 1000) (f35 : n19 < n18) (f36 : n20 = 297) (f37 : n21 ≤ 62) (f38 : 0 ≤ n21) (f39 : n21 = hV H4 (n3).toNat 33) (f40 : n22 = 1000) (f41 : hUpd H5 H4 n20 n21 n22) : nb_227 n4 H0 H5 := by
  unfold nb_227
  intro z zr
  have ga := f3.2.1.1.2
  unfold Bb_227_567 at ga
  obtain ⟨z1, a1, pm, ps, k20, k25, h16, mo⟩ := ga z zr
  have vz : vwR H1 = vwR H0 := vwR_fr f3.1.2.1 (by decide +kernel)
  have d14 := rdS (q := 285) f6 f2
  have d22 := rdS (q := 285) f11 f2
  have d25 := rdW (q := 296) f14 f8
  have d36 := rdS (q := 285) f21 f2
  have d39 := rdW (q := 297) f24 f18
  have d49 := rdS (q := 285) f30 f2
  have d52 := rdW (q := 297) f33 f27
  have d61 := rdS (q := 285) f39 f2
  have q15 := f7
  have q54 := f35
  have qc53 := f34
  have fx : hV H1 285 33 = hV H0 285 33 := f3.1.2.1.1 285 33 (by decide +kernel)
  have c0 := f5.2.2 z1 (by rw [f4]; decide)
  try rw [f4] at c0
  rw [vz, a1, kmc_4] at c0
  have v0 : vwR H2 = vwR H0 := (vwR_fr f5.1.2.1 (by decide +kernel)).trans vz
  have p1 := PR_row (q := 296) f17 f8 (by decide) c0.1
  have v1 : vwR H3 = vwR H0 := p1.2.1.trans v0
  have ah1 : absR H3 = (ptk (vwR H0) 4 (pBody (vwR H0) (BLr H0) ((vwR H0).1 (absR H0).1) (ptk (vwR H0) ((vwR H0).1 (absR H0).1) (absR H0)))) := p1.1.trans c0.2
  have p2 := PR_row (q := 297) f26 f18 (by decide) p1.2.2.1
  have v2 : vwR H4 = vwR H0 := p2.2.1.trans v1
  have ah2 : absR H4 = (ptk (vwR H0) 4 (pBody (vwR H0) (BLr H0) ((vwR H0).1 (absR H0).1) (ptk (vwR H0) ((vwR H0).1 (absR H0).1) (absR H0)))) := p2.1.trans ah1
  have p3 := PR_row (q := 297) f41 f36 (by decide) p2.2.2.1
  have v3 : vwR H5 = vwR H0 := p3.2.1.trans v2
  have ah3 : absR H5 = (ptk (vwR H0) 4 (pBody (vwR H0) (BLr H0) ((vwR H0).1 (absR H0).1) (ptk (vwR H0) ((vwR H0).1 (absR H0).1) (absR H0)))) := p3.1.trans ah2
  have pm2 : hV H2 296 = hV H1 296 := fRow f5.1.2.1 296 (by decide +kernel)
  have ps2 : hV H2 297 = hV H1 297 := fRow f5.1.2.1 297 (by decide +kernel)
  have h33_0 : n8 = hV H0 285 33 := by rw [d22, show hV H2 285 33 = hV H1 285 33 from f5.1.2.1.1 285 33 (by decide +kernel), fx]
  have h33_1 : n13 = hV H0 285 33 := by rw [d36, show hV H3 285 33 = hV H1 285 33 from (uPlace f17 285 33 (by rw [f8]; decide)).trans (f5.1.2.1.1 285 33 (by decide +kernel)), fx]
  have h33_2 : n17 = hV H0 285 33 := by rw [d49, show hV H4 285 33 = hV H1 285 33 from (uPlace f26 285 33 (by rw [f18]; decide)).trans ((uPlace f17 285 33 (by rw [f8]; decide)).trans (f5.1.2.1.1 285 33 (by decide +kernel))), fx]
  have h33_3 : n21 = hV H0 285 33 := by rw [d61, show hV H4 285 33 = hV H1 285 33 from (uPlace f26 285 33 (by rw [f18]; decide)).trans ((uPlace f17 285 33 (by rw [f8]; decide)).trans (f5.1.2.1.1 285 33 (by decide +kernel))), fx]
  have rg0 := f0
  have rg1 := f1
  have rg19 := f9
  have rg20 := f10
  have rg23 := f12
  have rg24 := f13
  have rg33 := f19
  have rg34 := f20
  have rg37 := f22
  have rg38 := f23
  have rg46 := f28
  have rg47 := f29
  have rg50 := f31
  have rg51 := f32
  have rg58 := f37
  have rg59 := f38
  have s27 : n11 = n9 + 1 := by
    have q := f16
    rw [f15] at q
    rw [q]
    exact w32_id (by omega) (by omega)
  have s40 : n15 = n14 + n0 := by
    have q := f25
    rw [q]
    exact w32_id (by omega) (by omega)
  have u1 : hV H3 296 = uF (hV H2 296) n8 n11 := uRow f17 296 f8.symm
  have ps3 : hV H3 297 = hV H2 297 := uRowNe f17 297 (by rw [f8]; decide)
  have u2 : hV H4 297 = uF (hV H3 297) n13 n15 := uRow f26 297 f18.symm
  have pe : hV H5 296 = hV H3 296 := (uRowNe f41 296 (by rw [f36]; decide)).trans (uRowNe f26 296 (by rw [f18]; decide))
  rw [pm2, pm] at u1
  rw [ps3, ps2, ps] at u2
  have rm := d25
  rw [pm2, pm, h33_0] at rm
  have rz := d39
  rw [ps3, ps2, ps, h33_1] at rz
  have rt := d52
  rw [u2, uF_at, if_pos (by omega)] at rt
  have fz : hV H2 285 13 = 0 := by have := c0.1.2.2.2.1; have := d14; omega
  have fc : hV H1 285 13 = 0 := by
    have hq := (absR_pos c0.1 fz).2
    rw [c0.2] at hq
    exact faultR_no z1 (by rw [a1]; exact (pb_tk z hq).1)
  have mo1 := mo fc
  have u3 : hV H5 297 = uF (hV H4 297) n21 n22 := uRow f41 297 f36.symm
  have c1000 := f40
  rw [u2] at u3
  have pe2 : hV H5 297 = hV H5 297 := rfl
  refine ⟨p3.2.2.1, .inr (.inr ⟨k20, k25, h16, ah3⟩), fun k hk => ⟨?_, ?_⟩, fun _ => ⟨?_, ?_⟩⟩
  · rw [pe, u1, uF_at, if_neg (by omega)]
  · rw [pe2, u3, uF_at, if_neg (by omega), uF_at, if_neg (by omega)]
  · rw [pe, u1, uF_at, if_pos (by omega)]
    omega
  · rw [pe2, u3, uF_at, if_pos (by omega), ← mo1]
    unfold pcap
    first
    | (rw [if_pos (by omega)] <;> omega)
    | (rw [if_neg (by omega)] <;> omega)
def g_227w_567_1 : vG := ([(80, [20, 21, 22], [5, 4], 0), (0, [22], [], 1000), (20, [21, 1], [4], 33), (90, [21], [], 0), (91, [21], [], 62), (0, [20], [], 297), (44, [18, 19], [], 0), (0, [19], [], 1000), (22, [18, 16, 17], [4], 0), (90, [18], [], 0), (91, [18], [], 2000), (20, [17, 1], [4], 33), (90, [17], [], 0), (91, [17], [], 62), (0, [16], [], 297), (80, [12, 13, 15], [4, 3], 0), (1, [15, 14, 4], [], 0), (22, [14, 12, 13], [3], 0), (90, [14], [], 0), (91, [14], [], 2000), (20, [13, 1], [3], 33), (90, [13], [], 0), (91, [13], [], 62), (0, [12], [], 297), (80, [7, 8, 11], [3, 2], 0), (1, [11, 9, 10], [], 0), (0, [10], [], 1), (22, [9, 7, 8], [2], 0), (90, [9], [], 0), (91, [9], [], 16), (20, [8, 1], [2], 33), (90, [8], [], 0), (91, [8], [], 62), (0, [7], [], 296), (35, [6], [], 0), (20, [6, 1], [2], 13), (1220, [1, 5], [1, 2], 0), (0, [5], [], 4), (5000, [0, 1, 2, 3, 4], [0, 1], 567), (0, [1], [], 285), (90, [4], [], 0), (91, [4], [], 1000)], (3000, [], [5], 633))
theorem c_227w_567_1 {q0 : Nat} : vOkm T0 (eN e_227 L_227w A_227 mu_227 n_227 B_227 (some q0)) 1 g_227w_567_1 := vOk_inI fun ρ η f0 f1 f2 f3 f4 f5 f6 f7 f8 f9 f10 f11 f12 f13 f14 f15 f16 f17 f18 f19 f20 f21 f22 f23 f24 f25 f26 f27 f28 f29 f30 f31 f32 f33 f34 f35 f36 f37 f38 f39 f40 f41 => q_227w_30 (q0 := q0) (n0 := ρ 4) (n1 := ρ 3) (n2 := ρ 2) (n3 := ρ 1) (n4 := ρ 0) (n5 := ρ 5) (n6 := ρ 6) (n7 := ρ 7) (n8 := ρ 8) (n9 := ρ 9) (n10 := ρ 10) (n11 := ρ 11) (n12 := ρ 12) (n13 := ρ 13) (n14 := ρ 14) (n15 := ρ 15) (n16 := ρ 16) (n17 := ρ 17) (n18 := ρ 18) (n19 := ρ 19) (n20 := ρ 20) (n21 := ρ 21) (n22 := ρ 22) (H0 := η 0) (H1 := η 1) (H2 := η 2) (H3 := η 3) (H4 := η 4) (H5 := η 5) f41 f40 f39 f38 f37 f36 f35 f34 f33 f32 f31 f30 f29 f28 f27 f26 f25 f24 f23 f22 f21 f20 f19 f18 f17 f16 f15 f14 f13 f12 f11 f10 f9 f8 f7 f6 f5 f4 f3 f2 f1 f0
theorem q_227w_31 {q0 : Nat} {n0 n1 n2 n3 n4 n5 n6 : Int} {H0 H1 H2 : gH} (f0 : n3 = 285) (f1 : (hLe T0 H0 H1 ∧ hFr s_227.2.2.2.2 H0 H1 ∧ hWt T0 H1) ∧ ((Ab_227_567 n4 n3 n2 n1 n0 H0 H1 ∧ Bb_227_567 n4 n3 n2 n1 n0 H0 H1) ∧ preb_227 n4 H0) ∧ some q0 = some (mub_227_567 n4 n3 n2 n1 n0 H0 H1)) (f2 : n5 = 4) (f3 : (hLe T0 H1 H2 ∧ hFr s_220.2.2.2.2 H1 H2 ∧ ((0 : Int) = 0 → H2.length = H1.length) ∧ hWt T0 H2) ∧ (postb_220 n3 n5 H1 H2 ∧ nb_220 n3 n5 H1 H2)) (f4 : n6 = hV H2 (n3).toNat 13) (f5 : 0 < n6) : nb_227 n4 H0 H2 := by
  unfold nb_227
  intro z zr
  have ga := f1.2.1.1.2
  unfold Bb_227_567 at ga
  obtain ⟨z1, a1, pm, ps, k20, k25, h16, mo⟩ := ga z zr
  have vz : vwR H1 = vwR H0 := vwR_fr f1.1.2.1 (by decide +kernel)
  have d14 := rdS (q := 285) f4 f0
  have q15 := f5
  have fx : hV H1 285 33 = hV H0 285 33 := f1.1.2.1.1 285 33 (by decide +kernel)
  have c0 := f3.2.2 z1 (by rw [f2]; decide)
  try rw [f2] at c0
  rw [vz, a1, kmc_4] at c0
  have v0 : vwR H2 = vwR H0 := (vwR_fr f3.1.2.1 (by decide +kernel)).trans vz
  have pm2 : hV H2 296 = hV H1 296 := fRow f3.1.2.1 296 (by decide +kernel)
  have ps2 : hV H2 297 = hV H1 297 := fRow f3.1.2.1 297 (by decide +kernel)
  exact ⟨c0.1, .inr (.inr ⟨k20, k25, h16, c0.2⟩), fun k _ => ⟨by rw [pm2, pm], by rw [ps2, ps]⟩, fun c => absurd c (by omega)⟩
def g_227w_567_2 : vG := ([(34, [6], [], 0), (20, [6, 1], [2], 13), (1220, [1, 5], [1, 2], 0), (0, [5], [], 4), (5000, [0, 1, 2, 3, 4], [0, 1], 567), (0, [1], [], 285)], (3000, [], [2], 579))
theorem c_227w_567_2 {q0 : Nat} : vOkm T0 (eN e_227 L_227w A_227 mu_227 n_227 B_227 (some q0)) 1 g_227w_567_2 := vOk_inI fun ρ η f0 f1 f2 f3 f4 f5 => q_227w_31 (q0 := q0) (n0 := ρ 4) (n1 := ρ 3) (n2 := ρ 2) (n3 := ρ 1) (n4 := ρ 0) (n5 := ρ 5) (n6 := ρ 6) (H0 := η 0) (H1 := η 1) (H2 := η 2) f5 f4 f3 f2 f1 f0
def p_227w_567 : List vG := [g_227w_567_0,
  g_227w_567_1,
  g_227w_567_2]
theorem r_227w_567 : vCovBO (eRc e_227 L_227 cs_227 2000 (567, [(0, (3, 12, 285, 0)), (1, (0, -2147483648, 2147483647, 0)), (2, (0, 0, 1007, 0)), (3, (0, 0, 1000, 0))])) p_227w_567 = true := by decide +kernel
theorem m_227w (d : Nat) : eC e_227w (d + 7) := eC_ref (e := e_227) (L := L_227) (L' := L_227w) (cs := cs_227) (n := 2000) (d := d + 6) (A := A_227) (μ := mu_227) (tp := false) (p0 := p_227_s) (p1 := p_227w_s) (N := n_227) (B := B_227) rfl ⟨m_216 (d + 5), ⟨m_217w (d + 5), ⟨m_218w (d + 5), ⟨m_219w (d + 4), ⟨m_220w (d + 3), ⟨m_223w (d + 2), ⟨m_228w d, ⟨m_229w (d + 1), ⟨m_230w (d + 1), trivial⟩⟩⟩⟩⟩⟩⟩⟩⟩ rfl (.inl rfl) (by decide +kernel) (fun z => nomatch z) r_227_s (allC c_227_s_0 (allC c_227_s_1 (allC c_227_s_2 (allC c_227_s_3 (allC c_227_s_4 (allC c_227_s_5 (allC c_227_s_6 allN))))))) (allC (.inl ⟨p_227_80, r_227_80, fun q0 => (allC c_227_80_0 (allC c_227_80_1 (allC c_227_80_2 (allC c_227_80_3 (allC c_227_80_4 (allC c_227_80_5 (allC c_227_80_6 (allC c_227_80_7 (allC c_227_80_8 allN)))))))))⟩) (allC (.inl ⟨p_227_120, r_227_120, fun q0 => (allC c_227_120_0 (allC c_227_120_1 (allC c_227_120_2 (allC c_227_120_3 (allC c_227_120_4 (allC c_227_120_5 (allC c_227_120_6 allN)))))))⟩) (allC (.inl ⟨p_227_180, r_227_180, fun q0 => (allC c_227_180_0 (allC c_227_180_1 (allC c_227_180_2 (allC c_227_180_3 (allC c_227_180_4 (allC c_227_180_5 (allC c_227_180_6 (allC c_227_180_7 (allC c_227_180_8 (allC c_227_180_9 (allC c_227_180_10 (allC c_227_180_11 (allC c_227_180_12 (allC c_227_180_13 (allC c_227_180_14 (allC c_227_180_15 (allC c_227_180_16 (allC c_227_180_17 (allC c_227_180_18 (allC c_227_180_19 (allC c_227_180_20 (allC c_227_180_21 (allC c_227_180_22 (allC c_227_180_23 allN))))))))))))))))))))))))⟩) (allC (.inl ⟨p_227_471, r_227_471, fun q0 => (allC c_227_471_0 (allC c_227_471_1 (allC c_227_471_2 (allC c_227_471_3 (allC c_227_471_4 (allC c_227_471_5 (allC c_227_471_6 (allC c_227_471_7 (allC c_227_471_8 (allC c_227_471_9 (allC c_227_471_10 (allC c_227_471_11 (allC c_227_471_12 (allC c_227_471_13 (allC c_227_471_14 allN)))))))))))))))⟩) (allC (.inl ⟨p_227_567, r_227_567, fun q0 => (allC c_227_567_0 (allC c_227_567_1 (allC c_227_567_2 (allC c_227_567_3 (allC c_227_567_4 (allC c_227_567_5 (allC c_227_567_6 allN)))))))⟩) allN))))) (sub0 (sub1 (sub1 (sub1 (sub1 (sub1 (sub1 (sub1 (sub1 trivial))))))))) r_227w_s (allC c_227w_s_0 (allC c_227w_s_1 (allC c_227w_s_2 (allC c_227w_s_3 (allC c_227w_s_4 (allC c_227w_s_5 (allC c_227w_s_6 allN))))))) (allC ⟨p_227w_80, r_227w_80, fun q0 => (allC c_227w_80_0 (allC c_227w_80_1 (allC c_227w_80_2 (allC c_227w_80_3 (allC c_227w_80_4 (allC c_227w_80_5 allN))))))⟩ (allC ⟨p_227w_120, r_227w_120, fun q0 => (allC c_227w_120_0 allN)⟩ (allC ⟨p_227w_180, r_227w_180, fun q0 => (allC c_227w_180_0 (allC c_227w_180_1 (allC c_227w_180_2 (allC c_227w_180_3 (allC c_227w_180_4 (allC c_227w_180_5 (allC c_227w_180_6 (allC c_227w_180_7 (allC c_227w_180_8 allN)))))))))⟩ (allC ⟨p_227w_471, r_227w_471, fun q0 => (allC c_227w_471_0 (allC c_227w_471_1 (allC c_227w_471_2 (allC c_227w_471_3 (allC c_227w_471_4 (allC c_227w_471_5 allN))))))⟩ (allC ⟨p_227w_567, r_227w_567, fun q0 => (allC c_227w_567_0 (allC c_227w_567_1 (allC c_227w_567_2 allN)))⟩ allN)))))
