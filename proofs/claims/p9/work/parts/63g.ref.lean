/- MixStageModel.tellLay (I)V, more fully -/
def nb_228 (a0 a1 : Int) (h0 h : gH) : Prop := RI h0 → RI h ∧ absR h = pLay (vwR h0) (absR h0)
def n_228 : List Int → gH → gH → Prop := fun xs h0 h => match xs with
  | [a0, a1] => nb_228 a0 a1 h0 h
  | _ => True
noncomputable def e_228w : vE := eV e_228 n_228
noncomputable def L_228w : List vE := [e_216, e_219w, e_220w, e_223w, e_229w]
def Bb_228_113 (a0 a1 x0 x1 : Int) (h0 h : gH) : Prop := RI h0 → RI h ∧ absR h = pOpt (vwR h0) 27 0 60 (pTime (vwR h0) (ptk (vwR h0) 26 (pnm (vwR h0) 0 19 (absR h0))))
def Bb_228_144 (a0 a1 x0 x1 : Int) (h0 h : gH) : Prop := RI h0 → RI h ∧ absR h = pOpt (vwR h0) 28 0 60 (pOpt (vwR h0) 27 0 60 (pTime (vwR h0) (ptk (vwR h0) 26 (pnm (vwR h0) 0 19 (absR h0)))))
def Bb_228_176 (a0 a1 x0 x1 : Int) (h0 h : gH) : Prop := RI h0 → RI h ∧ absR h = pOpt (vwR h0) 29 0 400 (pOpt (vwR h0) 28 0 60 (pOpt (vwR h0) 27 0 60 (pTime (vwR h0) (ptk (vwR h0) 26 (pnm (vwR h0) 0 19 (absR h0))))))
def Bb_228_231 (a0 a1 x0 x1 : Int) (h0 h : gH) : Prop := RI h0 → RI h ∧ absR h = pSpd (vwR h0) (pOpt (vwR h0) 29 0 400 (pOpt (vwR h0) 28 0 60 (pOpt (vwR h0) 27 0 60 (pTime (vwR h0) (ptk (vwR h0) 26 (pnm (vwR h0) 0 19 (absR h0)))))))
def B_228 : Int → List Int → gH → gH → Prop := fun c xs h0 h => match c.toNat with
  | 113 => (match xs with
    | [a0, a1, x0, x1] => Bb_228_113 a0 a1 x0 x1 h0 h
    | _ => False)
  | 144 => (match xs with
    | [a0, a1, x0, x1] => Bb_228_144 a0 a1 x0 x1 h0 h
    | _ => False)
  | 176 => (match xs with
    | [a0, a1, x0, x1] => Bb_228_176 a0 a1 x0 x1 h0 h
    | _ => False)
  | 231 => (match xs with
    | [a0, a1, x0, x1] => Bb_228_231 a0 a1 x0 x1 h0 h
    | _ => False)
  | _ => True
theorem q_228w_0 {n0 n1 n2 n3 n4 n5 n6 n7 n8 n10 n11 n12 n16 n17 n18 n22 n23 n24 n28 n29 n30 n34 n35 n36 n37 : Int} {H0 H1 H2 H3 H4 H5 H6 H7 H8 H9 H10 : gH} (f0 : n2 = 300) (f1 : n3 = 0) (f2 : n4 = 19) (f3 : (hLe T0 H0 H1 ∧ hFr s_223.2.2.2.2 H0 H1 ∧ ((0 : Int) = 0 → H1.length = H0.length) ∧ hWt T0 H1) ∧ (postb_223 n5 n1 n3 n4 H0 H1 ∧ nb_223 n5 n1 n3 n4 H0 H1)) (f4 : hUpd H2 H1 n2 n0 n5) (f5 : n6 = 25) (f6 : (hLe T0 H2 H3 ∧ hFr s_220.2.2.2.2 H2 H3 ∧ ((0 : Int) = 0 → H3.length = H2.length) ∧ hWt T0 H3) ∧ (postb_220 n1 n6 H2 H3 ∧ nb_220 n1 n6 H2 H3)) (f7 : n7 = 0) (f8 : (hLe T0 H3 H4 ∧ hFr s_229.2.2.2.2 H3 H4 ∧ ((0 : Int) = 0 → H4.length = H3.length) ∧ hWt T0 H4) ∧ (postb_229 n1 n0 n7 H3 H4 ∧ nb_229 n1 n0 n7 H3 H4)) (f9 : n8 = 305) (f10 : hUpd H5 H4 n8 n10 n11) (f11 : n12 = 305) (f12 : hUpd H6 H5 n12 n16 n17) (f13 : n18 = 305) (f14 : hUpd H7 H6 n18 n22 n23) (f15 : n24 = 305) (f16 : hUpd H8 H7 n24 n28 n29) (f17 : n30 = 305) (f18 : hUpd H9 H8 n30 n34 n35) (f19 : n36 = 26) (f20 : (hLe T0 H9 H10 ∧ hFr s_216.2.2.2.2 H9 H10 ∧ ((0 : Int) = 0 → H10.length = H9.length) ∧ hWt T0 H10) ∧ postb_216 n37 n1 n36 H9 H10) (f21 : n37 = 0) : Bb_228_113 n1 n0 n1 n0 H0 H10 := by
  unfold Bb_228_113
  intro z
  have c0 := f3.2.2 z
  try rw [f1] at c0
  try rw [f2] at c0
  have v0 : vwR H1 = vwR H0 := (vwR_fr f3.1.2.1 (by decide +kernel))
  have p1 := PR_row (q := 300) f4 f0 (by decide) c0.1
  have v1 : vwR H2 = vwR H0 := p1.2.1.trans v0
  have ah1 : absR H2 = (pnm (vwR H0) 0 19 (absR H0)) := p1.1.trans c0.2
  have c2 := f6.2.2 p1.2.2.1 (by rw [f5]; decide)
  try rw [f5] at c2
  rw [v1, ah1, kmc_25] at c2
  have v2 : vwR H3 = vwR H0 := (vwR_fr f6.1.2.1 (by decide +kernel)).trans v1
  have c3 := f8.2.2 c2.1
  try rw [f7] at c3
  rw [v2, c2.2] at c3
  have v3 : vwR H4 = vwR H0 := (vwR_fr f8.1.2.1 (by decide +kernel)).trans v2
  have p4 := PR_row (q := 305) f10 f9 (by decide) c3.1
  have v4 : vwR H5 = vwR H0 := p4.2.1.trans v3
  have ah4 : absR H5 = (pTime (vwR H0) (ptk (vwR H0) 26 (pnm (vwR H0) 0 19 (absR H0)))) := p4.1.trans c3.2
  have p5 := PR_row (q := 305) f12 f11 (by decide) p4.2.2.1
  have v5 : vwR H6 = vwR H0 := p5.2.1.trans v4
  have ah5 : absR H6 = (pTime (vwR H0) (ptk (vwR H0) 26 (pnm (vwR H0) 0 19 (absR H0)))) := p5.1.trans ah4
  have p6 := PR_row (q := 305) f14 f13 (by decide) p5.2.2.1
  have v6 : vwR H7 = vwR H0 := p6.2.1.trans v5
  have ah6 : absR H7 = (pTime (vwR H0) (ptk (vwR H0) 26 (pnm (vwR H0) 0 19 (absR H0)))) := p6.1.trans ah5
  have p7 := PR_row (q := 305) f16 f15 (by decide) p6.2.2.1
  have v7 : vwR H8 = vwR H0 := p7.2.1.trans v6
  have ah7 : absR H8 = (pTime (vwR H0) (ptk (vwR H0) 26 (pnm (vwR H0) 0 19 (absR H0)))) := p7.1.trans ah6
  have p8 := PR_row (q := 305) f18 f17 (by decide) p7.2.2.1
  have v8 : vwR H9 = vwR H0 := p8.2.1.trans v7
  have ah8 : absR H9 = (pTime (vwR H0) (ptk (vwR H0) 26 (pnm (vwR H0) 0 19 (absR H0)))) := p8.1.trans ah7
  have p9 := PR_fr f20.1.2.1 (by decide +kernel) p8.2.2.1
  have v9 : vwR H10 = vwR H0 := p9.2.1.trans v8
  have ah9 : absR H10 = (pTime (vwR H0) (ptk (vwR H0) 26 (pnm (vwR H0) 0 19 (absR H0)))) := p9.1.trans ah8
  have i9 := f20.2
  unfold postb_216 at i9
  rw [f19] at i9
  have cm9 := f21
  have b9 := (isR_or (k := 26) p9.2.2.1 (by decide) i9).resolve_left (fun w => absurd (w.1.symm.trans cm9) (by decide))
  replace b9 := b9.2
  rw [v9, ah9, kmc_26] at b9
  refine ⟨p9.2.2.1, ?_⟩
  rw [ah9]
  exact (if_neg b9).symm
def g_228w_s_0 : vG := ([(30, [37], [], 0), (1216, [37, 0, 36], [9, 10], 0), (0, [36], [], 26), (80, [30, 34, 35], [9, 8], 0), (0, [30], [], 305), (80, [24, 28, 29], [8, 7], 0), (0, [24], [], 305), (80, [18, 22, 23], [7, 6], 0), (0, [18], [], 305), (80, [12, 16, 17], [6, 5], 0), (0, [12], [], 305), (80, [8, 10, 11], [5, 4], 0), (0, [8], [], 305), (1229, [0, 1, 7], [3, 4], 0), (0, [7], [], 0), (1220, [0, 6], [2, 3], 0), (0, [6], [], 25), (80, [2, 1, 5], [2, 1], 0), (1223, [5, 0, 3, 4], [0, 1], 0), (0, [4], [], 19), (0, [3], [], 0), (0, [2], [], 300)], (4000, [0, 1], [10], 113))
theorem c_228w_s_0 : vOkm T0 (eN e_228 L_228w A_228 mu_228 n_228 B_228 none) 2 g_228w_s_0 := vOk_inI fun ρ η f0 f1 f2 f3 f4 f5 f6 f7 f8 f9 f10 f11 f12 f13 f14 f15 f16 f17 f18 f19 f20 f21 => q_228w_0 (n0 := ρ 1) (n1 := ρ 0) (n2 := ρ 2) (n3 := ρ 3) (n4 := ρ 4) (n5 := ρ 5) (n6 := ρ 6) (n7 := ρ 7) (n8 := ρ 8) (n10 := ρ 10) (n11 := ρ 11) (n12 := ρ 12) (n16 := ρ 16) (n17 := ρ 17) (n18 := ρ 18) (n22 := ρ 22) (n23 := ρ 23) (n24 := ρ 24) (n28 := ρ 28) (n29 := ρ 29) (n30 := ρ 30) (n34 := ρ 34) (n35 := ρ 35) (n36 := ρ 36) (n37 := ρ 37) (H0 := η 0) (H1 := η 1) (H2 := η 2) (H3 := η 3) (H4 := η 4) (H5 := η 5) (H6 := η 6) (H7 := η 7) (H8 := η 8) (H9 := η 9) (H10 := η 10) f21 f20 f19 f18 f17 f16 f15 f14 f13 f12 f11 f10 f9 f8 f7 f6 f5 f4 f3 f2 f1 f0
theorem q_228w_1 {n0 n1 n2 n3 n4 n5 n6 n7 n8 n10 n11 n12 n16 n17 n18 n22 n23 n24 n28 n29 n30 n34 n35 n36 n37 n38 n40 n41 n42 n43 : Int} {H0 H1 H2 H3 H4 H5 H6 H7 H8 H9 H10 H11 H12 H13 : gH} (f0 : n2 = 300) (f1 : n3 = 0) (f2 : n4 = 19) (f3 : (hLe T0 H0 H1 ∧ hFr s_223.2.2.2.2 H0 H1 ∧ ((0 : Int) = 0 → H1.length = H0.length) ∧ hWt T0 H1) ∧ (postb_223 n5 n1 n3 n4 H0 H1 ∧ nb_223 n5 n1 n3 n4 H0 H1)) (f4 : hUpd H2 H1 n2 n0 n5) (f5 : n6 = 25) (f6 : (hLe T0 H2 H3 ∧ hFr s_220.2.2.2.2 H2 H3 ∧ ((0 : Int) = 0 → H3.length = H2.length) ∧ hWt T0 H3) ∧ (postb_220 n1 n6 H2 H3 ∧ nb_220 n1 n6 H2 H3)) (f7 : n7 = 0) (f8 : (hLe T0 H3 H4 ∧ hFr s_229.2.2.2.2 H3 H4 ∧ ((0 : Int) = 0 → H4.length = H3.length) ∧ hWt T0 H4) ∧ (postb_229 n1 n0 n7 H3 H4 ∧ nb_229 n1 n0 n7 H3 H4)) (f9 : n8 = 305) (f10 : hUpd H5 H4 n8 n10 n11) (f11 : n12 = 305) (f12 : hUpd H6 H5 n12 n16 n17) (f13 : n18 = 305) (f14 : hUpd H7 H6 n18 n22 n23) (f15 : n24 = 305) (f16 : hUpd H8 H7 n24 n28 n29) (f17 : n30 = 305) (f18 : hUpd H9 H8 n30 n34 n35) (f19 : n36 = 26) (f20 : (hLe T0 H9 H10 ∧ hFr s_216.2.2.2.2 H9 H10 ∧ ((0 : Int) = 0 → H10.length = H9.length) ∧ hWt T0 H10) ∧ postb_216 n37 n1 n36 H9 H10) (f21 : n37 ≠ 0) (f22 : (hLe T0 H10 H11 ∧ hFr s_219.2.2.2.2 H10 H11 ∧ ((0 : Int) = 0 → H11.length = H10.length) ∧ hWt T0 H11) ∧ (postb_219 n1 H10 H11 ∧ nb_219 n1 H10 H11)) (f23 : n38 = 305) (f24 : n41 = 0) (f25 : n42 = 60) (f26 : (hLe T0 H11 H12 ∧ hFr s_223.2.2.2.2 H11 H12 ∧ ((0 : Int) = 0 → H12.length = H11.length) ∧ hWt T0 H12) ∧ (postb_223 n43 n1 n41 n42 H11 H12 ∧ nb_223 n43 n1 n41 n42 H11 H12)) (f27 : hUpd H13 H12 n38 n40 n43) : Bb_228_113 n1 n0 n1 n0 H0 H13 := by
  unfold Bb_228_113
  intro z
  have c0 := f3.2.2 z
  try rw [f1] at c0
  try rw [f2] at c0
  have v0 : vwR H1 = vwR H0 := (vwR_fr f3.1.2.1 (by decide +kernel))
  have p1 := PR_row (q := 300) f4 f0 (by decide) c0.1
  have v1 : vwR H2 = vwR H0 := p1.2.1.trans v0
  have ah1 : absR H2 = (pnm (vwR H0) 0 19 (absR H0)) := p1.1.trans c0.2
  have c2 := f6.2.2 p1.2.2.1 (by rw [f5]; decide)
  try rw [f5] at c2
  rw [v1, ah1, kmc_25] at c2
  have v2 : vwR H3 = vwR H0 := (vwR_fr f6.1.2.1 (by decide +kernel)).trans v1
  have c3 := f8.2.2 c2.1
  try rw [f7] at c3
  rw [v2, c2.2] at c3
  have v3 : vwR H4 = vwR H0 := (vwR_fr f8.1.2.1 (by decide +kernel)).trans v2
  have p4 := PR_row (q := 305) f10 f9 (by decide) c3.1
  have v4 : vwR H5 = vwR H0 := p4.2.1.trans v3
  have ah4 : absR H5 = (pTime (vwR H0) (ptk (vwR H0) 26 (pnm (vwR H0) 0 19 (absR H0)))) := p4.1.trans c3.2
  have p5 := PR_row (q := 305) f12 f11 (by decide) p4.2.2.1
  have v5 : vwR H6 = vwR H0 := p5.2.1.trans v4
  have ah5 : absR H6 = (pTime (vwR H0) (ptk (vwR H0) 26 (pnm (vwR H0) 0 19 (absR H0)))) := p5.1.trans ah4
  have p6 := PR_row (q := 305) f14 f13 (by decide) p5.2.2.1
  have v6 : vwR H7 = vwR H0 := p6.2.1.trans v5
  have ah6 : absR H7 = (pTime (vwR H0) (ptk (vwR H0) 26 (pnm (vwR H0) 0 19 (absR H0)))) := p6.1.trans ah5
  have p7 := PR_row (q := 305) f16 f15 (by decide) p6.2.2.1
  have v7 : vwR H8 = vwR H0 := p7.2.1.trans v6
  have ah7 : absR H8 = (pTime (vwR H0) (ptk (vwR H0) 26 (pnm (vwR H0) 0 19 (absR H0)))) := p7.1.trans ah6
  have p8 := PR_row (q := 305) f18 f17 (by decide) p7.2.2.1
  have v8 : vwR H9 = vwR H0 := p8.2.1.trans v7
  have ah8 : absR H9 = (pTime (vwR H0) (ptk (vwR H0) 26 (pnm (vwR H0) 0 19 (absR H0)))) := p8.1.trans ah7
  have p9 := PR_fr f20.1.2.1 (by decide +kernel) p8.2.2.1
  have v9 : vwR H10 = vwR H0 := p9.2.1.trans v8
  have ah9 : absR H10 = (pTime (vwR H0) (ptk (vwR H0) 26 (pnm (vwR H0) 0 19 (absR H0)))) := p9.1.trans ah8
  have i9 := f20.2
  unfold postb_216 at i9
  rw [f19] at i9
  have cm9 := f21
  have b9 := (isR_or (k := 26) p9.2.2.1 (by decide) i9).resolve_right (fun w => cm9 w.1)
  replace b9 := b9.2
  rw [v9, ah9, kmc_26] at b9
  have c10 := f22.2.2 p9.2.2.1 (by rw [v9, ah9]; rw [b9]; decide)
  rw [v9, ah9, b9] at c10
  have v10 : vwR H11 = vwR H0 := (vwR_fr f22.1.2.1 (by decide +kernel)).trans v9
  have c11 := f26.2.2 c10.1
  try rw [f24] at c11
  try rw [f25] at c11
  rw [v10, c10.2] at c11
  have v11 : vwR H12 = vwR H0 := (vwR_fr f26.1.2.1 (by decide +kernel)).trans v10
  have p12 := PR_row (q := 305) f27 f23 (by decide) c11.1
  have v12 : vwR H13 = vwR H0 := p12.2.1.trans v11
  have ah12 : absR H13 = (pnm (vwR H0) 0 60 (ptk (vwR H0) 27 (pTime (vwR H0) (ptk (vwR H0) 26 (pnm (vwR H0) 0 19 (absR H0)))))) := p12.1.trans c11.2
  refine ⟨p12.2.2.1, ?_⟩
  rw [ah12]
  exact (if_pos b9).symm
def g_228w_s_1 : vG := ([(80, [38, 40, 43], [13, 12], 0), (1223, [43, 0, 41, 42], [11, 12], 0), (0, [42], [], 60), (0, [41], [], 0), (0, [38], [], 305), (1219, [0], [10, 11], 0), (31, [37], [], 0), (1216, [37, 0, 36], [9, 10], 0), (0, [36], [], 26), (80, [30, 34, 35], [9, 8], 0), (0, [30], [], 305), (80, [24, 28, 29], [8, 7], 0), (0, [24], [], 305), (80, [18, 22, 23], [7, 6], 0), (0, [18], [], 305), (80, [12, 16, 17], [6, 5], 0), (0, [12], [], 305), (80, [8, 10, 11], [5, 4], 0), (0, [8], [], 305), (1229, [0, 1, 7], [3, 4], 0), (0, [7], [], 0), (1220, [0, 6], [2, 3], 0), (0, [6], [], 25), (80, [2, 1, 5], [2, 1], 0), (1223, [5, 0, 3, 4], [0, 1], 0), (0, [4], [], 19), (0, [3], [], 0), (0, [2], [], 300)], (4000, [0, 1], [13], 113))
theorem c_228w_s_1 : vOkm T0 (eN e_228 L_228w A_228 mu_228 n_228 B_228 none) 2 g_228w_s_1 := vOk_inI fun ρ η f0 f1 f2 f3 f4 f5 f6 f7 f8 f9 f10 f11 f12 f13 f14 f15 f16 f17 f18 f19 f20 f21 f22 f23 f24 f25 f26 f27 => q_228w_1 (n0 := ρ 1) (n1 := ρ 0) (n2 := ρ 2) (n3 := ρ 3) (n4 := ρ 4) (n5 := ρ 5) (n6 := ρ 6) (n7 := ρ 7) (n8 := ρ 8) (n10 := ρ 10) (n11 := ρ 11) (n12 := ρ 12) (n16 := ρ 16) (n17 := ρ 17) (n18 := ρ 18) (n22 := ρ 22) (n23 := ρ 23) (n24 := ρ 24) (n28 := ρ 28) (n29 := ρ 29) (n30 := ρ 30) (n34 := ρ 34) (n35 := ρ 35) (n36 := ρ 36) (n37 := ρ 37) (n38 := ρ 38) (n40 := ρ 40) (n41 := ρ 41) (n42 := ρ 42) (n43 := ρ 43) (H0 := η 0) (H1 := η 1) (H2 := η 2) (H3 := η 3) (H4 := η 4) (H5 := η 5) (H6 := η 6) (H7 := η 7) (H8 := η 8) (H9 := η 9) (H10 := η 10) (H11 := η 11) (H12 := η 12) (H13 := η 13) f27 f26 f25 f24 f23 f22 f21 f20 f19 f18 f17 f16 f15 f14 f13 f12 f11 f10 f9 f8 f7 f6 f5 f4 f3 f2 f1 f0
def p_228w_s : List vG := [g_228w_s_0,
  g_228w_s_1]
theorem r_228w_s : vCovBO (eR0 e_228 L_228 cs_228 2000) p_228w_s = true := by decide +kernel
theorem q_228w_2 {q0 : Nat} {n0 n1 n2 n3 n4 n5 : Int} {H0 H1 H2 : gH} (f0 : (hLe T0 H0 H1 ∧ hFr s_228.2.2.2.2 H0 H1 ∧ hWt T0 H1) ∧ ((Ab_228_113 n3 n2 n1 n0 H0 H1 ∧ Bb_228_113 n3 n2 n1 n0 H0 H1) ∧ preb_228 n3 n2 H0) ∧ some q0 = some (mub_228_113 n3 n2 n1 n0 H0 H1)) (f1 : n4 = 27) (f2 : (hLe T0 H1 H2 ∧ hFr s_216.2.2.2.2 H1 H2 ∧ ((0 : Int) = 0 → H2.length = H1.length) ∧ hWt T0 H2) ∧ postb_216 n5 n1 n4 H1 H2) (f3 : n5 = 0) : Bb_228_144 n3 n2 n1 n0 H0 H2 := by
  unfold Bb_228_144
  intro z
  have ga := f0.2.1.1.2
  unfold Bb_228_113 at ga
  have gb := ga z
  have vz : vwR H1 = vwR H0 := vwR_fr f0.1.2.1 (by decide +kernel)
  have p0 := PR_fr f2.1.2.1 (by decide +kernel) gb.1
  have v0 : vwR H2 = vwR H0 := p0.2.1.trans vz
  have ah0 : absR H2 = (pOpt (vwR H0) 27 0 60 (pTime (vwR H0) (ptk (vwR H0) 26 (pnm (vwR H0) 0 19 (absR H0))))) := p0.1.trans gb.2
  have i0 := f2.2
  unfold postb_216 at i0
  rw [f1] at i0
  have cm0 := f3
  have b0 := (isR_or (k := 27) p0.2.2.1 (by decide) i0).resolve_left (fun w => absurd (w.1.symm.trans cm0) (by decide))
  replace b0 := b0.2
  rw [v0, ah0, kmc_27] at b0
  refine ⟨p0.2.2.1, ?_⟩
  rw [ah0]
  exact (if_neg b0).symm
def g_228w_113_0 : vG := ([(30, [5], [], 0), (1216, [5, 2, 4], [1, 2], 0), (0, [4], [], 27), (5000, [0, 1, 2, 3], [0, 1], 113)], (4000, [2, 3], [2], 144))
theorem c_228w_113_0 {q0 : Nat} : vOkm T0 (eN e_228 L_228w A_228 mu_228 n_228 B_228 (some q0)) 2 g_228w_113_0 := vOk_inI fun ρ η f0 f1 f2 f3 => q_228w_2 (q0 := q0) (n0 := ρ 3) (n1 := ρ 2) (n2 := ρ 1) (n3 := ρ 0) (n4 := ρ 4) (n5 := ρ 5) (H0 := η 0) (H1 := η 1) (H2 := η 2) f3 f2 f1 f0
theorem q_228w_3 {q0 : Nat} {n0 n1 n2 n3 n4 n5 n6 n10 n11 n12 n13 : Int} {H0 H1 H2 H3 H4 H5 : gH} (f0 : (hLe T0 H0 H1 ∧ hFr s_228.2.2.2.2 H0 H1 ∧ hWt T0 H1) ∧ ((Ab_228_113 n3 n2 n1 n0 H0 H1 ∧ Bb_228_113 n3 n2 n1 n0 H0 H1) ∧ preb_228 n3 n2 H0) ∧ some q0 = some (mub_228_113 n3 n2 n1 n0 H0 H1)) (f1 : n4 = 27) (f2 : (hLe T0 H1 H2 ∧ hFr s_216.2.2.2.2 H1 H2 ∧ ((0 : Int) = 0 → H2.length = H1.length) ∧ hWt T0 H2) ∧ postb_216 n5 n1 n4 H1 H2) (f3 : n5 ≠ 0) (f4 : (hLe T0 H2 H3 ∧ hFr s_219.2.2.2.2 H2 H3 ∧ ((0 : Int) = 0 → H3.length = H2.length) ∧ hWt T0 H3) ∧ (postb_219 n1 H2 H3 ∧ nb_219 n1 H2 H3)) (f5 : n6 = 305) (f6 : n11 = 0) (f7 : n12 = 60) (f8 : (hLe T0 H3 H4 ∧ hFr s_223.2.2.2.2 H3 H4 ∧ ((0 : Int) = 0 → H4.length = H3.length) ∧ hWt T0 H4) ∧ (postb_223 n13 n1 n11 n12 H3 H4 ∧ nb_223 n13 n1 n11 n12 H3 H4)) (f9 : hUpd H5 H4 n6 n10 n13) : Bb_228_144 n3 n2 n1 n0 H0 H5 := by
  unfold Bb_228_144
  intro z
  have ga := f0.2.1.1.2
  unfold Bb_228_113 at ga
  have gb := ga z
  have vz : vwR H1 = vwR H0 := vwR_fr f0.1.2.1 (by decide +kernel)
  have p0 := PR_fr f2.1.2.1 (by decide +kernel) gb.1
  have v0 : vwR H2 = vwR H0 := p0.2.1.trans vz
  have ah0 : absR H2 = (pOpt (vwR H0) 27 0 60 (pTime (vwR H0) (ptk (vwR H0) 26 (pnm (vwR H0) 0 19 (absR H0))))) := p0.1.trans gb.2
  have i0 := f2.2
  unfold postb_216 at i0
  rw [f1] at i0
  have cm0 := f3
  have b0 := (isR_or (k := 27) p0.2.2.1 (by decide) i0).resolve_right (fun w => cm0 w.1)
  replace b0 := b0.2
  rw [v0, ah0, kmc_27] at b0
  have c1 := f4.2.2 p0.2.2.1 (by rw [v0, ah0]; rw [b0]; decide)
  rw [v0, ah0, b0] at c1
  have v1 : vwR H3 = vwR H0 := (vwR_fr f4.1.2.1 (by decide +kernel)).trans v0
  have c2 := f8.2.2 c1.1
  try rw [f6] at c2
  try rw [f7] at c2
  rw [v1, c1.2] at c2
  have v2 : vwR H4 = vwR H0 := (vwR_fr f8.1.2.1 (by decide +kernel)).trans v1
  have p3 := PR_row (q := 305) f9 f5 (by decide) c2.1
  have v3 : vwR H5 = vwR H0 := p3.2.1.trans v2
  have ah3 : absR H5 = (pnm (vwR H0) 0 60 (ptk (vwR H0) 28 (pOpt (vwR H0) 27 0 60 (pTime (vwR H0) (ptk (vwR H0) 26 (pnm (vwR H0) 0 19 (absR H0))))))) := p3.1.trans c2.2
  refine ⟨p3.2.2.1, ?_⟩
  rw [ah3]
  exact (if_pos b0).symm
def g_228w_113_1 : vG := ([(80, [6, 10, 13], [5, 4], 0), (1223, [13, 2, 11, 12], [3, 4], 0), (0, [12], [], 60), (0, [11], [], 0), (0, [6], [], 305), (1219, [2], [2, 3], 0), (31, [5], [], 0), (1216, [5, 2, 4], [1, 2], 0), (0, [4], [], 27), (5000, [0, 1, 2, 3], [0, 1], 113)], (4000, [2, 3], [5], 144))
theorem c_228w_113_1 {q0 : Nat} : vOkm T0 (eN e_228 L_228w A_228 mu_228 n_228 B_228 (some q0)) 2 g_228w_113_1 := vOk_inI fun ρ η f0 f1 f2 f3 f4 f5 f6 f7 f8 f9 => q_228w_3 (q0 := q0) (n0 := ρ 3) (n1 := ρ 2) (n2 := ρ 1) (n3 := ρ 0) (n4 := ρ 4) (n5 := ρ 5) (n6 := ρ 6) (n10 := ρ 10) (n11 := ρ 11) (n12 := ρ 12) (n13 := ρ 13) (H0 := η 0) (H1 := η 1) (H2 := η 2) (H3 := η 3) (H4 := η 4) (H5 := η 5) f9 f8 f7 f6 f5 f4 f3 f2 f1 f0
def p_228w_113 : List vG := [g_228w_113_0,
  g_228w_113_1]
theorem r_228w_113 : vCovBO (eRc e_228 L_228 cs_228 2000 (113, [(0, (3, 12, 285, 0)), (1, (0, 0, 1007, 0))])) p_228w_113 = true := by decide +kernel
theorem q_228w_4 {q0 : Nat} {n0 n1 n2 n3 n4 n5 : Int} {H0 H1 H2 : gH} (f0 : (hLe T0 H0 H1 ∧ hFr s_228.2.2.2.2 H0 H1 ∧ hWt T0 H1) ∧ ((Ab_228_144 n3 n2 n1 n0 H0 H1 ∧ Bb_228_144 n3 n2 n1 n0 H0 H1) ∧ preb_228 n3 n2 H0) ∧ some q0 = some (mub_228_144 n3 n2 n1 n0 H0 H1)) (f1 : n4 = 28) (f2 : (hLe T0 H1 H2 ∧ hFr s_216.2.2.2.2 H1 H2 ∧ ((0 : Int) = 0 → H2.length = H1.length) ∧ hWt T0 H2) ∧ postb_216 n5 n1 n4 H1 H2) (f3 : n5 = 0) : Bb_228_176 n3 n2 n1 n0 H0 H2 := by
  unfold Bb_228_176
  intro z
  have ga := f0.2.1.1.2
  unfold Bb_228_144 at ga
  have gb := ga z
  have vz : vwR H1 = vwR H0 := vwR_fr f0.1.2.1 (by decide +kernel)
  have p0 := PR_fr f2.1.2.1 (by decide +kernel) gb.1
  have v0 : vwR H2 = vwR H0 := p0.2.1.trans vz
  have ah0 : absR H2 = (pOpt (vwR H0) 28 0 60 (pOpt (vwR H0) 27 0 60 (pTime (vwR H0) (ptk (vwR H0) 26 (pnm (vwR H0) 0 19 (absR H0)))))) := p0.1.trans gb.2
  have i0 := f2.2
  unfold postb_216 at i0
  rw [f1] at i0
  have cm0 := f3
  have b0 := (isR_or (k := 28) p0.2.2.1 (by decide) i0).resolve_left (fun w => absurd (w.1.symm.trans cm0) (by decide))
  replace b0 := b0.2
  rw [v0, ah0, kmc_28] at b0
  refine ⟨p0.2.2.1, ?_⟩
  rw [ah0]
  exact (if_neg b0).symm
def g_228w_144_0 : vG := ([(30, [5], [], 0), (1216, [5, 2, 4], [1, 2], 0), (0, [4], [], 28), (5000, [0, 1, 2, 3], [0, 1], 144)], (4000, [2, 3], [2], 176))
theorem c_228w_144_0 {q0 : Nat} : vOkm T0 (eN e_228 L_228w A_228 mu_228 n_228 B_228 (some q0)) 2 g_228w_144_0 := vOk_inI fun ρ η f0 f1 f2 f3 => q_228w_4 (q0 := q0) (n0 := ρ 3) (n1 := ρ 2) (n2 := ρ 1) (n3 := ρ 0) (n4 := ρ 4) (n5 := ρ 5) (H0 := η 0) (H1 := η 1) (H2 := η 2) f3 f2 f1 f0
theorem q_228w_5 {q0 : Nat} {n0 n1 n2 n3 n4 n5 n6 n10 n11 n12 n13 : Int} {H0 H1 H2 H3 H4 H5 : gH} (f0 : (hLe T0 H0 H1 ∧ hFr s_228.2.2.2.2 H0 H1 ∧ hWt T0 H1) ∧ ((Ab_228_144 n3 n2 n1 n0 H0 H1 ∧ Bb_228_144 n3 n2 n1 n0 H0 H1) ∧ preb_228 n3 n2 H0) ∧ some q0 = some (mub_228_144 n3 n2 n1 n0 H0 H1)) (f1 : n4 = 28) (f2 : (hLe T0 H1 H2 ∧ hFr s_216.2.2.2.2 H1 H2 ∧ ((0 : Int) = 0 → H2.length = H1.length) ∧ hWt T0 H2) ∧ postb_216 n5 n1 n4 H1 H2) (f3 : n5 ≠ 0) (f4 : (hLe T0 H2 H3 ∧ hFr s_219.2.2.2.2 H2 H3 ∧ ((0 : Int) = 0 → H3.length = H2.length) ∧ hWt T0 H3) ∧ (postb_219 n1 H2 H3 ∧ nb_219 n1 H2 H3)) (f5 : n6 = 305) (f6 : n11 = 0) (f7 : n12 = 400) (f8 : (hLe T0 H3 H4 ∧ hFr s_223.2.2.2.2 H3 H4 ∧ ((0 : Int) = 0 → H4.length = H3.length) ∧ hWt T0 H4) ∧ (postb_223 n13 n1 n11 n12 H3 H4 ∧ nb_223 n13 n1 n11 n12 H3 H4)) (f9 : hUpd H5 H4 n6 n10 n13) : Bb_228_176 n3 n2 n1 n0 H0 H5 := by
  unfold Bb_228_176
  intro z
  have ga := f0.2.1.1.2
  unfold Bb_228_144 at ga
  have gb := ga z
  have vz : vwR H1 = vwR H0 := vwR_fr f0.1.2.1 (by decide +kernel)
  have p0 := PR_fr f2.1.2.1 (by decide +kernel) gb.1
  have v0 : vwR H2 = vwR H0 := p0.2.1.trans vz
  have ah0 : absR H2 = (pOpt (vwR H0) 28 0 60 (pOpt (vwR H0) 27 0 60 (pTime (vwR H0) (ptk (vwR H0) 26 (pnm (vwR H0) 0 19 (absR H0)))))) := p0.1.trans gb.2
  have i0 := f2.2
  unfold postb_216 at i0
  rw [f1] at i0
  have cm0 := f3
  have b0 := (isR_or (k := 28) p0.2.2.1 (by decide) i0).resolve_right (fun w => cm0 w.1)
  replace b0 := b0.2
  rw [v0, ah0, kmc_28] at b0
  have c1 := f4.2.2 p0.2.2.1 (by rw [v0, ah0]; rw [b0]; decide)
  rw [v0, ah0, b0] at c1
  have v1 : vwR H3 = vwR H0 := (vwR_fr f4.1.2.1 (by decide +kernel)).trans v0
  have c2 := f8.2.2 c1.1
  try rw [f6] at c2
  try rw [f7] at c2
  rw [v1, c1.2] at c2
  have v2 : vwR H4 = vwR H0 := (vwR_fr f8.1.2.1 (by decide +kernel)).trans v1
  have p3 := PR_row (q := 305) f9 f5 (by decide) c2.1
  have v3 : vwR H5 = vwR H0 := p3.2.1.trans v2
  have ah3 : absR H5 = (pnm (vwR H0) 0 400 (ptk (vwR H0) 29 (pOpt (vwR H0) 28 0 60 (pOpt (vwR H0) 27 0 60 (pTime (vwR H0) (ptk (vwR H0) 26 (pnm (vwR H0) 0 19 (absR H0)))))))) := p3.1.trans c2.2
  refine ⟨p3.2.2.1, ?_⟩
  rw [ah3]
  exact (if_pos b0).symm
def g_228w_144_1 : vG := ([(80, [6, 10, 13], [5, 4], 0), (1223, [13, 2, 11, 12], [3, 4], 0), (0, [12], [], 400), (0, [11], [], 0), (0, [6], [], 305), (1219, [2], [2, 3], 0), (31, [5], [], 0), (1216, [5, 2, 4], [1, 2], 0), (0, [4], [], 28), (5000, [0, 1, 2, 3], [0, 1], 144)], (4000, [2, 3], [5], 176))
theorem c_228w_144_1 {q0 : Nat} : vOkm T0 (eN e_228 L_228w A_228 mu_228 n_228 B_228 (some q0)) 2 g_228w_144_1 := vOk_inI fun ρ η f0 f1 f2 f3 f4 f5 f6 f7 f8 f9 => q_228w_5 (q0 := q0) (n0 := ρ 3) (n1 := ρ 2) (n2 := ρ 1) (n3 := ρ 0) (n4 := ρ 4) (n5 := ρ 5) (n6 := ρ 6) (n10 := ρ 10) (n11 := ρ 11) (n12 := ρ 12) (n13 := ρ 13) (H0 := η 0) (H1 := η 1) (H2 := η 2) (H3 := η 3) (H4 := η 4) (H5 := η 5) f9 f8 f7 f6 f5 f4 f3 f2 f1 f0
def p_228w_144 : List vG := [g_228w_144_0,
  g_228w_144_1]
theorem r_228w_144 : vCovBO (eRc e_228 L_228 cs_228 2000 (144, [(0, (3, 12, 285, 0)), (1, (0, 0, 1007, 0))])) p_228w_144 = true := by decide +kernel
theorem q_228w_6 {q0 : Nat} {n0 n1 n2 n3 n4 n5 : Int} {H0 H1 H2 : gH} (f0 : (hLe T0 H0 H1 ∧ hFr s_228.2.2.2.2 H0 H1 ∧ hWt T0 H1) ∧ ((Ab_228_176 n3 n2 n1 n0 H0 H1 ∧ Bb_228_176 n3 n2 n1 n0 H0 H1) ∧ preb_228 n3 n2 H0) ∧ some q0 = some (mub_228_176 n3 n2 n1 n0 H0 H1)) (f1 : n4 = 29) (f2 : (hLe T0 H1 H2 ∧ hFr s_216.2.2.2.2 H1 H2 ∧ ((0 : Int) = 0 → H2.length = H1.length) ∧ hWt T0 H2) ∧ postb_216 n5 n1 n4 H1 H2) (f3 : n5 = 0) : Bb_228_231 n3 n2 n1 n0 H0 H2 := by
  unfold Bb_228_231
  intro z
  have ga := f0.2.1.1.2
  unfold Bb_228_176 at ga
  have gb := ga z
  have vz : vwR H1 = vwR H0 := vwR_fr f0.1.2.1 (by decide +kernel)
  have p0 := PR_fr f2.1.2.1 (by decide +kernel) gb.1
  have v0 : vwR H2 = vwR H0 := p0.2.1.trans vz
  have ah0 : absR H2 = (pOpt (vwR H0) 29 0 400 (pOpt (vwR H0) 28 0 60 (pOpt (vwR H0) 27 0 60 (pTime (vwR H0) (ptk (vwR H0) 26 (pnm (vwR H0) 0 19 (absR H0))))))) := p0.1.trans gb.2
  have i0 := f2.2
  unfold postb_216 at i0
  rw [f1] at i0
  have cm0 := f3
  have b0 := (isR_or (k := 29) p0.2.2.1 (by decide) i0).resolve_left (fun w => absurd (w.1.symm.trans cm0) (by decide))
  replace b0 := b0.2
  rw [v0, ah0, kmc_29] at b0
  refine ⟨p0.2.2.1, ?_⟩
  rw [ah0]
  exact (if_neg b0).symm
def g_228w_176_0 : vG := ([(30, [5], [], 0), (1216, [5, 2, 4], [1, 2], 0), (0, [4], [], 29), (5000, [0, 1, 2, 3], [0, 1], 176)], (4000, [2, 3], [2], 231))
theorem c_228w_176_0 {q0 : Nat} : vOkm T0 (eN e_228 L_228w A_228 mu_228 n_228 B_228 (some q0)) 2 g_228w_176_0 := vOk_inI fun ρ η f0 f1 f2 f3 => q_228w_6 (q0 := q0) (n0 := ρ 3) (n1 := ρ 2) (n2 := ρ 1) (n3 := ρ 0) (n4 := ρ 4) (n5 := ρ 5) (H0 := η 0) (H1 := η 1) (H2 := η 2) f3 f2 f1 f0
theorem q_228w_7 {q0 : Nat} {n0 n1 n2 n3 n4 n5 n6 n10 n11 n12 n13 n14 n15 n19 n20 n21 n22 : Int} {H0 H1 H2 H3 H4 H5 H6 H7 H8 : gH} (f0 : (hLe T0 H0 H1 ∧ hFr s_228.2.2.2.2 H0 H1 ∧ hWt T0 H1) ∧ ((Ab_228_176 n3 n2 n1 n0 H0 H1 ∧ Bb_228_176 n3 n2 n1 n0 H0 H1) ∧ preb_228 n3 n2 H0) ∧ some q0 = some (mub_228_176 n3 n2 n1 n0 H0 H1)) (f1 : n4 = 29) (f2 : (hLe T0 H1 H2 ∧ hFr s_216.2.2.2.2 H1 H2 ∧ ((0 : Int) = 0 → H2.length = H1.length) ∧ hWt T0 H2) ∧ postb_216 n5 n1 n4 H1 H2) (f3 : n5 ≠ 0) (f4 : (hLe T0 H2 H3 ∧ hFr s_219.2.2.2.2 H2 H3 ∧ ((0 : Int) = 0 → H3.length = H2.length) ∧ hWt T0 H3) ∧ (postb_219 n1 H2 H3 ∧ nb_219 n1 H2 H3)) (f5 : n6 = 305) (f6 : n11 = 1) (f7 : n12 = 9) (f8 : (hLe T0 H3 H4 ∧ hFr s_223.2.2.2.2 H3 H4 ∧ ((0 : Int) = 0 → H4.length = H3.length) ∧ hWt T0 H4) ∧ (postb_223 n13 n1 n11 n12 H3 H4 ∧ nb_223 n13 n1 n11 n12 H3 H4)) (f9 : hUpd H5 H4 n6 n10 n13) (f10 : n14 = 15) (f11 : (hLe T0 H5 H6 ∧ hFr s_220.2.2.2.2 H5 H6 ∧ ((0 : Int) = 0 → H6.length = H5.length) ∧ hWt T0 H6) ∧ (postb_220 n1 n14 H5 H6 ∧ nb_220 n1 n14 H5 H6)) (f12 : n15 = 305) (f13 : n20 = 1) (f14 : n21 = 9) (f15 : (hLe T0 H6 H7 ∧ hFr s_223.2.2.2.2 H6 H7 ∧ ((0 : Int) = 0 → H7.length = H6.length) ∧ hWt T0 H7) ∧ (postb_223 n22 n1 n20 n21 H6 H7 ∧ nb_223 n22 n1 n20 n21 H6 H7)) (f16 : hUpd H8 H7 n15 n19 n22) : Bb_228_231 n3 n2 n1 n0 H0 H8 := by
  unfold Bb_228_231
  intro z
  have ga := f0.2.1.1.2
  unfold Bb_228_176 at ga
  have gb := ga z
  have vz : vwR H1 = vwR H0 := vwR_fr f0.1.2.1 (by decide +kernel)
  have p0 := PR_fr f2.1.2.1 (by decide +kernel) gb.1
  have v0 : vwR H2 = vwR H0 := p0.2.1.trans vz
  have ah0 : absR H2 = (pOpt (vwR H0) 29 0 400 (pOpt (vwR H0) 28 0 60 (pOpt (vwR H0) 27 0 60 (pTime (vwR H0) (ptk (vwR H0) 26 (pnm (vwR H0) 0 19 (absR H0))))))) := p0.1.trans gb.2
  have i0 := f2.2
  unfold postb_216 at i0
  rw [f1] at i0
  have cm0 := f3
  have b0 := (isR_or (k := 29) p0.2.2.1 (by decide) i0).resolve_right (fun w => cm0 w.1)
  replace b0 := b0.2
  rw [v0, ah0, kmc_29] at b0
  have c1 := f4.2.2 p0.2.2.1 (by rw [v0, ah0]; rw [b0]; decide)
  rw [v0, ah0, b0] at c1
  have v1 : vwR H3 = vwR H0 := (vwR_fr f4.1.2.1 (by decide +kernel)).trans v0
  have c2 := f8.2.2 c1.1
  try rw [f6] at c2
  try rw [f7] at c2
  rw [v1, c1.2] at c2
  have v2 : vwR H4 = vwR H0 := (vwR_fr f8.1.2.1 (by decide +kernel)).trans v1
  have p3 := PR_row (q := 305) f9 f5 (by decide) c2.1
  have v3 : vwR H5 = vwR H0 := p3.2.1.trans v2
  have ah3 : absR H5 = (pnm (vwR H0) 1 9 (ptk (vwR H0) 30 (pOpt (vwR H0) 29 0 400 (pOpt (vwR H0) 28 0 60 (pOpt (vwR H0) 27 0 60 (pTime (vwR H0) (ptk (vwR H0) 26 (pnm (vwR H0) 0 19 (absR H0))))))))) := p3.1.trans c2.2
  have c4 := f11.2.2 p3.2.2.1 (by rw [f10]; decide)
  try rw [f10] at c4
  rw [v3, ah3, kmc_15] at c4
  have v4 : vwR H6 = vwR H0 := (vwR_fr f11.1.2.1 (by decide +kernel)).trans v3
  have c5 := f15.2.2 c4.1
  try rw [f13] at c5
  try rw [f14] at c5
  rw [v4, c4.2] at c5
  have v5 : vwR H7 = vwR H0 := (vwR_fr f15.1.2.1 (by decide +kernel)).trans v4
  have p6 := PR_row (q := 305) f16 f12 (by decide) c5.1
  have v6 : vwR H8 = vwR H0 := p6.2.1.trans v5
  have ah6 : absR H8 = (pnm (vwR H0) 1 9 (ptk (vwR H0) 9 (pnm (vwR H0) 1 9 (ptk (vwR H0) 30 (pOpt (vwR H0) 29 0 400 (pOpt (vwR H0) 28 0 60 (pOpt (vwR H0) 27 0 60 (pTime (vwR H0) (ptk (vwR H0) 26 (pnm (vwR H0) 0 19 (absR H0))))))))))) := p6.1.trans c5.2
  refine ⟨p6.2.2.1, ?_⟩
  rw [ah6]
  exact (if_pos b0).symm
def g_228w_176_1 : vG := ([(80, [15, 19, 22], [8, 7], 0), (1223, [22, 2, 20, 21], [6, 7], 0), (0, [21], [], 9), (0, [20], [], 1), (0, [15], [], 305), (1220, [2, 14], [5, 6], 0), (0, [14], [], 15), (80, [6, 10, 13], [5, 4], 0), (1223, [13, 2, 11, 12], [3, 4], 0), (0, [12], [], 9), (0, [11], [], 1), (0, [6], [], 305), (1219, [2], [2, 3], 0), (31, [5], [], 0), (1216, [5, 2, 4], [1, 2], 0), (0, [4], [], 29), (5000, [0, 1, 2, 3], [0, 1], 176)], (4000, [2, 3], [8], 231))
theorem c_228w_176_1 {q0 : Nat} : vOkm T0 (eN e_228 L_228w A_228 mu_228 n_228 B_228 (some q0)) 2 g_228w_176_1 := vOk_inI fun ρ η f0 f1 f2 f3 f4 f5 f6 f7 f8 f9 f10 f11 f12 f13 f14 f15 f16 => q_228w_7 (q0 := q0) (n0 := ρ 3) (n1 := ρ 2) (n2 := ρ 1) (n3 := ρ 0) (n4 := ρ 4) (n5 := ρ 5) (n6 := ρ 6) (n10 := ρ 10) (n11 := ρ 11) (n12 := ρ 12) (n13 := ρ 13) (n14 := ρ 14) (n15 := ρ 15) (n19 := ρ 19) (n20 := ρ 20) (n21 := ρ 21) (n22 := ρ 22) (H0 := η 0) (H1 := η 1) (H2 := η 2) (H3 := η 3) (H4 := η 4) (H5 := η 5) (H6 := η 6) (H7 := η 7) (H8 := η 8) f16 f15 f14 f13 f12 f11 f10 f9 f8 f7 f6 f5 f4 f3 f2 f1 f0
def p_228w_176 : List vG := [g_228w_176_0,
  g_228w_176_1]
theorem r_228w_176 : vCovBO (eRc e_228 L_228 cs_228 2000 (176, [(0, (3, 12, 285, 0)), (1, (0, 0, 1007, 0))])) p_228w_176 = true := by decide +kernel
theorem q_228w_8 {q0 : Nat} {n0 n1 n2 n3 n4 n5 n9 n10 n11 n12 : Int} {H0 H1 H2 H3 H4 : gH} (f0 : (hLe T0 H0 H1 ∧ hFr s_228.2.2.2.2 H0 H1 ∧ hWt T0 H1) ∧ ((Ab_228_231 n3 n2 n1 n0 H0 H1 ∧ Bb_228_231 n3 n2 n1 n0 H0 H1) ∧ preb_228 n3 n2 H0) ∧ some q0 = some (mub_228_231 n3 n2 n1 n0 H0 H1)) (f1 : n4 = 30) (f2 : (hLe T0 H1 H2 ∧ hFr s_220.2.2.2.2 H1 H2 ∧ ((0 : Int) = 0 → H2.length = H1.length) ∧ hWt T0 H2) ∧ (postb_220 n1 n4 H1 H2 ∧ nb_220 n1 n4 H1 H2)) (f3 : n5 = 305) (f4 : n10 = 0) (f5 : n11 = 2) (f6 : (hLe T0 H2 H3 ∧ hFr s_223.2.2.2.2 H2 H3 ∧ ((0 : Int) = 0 → H3.length = H2.length) ∧ hWt T0 H3) ∧ (postb_223 n12 n1 n10 n11 H2 H3 ∧ nb_223 n12 n1 n10 n11 H2 H3)) (f7 : hUpd H4 H3 n5 n9 n12) : nb_228 n3 n2 H0 H4 := by
  unfold nb_228
  intro z
  have ga := f0.2.1.1.2
  unfold Bb_228_231 at ga
  have gb := ga z
  have vz : vwR H1 = vwR H0 := vwR_fr f0.1.2.1 (by decide +kernel)
  have c0 := f2.2.2 gb.1 (by rw [f1]; decide)
  try rw [f1] at c0
  rw [vz, gb.2, kmc_30] at c0
  have v0 : vwR H2 = vwR H0 := (vwR_fr f2.1.2.1 (by decide +kernel)).trans vz
  have c1 := f6.2.2 c0.1
  try rw [f4] at c1
  try rw [f5] at c1
  rw [v0, c0.2] at c1
  have v1 : vwR H3 = vwR H0 := (vwR_fr f6.1.2.1 (by decide +kernel)).trans v0
  have p2 := PR_row (q := 305) f7 f3 (by decide) c1.1
  have v2 : vwR H4 = vwR H0 := p2.2.1.trans v1
  have ah2 : absR H4 = (pnm (vwR H0) 0 2 (ptk (vwR H0) 31 (pSpd (vwR H0) (pOpt (vwR H0) 29 0 400 (pOpt (vwR H0) 28 0 60 (pOpt (vwR H0) 27 0 60 (pTime (vwR H0) (ptk (vwR H0) 26 (pnm (vwR H0) 0 19 (absR H0)))))))))) := p2.1.trans c1.2
  refine ⟨p2.2.2.1, ?_⟩
  rw [ah2]
  unfold pLay
  all_goals rfl
def g_228w_231_0 : vG := ([(80, [5, 9, 12], [4, 3], 0), (1223, [12, 2, 10, 11], [2, 3], 0), (0, [11], [], 2), (0, [10], [], 0), (0, [5], [], 305), (1220, [2, 4], [1, 2], 0), (0, [4], [], 30), (5000, [0, 1, 2, 3], [0, 1], 231)], (3000, [], [4], 254))
theorem c_228w_231_0 {q0 : Nat} : vOkm T0 (eN e_228 L_228w A_228 mu_228 n_228 B_228 (some q0)) 2 g_228w_231_0 := vOk_inI fun ρ η f0 f1 f2 f3 f4 f5 f6 f7 => q_228w_8 (q0 := q0) (n0 := ρ 3) (n1 := ρ 2) (n2 := ρ 1) (n3 := ρ 0) (n4 := ρ 4) (n5 := ρ 5) (n9 := ρ 9) (n10 := ρ 10) (n11 := ρ 11) (n12 := ρ 12) (H0 := η 0) (H1 := η 1) (H2 := η 2) (H3 := η 3) (H4 := η 4) f7 f6 f5 f4 f3 f2 f1 f0
def p_228w_231 : List vG := [g_228w_231_0]
theorem r_228w_231 : vCovBO (eRc e_228 L_228 cs_228 2000 (231, [(0, (3, 12, 285, 0)), (1, (0, 0, 1007, 0))])) p_228w_231 = true := by decide +kernel
theorem m_228w (d : Nat) : eC e_228w (d + 6) := eC_ref (e := e_228) (L := L_228) (L' := L_228w) (cs := cs_228) (n := 2000) (d := d + 5) (A := A_228) (μ := mu_228) (tp := false) (p0 := p_228_s) (p1 := p_228w_s) (N := n_228) (B := B_228) rfl ⟨m_216 (d + 4), ⟨m_219w (d + 3), ⟨m_220w (d + 2), ⟨m_223w (d + 1), ⟨m_229w d, trivial⟩⟩⟩⟩⟩ rfl (.inl rfl) (by decide +kernel) (fun z => nomatch z) r_228_s (allC c_228_s_0 (allC c_228_s_1 (allC c_228_s_2 (allC c_228_s_3 (allC c_228_s_4 (allC c_228_s_5 (allC c_228_s_6 (allC c_228_s_7 (allC c_228_s_8 allN))))))))) (allC (.inl ⟨p_228_113, r_228_113, fun q0 => (allC c_228_113_0 (allC c_228_113_1 (allC c_228_113_2 allN)))⟩) (allC (.inl ⟨p_228_144, r_228_144, fun q0 => (allC c_228_144_0 (allC c_228_144_1 (allC c_228_144_2 allN)))⟩) (allC (.inl ⟨p_228_176, r_228_176, fun q0 => (allC c_228_176_0 (allC c_228_176_1 (allC c_228_176_2 (allC c_228_176_3 allN))))⟩) (allC (.inl ⟨p_228_231, r_228_231, fun q0 => (allC c_228_231_0 (allC c_228_231_1 allN))⟩) allN)))) (sub0 (sub1 (sub1 (sub1 (sub1 trivial))))) r_228w_s (allC c_228w_s_0 (allC c_228w_s_1 allN)) (allC ⟨p_228w_113, r_228w_113, fun q0 => (allC c_228w_113_0 (allC c_228w_113_1 allN))⟩ (allC ⟨p_228w_144, r_228w_144, fun q0 => (allC c_228w_144_0 (allC c_228w_144_1 allN))⟩ (allC ⟨p_228w_176, r_228w_176, fun q0 => (allC c_228w_176_0 (allC c_228w_176_1 allN))⟩ (allC ⟨p_228w_231, r_228w_231, fun q0 => (allC c_228w_231_0 allN)⟩ allN))))
/- MixStageModel.tellTaps (I)V, more fully -/
def nb_230 (a0 a1 : Int) (h0 h : gH) : Prop := RI h0 → RI h ∧ absR h = pTaps (vwR h0) (absR h0)
def n_230 : List Int → gH → gH → Prop := fun xs h0 h => match xs with
  | [a0, a1] => nb_230 a0 a1 h0 h
  | _ => True
noncomputable def e_230w : vE := eV e_230 n_230
noncomputable def L_230w : List vE := [e_216, e_217w, e_219w, e_220w, e_223w]
def Bb_230_22 (a0 a1 x0 x1 x2 x3 : Int) (h0 h : gH) : Prop := RI h0 → RI h ∧ 0 ≤ x2 ∧ x2 ≤ 5 ∧ (x3 = 1 → x2 ≤ 4 ∧ pTl (vwR h0) (4 - x2).toNat (x2 + 1) (pWt (vwR h0) x2 (absR h)) = pTaps (vwR h0) (absR h0)) ∧ (x3 = 0 → absR h = pTaps (vwR h0) (absR h0))
def B_230 : Int → List Int → gH → gH → Prop := fun c xs h0 h => match c.toNat with
  | 22 => (match xs with
    | [a0, a1, x0, x1, x2, x3] => Bb_230_22 a0 a1 x0 x1 x2 x3 h0 h
    | _ => False)
  | _ => True
theorem q_230w_0 {n0 n1 n2 n3 n4 n5 n6 n7 n8 : Int} {H0 H1 H2 H3 : gH} (f0 : n2 = 300) (f1 : n3 = 0) (f2 : n4 = 2) (f3 : (hLe T0 H0 H1 ∧ hFr s_223.2.2.2.2 H0 H1 ∧ ((0 : Int) = 0 → H1.length = H0.length) ∧ hWt T0 H1) ∧ (postb_223 n5 n1 n3 n4 H0 H1 ∧ nb_223 n5 n1 n3 n4 H0 H1)) (f4 : hUpd H2 H1 n2 n0 n5) (f5 : n6 = 38) (f6 : (hLe T0 H2 H3 ∧ hFr s_220.2.2.2.2 H2 H3 ∧ ((0 : Int) = 0 → H3.length = H2.length) ∧ hWt T0 H3) ∧ (postb_220 n1 n6 H2 H3 ∧ nb_220 n1 n6 H2 H3)) (f7 : n7 = 0) (f8 : n8 = 1) : Bb_230_22 n1 n0 n1 n0 n7 n8 H0 H3 := by
  unfold Bb_230_22
  intro z
  have c0 := f3.2.2 z
  try rw [f1] at c0
  try rw [f2] at c0
  have v0 : vwR H1 = vwR H0 := (vwR_fr f3.1.2.1 (by decide +kernel))
  have p1 := PR_row (q := 300) f4 f0 (by decide) c0.1
  have v1 : vwR H2 = vwR H0 := p1.2.1.trans v0
  have ah1 : absR H2 = (pnm (vwR H0) 0 2 (absR H0)) := p1.1.trans c0.2
  have c2 := f6.2.2 p1.2.2.1 (by rw [f5]; decide)
  try rw [f5] at c2
  rw [v1, ah1, kmc_38] at c2
  have v2 : vwR H3 = vwR H0 := (vwR_fr f6.1.2.1 (by decide +kernel)).trans v1
  have m0 := f7
  have m1 := f8
  rw [m0, m1]
  refine ⟨c2.1, by decide, by decide, fun _ => ⟨by decide, ?_⟩, fun c => absurd c (by decide)⟩
  rw [c2.2]
  rfl
def g_230w_s_0 : vG := ([(0, [8], [], 1), (0, [7], [], 0), (1220, [0, 6], [2, 3], 0), (0, [6], [], 38), (80, [2, 1, 5], [2, 1], 0), (1223, [5, 0, 3, 4], [0, 1], 0), (0, [4], [], 2), (0, [3], [], 0), (0, [2], [], 300)], (4000, [0, 1, 7, 8], [3], 22))
theorem c_230w_s_0 : vOkm T0 (eN e_230 L_230w A_230 mu_230 n_230 B_230 none) 2 g_230w_s_0 := vOk_inI fun ρ η f0 f1 f2 f3 f4 f5 f6 f7 f8 => q_230w_0 (n0 := ρ 1) (n1 := ρ 0) (n2 := ρ 2) (n3 := ρ 3) (n4 := ρ 4) (n5 := ρ 5) (n6 := ρ 6) (n7 := ρ 7) (n8 := ρ 8) (H0 := η 0) (H1 := η 1) (H2 := η 2) (H3 := η 3) f8 f7 f6 f5 f4 f3 f2 f1 f0
def p_230w_s : List vG := [g_230w_s_0]
theorem r_230w_s : vCovBO (eR0 e_230 L_230 cs_230 2000) p_230w_s = true := by decide +kernel
theorem q_230w_1 {q0 : Nat} {n0 n1 n2 n3 n4 n5 n6 n8 : Int} {H0 H1 H2 : gH} (f0 : n0 ≤ 1) (f1 : 0 ≤ n0) (f2 : n1 ≤ 5) (f3 : 0 ≤ n1) (f4 : (hLe T0 H0 H1 ∧ hFr s_230.2.2.2.2 H0 H1 ∧ hWt T0 H1) ∧ ((Ab_230_22 n5 n4 n3 n2 n1 n0 H0 H1 ∧ Bb_230_22 n5 n4 n3 n2 n1 n0 H0 H1) ∧ preb_230 n5 n4 H0) ∧ some q0 = some (mub_230_22 n5 n4 n3 n2 n1 n0 H0 H1)) (f5 : n0 = 0) (f6 : n6 = 305) (f7 : hUpd H2 H1 n6 n8 n1) : nb_230 n5 n4 H0 H2 := by
  unfold nb_230
  intro z
  have ga := f4.2.1.1.2
  unfold Bb_230_22 at ga
  obtain ⟨z1, k0, k5, y1, y0⟩ := ga z
  have vz : vwR H1 = vwR H0 := vwR_fr f4.1.2.1 (by decide +kernel)
  have ra0 := f0
  have ra1 := f1
  have ra2 := f2
  have ra3 := f3
  have p0 := PR_row (q := 305) f7 f6 (by decide) z1
  have v0 : vwR H2 = vwR H0 := p0.2.1.trans vz
  have ah0 : absR H2 = (absR H1) := p0.1
  have q11 := f5
  refine ⟨p0.2.2.1, ?_⟩
  rw [ah0]
  exact y0 (by omega)
def g_230w_22_0 : vG := ([(80, [6, 8, 4], [2, 1], 0), (0, [6], [], 305), (30, [5], [], 0), (5000, [0, 1, 2, 3, 4, 5], [0, 1], 22), (90, [4], [], 0), (91, [4], [], 5), (90, [5], [], 0), (91, [5], [], 1)], (3000, [], [2], 113))
theorem c_230w_22_0 {q0 : Nat} : vOkm T0 (eN e_230 L_230w A_230 mu_230 n_230 B_230 (some q0)) 2 g_230w_22_0 := vOk_inI fun ρ η f0 f1 f2 f3 f4 f5 f6 f7 => q_230w_1 (q0 := q0) (n0 := ρ 5) (n1 := ρ 4) (n2 := ρ 3) (n3 := ρ 2) (n4 := ρ 1) (n5 := ρ 0) (n6 := ρ 6) (n8 := ρ 8) (H0 := η 0) (H1 := η 1) (H2 := η 2) f7 f6 f5 f4 f3 f2 f1 f0
theorem q_230w_2 {q0 : Nat} {n0 n1 n2 n3 n4 n5 n6 n7 n9 : Int} {H0 H1 H2 : gH} (f0 : n0 ≤ 1) (f1 : 0 ≤ n0) (f2 : n1 ≤ 5) (f3 : 0 ≤ n1) (f4 : n3 = 285) (f5 : (hLe T0 H0 H1 ∧ hFr s_230.2.2.2.2 H0 H1 ∧ hWt T0 H1) ∧ ((Ab_230_22 n5 n4 n3 n2 n1 n0 H0 H1 ∧ Bb_230_22 n5 n4 n3 n2 n1 n0 H0 H1) ∧ preb_230 n5 n4 H0) ∧ some q0 = some (mub_230_22 n5 n4 n3 n2 n1 n0 H0 H1)) (f6 : n0 ≠ 0) (f7 : n6 = hV H1 (n3).toNat 13) (f8 : n6 ≠ 0) (f9 : n7 = 305) (f10 : hUpd H2 H1 n7 n9 n1) : nb_230 n5 n4 H0 H2 := by
  unfold nb_230
  intro z
  have ga := f5.2.1.1.2
  unfold Bb_230_22 at ga
  obtain ⟨z1, k0, k5, y1, y0⟩ := ga z
  have vz : vwR H1 = vwR H0 := vwR_fr f5.1.2.1 (by decide +kernel)
  have ra0 := f0
  have ra1 := f1
  have ra2 := f2
  have ra3 := f3
  have p0 := PR_row (q := 305) f10 f9 (by decide) z1
  have v0 : vwR H2 = vwR H0 := p0.2.1.trans vz
  have ah0 : absR H2 = (absR H1) := p0.1
  have q11 := f6
  have q16 := f8
  have d13 := rdS (q := 285) f7 f4
  refine ⟨p0.2.2.1, ?_⟩
  rw [ah0]
  have hn := absR_neg z1 (by omega)
  have w := (y1 (by omega)).2
  rw [pWt_neg (vwR_ok H0) hn (absR_ok z1), pTl_neg (vwR_ok H0) hn] at w
  exact w
def g_230w_22_1 : vG := ([(80, [7, 9, 4], [2, 1], 0), (0, [7], [], 305), (31, [6], [], 0), (20, [6, 2], [1], 13), (31, [5], [], 0), (5000, [0, 1, 2, 3, 4, 5], [0, 1], 22), (0, [2], [], 285), (90, [4], [], 0), (91, [4], [], 5), (90, [5], [], 0), (91, [5], [], 1)], (3000, [], [2], 113))
theorem c_230w_22_1 {q0 : Nat} : vOkm T0 (eN e_230 L_230w A_230 mu_230 n_230 B_230 (some q0)) 2 g_230w_22_1 := vOk_inI fun ρ η f0 f1 f2 f3 f4 f5 f6 f7 f8 f9 f10 => q_230w_2 (q0 := q0) (n0 := ρ 5) (n1 := ρ 4) (n2 := ρ 3) (n3 := ρ 2) (n4 := ρ 1) (n5 := ρ 0) (n6 := ρ 6) (n7 := ρ 7) (n9 := ρ 9) (H0 := η 0) (H1 := η 1) (H2 := η 2) f10 f9 f8 f7 f6 f5 f4 f3 f2 f1 f0
theorem q_230w_3 {q0 : Nat} {n0 n1 n2 n3 n4 n5 n6 n7 n8 n9 n10 n11 n12 n13 n14 n15 : Int} {H0 H1 H2 H3 H4 : gH} (f0 : n0 ≤ 1) (f1 : 0 ≤ n0) (f2 : n1 ≤ 5) (f3 : 0 ≤ n1) (f4 : (hLe T0 H0 H1 ∧ hFr s_230.2.2.2.2 H0 H1 ∧ hWt T0 H1) ∧ ((Ab_230_22 n5 n4 n3 n2 n1 n0 H0 H1 ∧ Bb_230_22 n5 n4 n3 n2 n1 n0 H0 H1) ∧ preb_230 n5 n4 H0) ∧ some q0 = some (mub_230_22 n5 n4 n3 n2 n1 n0 H0 H1)) (f5 : n0 ≠ 0) (f6 : n6 = 0) (f7 : n7 = 2) (f8 : (hLe T0 H1 H2 ∧ hFr s_216.2.2.2.2 H1 H2 ∧ ((0 : Int) = 0 → H2.length = H1.length) ∧ hWt T0 H2) ∧ postb_216 n8 n3 n7 H1 H2) (f9 : n8 = 0) (f10 : n9 = 0) (f11 : n10 = 400) (f12 : (hLe T0 H2 H3 ∧ hFr s_223.2.2.2.2 H2 H3 ∧ ((0 : Int) = 0 → H3.length = H2.length) ∧ hWt T0 H3) ∧ (postb_223 n11 n3 n9 n10 H2 H3 ∧ nb_223 n11 n3 n9 n10 H2 H3)) (f13 : n12 ≠ 0) (f14 : n13 = w32 (n1 + 1)) (f15 : n14 = 5) (f16 : (hLe T0 H3 H4 ∧ hFr s_216.2.2.2.2 H3 H4 ∧ ((0 : Int) = 0 → H4.length = H3.length) ∧ hWt T0 H4) ∧ postb_216 n15 n3 n14 H3 H4) (f17 : n15 = 0) : Bb_230_22 n5 n4 n3 n2 n13 n15 H0 H4 := by
  unfold Bb_230_22
  intro z
  have ga := f4.2.1.1.2
  unfold Bb_230_22 at ga
  obtain ⟨z1, k0, k5, y1, y0⟩ := ga z
  have vz : vwR H1 = vwR H0 := vwR_fr f4.1.2.1 (by decide +kernel)
  have ra0 := f0
  have ra1 := f1
  have ra2 := f2
  have ra3 := f3
  have p0 := PR_fr f8.1.2.1 (by decide +kernel) z1
  have v0 : vwR H2 = vwR H0 := p0.2.1.trans vz
  have ah0 : absR H2 = (absR H1) := p0.1
  have i0 := f8.2
  unfold postb_216 at i0
  rw [f7] at i0
  have cm0 := f9
  have b0 := (isR_or (k := 2) p0.2.2.1 (by decide) i0).resolve_left (fun w => absurd (w.1.symm.trans cm0) (by decide))
  replace b0 := b0.2
  rw [v0, ah0, kmc_2] at b0
  have c1 := f12.2.2 p0.2.2.1
  try rw [f10] at c1
  try rw [f11] at c1
  rw [v0, ah0] at c1
  have v1 : vwR H3 = vwR H0 := (vwR_fr f12.1.2.1 (by decide +kernel)).trans v0
  have p2 := PR_fr f16.1.2.1 (by decide +kernel) c1.1
  have v2 : vwR H4 = vwR H0 := p2.2.1.trans v1
  have ah2 : absR H4 = (pnm (vwR H0) 0 400 (absR H1)) := p2.1.trans c1.2
  have i2 := f16.2
  unfold postb_216 at i2
  rw [f15] at i2
  have cm2 := f17
  have b2 := (isR_or (k := 5) p2.2.2.1 (by decide) i2).resolve_left (fun w => absurd (w.1.symm.trans cm2) (by decide))
  replace b2 := b2.2
  rw [v2, ah2, kmc_5] at b2
  have q11 := f5
  have q16 := f6
  have q21 := f9
  have q31 := f13
  have q32 := f14
  unfold w32 at q32
  have q37 := f17
  have hw : (pnm (vwR H0) 0 400 (absR H1)) = pWt (vwR H0) n1 (absR H1) := pWt_none b0
  rw [hw] at b2
  have y := y1 (by omega)
  refine ⟨p2.2.2.1, by omega, by omega, fun c => absurd c (by omega), fun _ => ?_⟩
  rw [ah2]
  have yy := y.2
  rw [pTl_stop b2] at yy
  rw [hw]
  exact yy
def g_230w_22_2 : vG := ([(30, [15], [], 0), (1216, [15, 2, 14], [3, 4], 0), (0, [14], [], 5), (10, [13, 4], [], 1), (31, [12], [], 0), (1223, [11, 2, 9, 10], [2, 3], 0), (0, [10], [], 400), (0, [9], [], 0), (30, [8], [], 0), (1216, [8, 2, 7], [1, 2], 0), (0, [7], [], 2), (30, [6], [], 0), (31, [5], [], 0), (5000, [0, 1, 2, 3, 4, 5], [0, 1], 22), (90, [4], [], 0), (91, [4], [], 5), (90, [5], [], 0), (91, [5], [], 1)], (4000, [2, 3, 13, 15], [4], 22))
theorem c_230w_22_2 {q0 : Nat} : vOkm T0 (eN e_230 L_230w A_230 mu_230 n_230 B_230 (some q0)) 2 g_230w_22_2 := vOk_inI fun ρ η f0 f1 f2 f3 f4 f5 f6 f7 f8 f9 f10 f11 f12 f13 f14 f15 f16 f17 => q_230w_3 (q0 := q0) (n0 := ρ 5) (n1 := ρ 4) (n2 := ρ 3) (n3 := ρ 2) (n4 := ρ 1) (n5 := ρ 0) (n6 := ρ 6) (n7 := ρ 7) (n8 := ρ 8) (n9 := ρ 9) (n10 := ρ 10) (n11 := ρ 11) (n12 := ρ 12) (n13 := ρ 13) (n14 := ρ 14) (n15 := ρ 15) (H0 := η 0) (H1 := η 1) (H2 := η 2) (H3 := η 3) (H4 := η 4) f17 f16 f15 f14 f13 f12 f11 f10 f9 f8 f7 f6 f5 f4 f3 f2 f1 f0
theorem q_230w_4 {q0 : Nat} {n0 n1 n2 n3 n4 n5 n6 n7 n8 n9 n10 n11 n12 n13 n14 n15 : Int} {H0 H1 H2 H3 H4 H5 : gH} (f0 : n0 ≤ 1) (f1 : 0 ≤ n0) (f2 : n1 ≤ 5) (f3 : 0 ≤ n1) (f4 : (hLe T0 H0 H1 ∧ hFr s_230.2.2.2.2 H0 H1 ∧ hWt T0 H1) ∧ ((Ab_230_22 n5 n4 n3 n2 n1 n0 H0 H1 ∧ Bb_230_22 n5 n4 n3 n2 n1 n0 H0 H1) ∧ preb_230 n5 n4 H0) ∧ some q0 = some (mub_230_22 n5 n4 n3 n2 n1 n0 H0 H1)) (f5 : n0 ≠ 0) (f6 : n6 = 0) (f7 : n7 = 2) (f8 : (hLe T0 H1 H2 ∧ hFr s_216.2.2.2.2 H1 H2 ∧ ((0 : Int) = 0 → H2.length = H1.length) ∧ hWt T0 H2) ∧ postb_216 n8 n3 n7 H1 H2) (f9 : n8 = 0) (f10 : n9 = 0) (f11 : n10 = 400) (f12 : (hLe T0 H2 H3 ∧ hFr s_223.2.2.2.2 H2 H3 ∧ ((0 : Int) = 0 → H3.length = H2.length) ∧ hWt T0 H3) ∧ (postb_223 n11 n3 n9 n10 H2 H3 ∧ nb_223 n11 n3 n9 n10 H2 H3)) (f13 : n12 ≠ 0) (f14 : n13 = w32 (n1 + 1)) (f15 : n14 = 5) (f16 : (hLe T0 H3 H4 ∧ hFr s_216.2.2.2.2 H3 H4 ∧ ((0 : Int) = 0 → H4.length = H3.length) ∧ hWt T0 H4) ∧ postb_216 n15 n3 n14 H3 H4) (f17 : n15 ≠ 0) (f18 : (hLe T0 H4 H5 ∧ hFr s_219.2.2.2.2 H4 H5 ∧ ((0 : Int) = 0 → H5.length = H4.length) ∧ hWt T0 H5) ∧ (postb_219 n3 H4 H5 ∧ nb_219 n3 H4 H5)) : Bb_230_22 n5 n4 n3 n2 n13 n15 H0 H5 := by
  unfold Bb_230_22
  intro z
  have ga := f4.2.1.1.2
  unfold Bb_230_22 at ga
  obtain ⟨z1, k0, k5, y1, y0⟩ := ga z
  have vz : vwR H1 = vwR H0 := vwR_fr f4.1.2.1 (by decide +kernel)
  have ra0 := f0
  have ra1 := f1
  have ra2 := f2
  have ra3 := f3
  have p0 := PR_fr f8.1.2.1 (by decide +kernel) z1
  have v0 : vwR H2 = vwR H0 := p0.2.1.trans vz
  have ah0 : absR H2 = (absR H1) := p0.1
  have i0 := f8.2
  unfold postb_216 at i0
  rw [f7] at i0
  have cm0 := f9
  have b0 := (isR_or (k := 2) p0.2.2.1 (by decide) i0).resolve_left (fun w => absurd (w.1.symm.trans cm0) (by decide))
  replace b0 := b0.2
  rw [v0, ah0, kmc_2] at b0
  have c1 := f12.2.2 p0.2.2.1
  try rw [f10] at c1
  try rw [f11] at c1
  rw [v0, ah0] at c1
  have v1 : vwR H3 = vwR H0 := (vwR_fr f12.1.2.1 (by decide +kernel)).trans v0
  have p2 := PR_fr f16.1.2.1 (by decide +kernel) c1.1
  have v2 : vwR H4 = vwR H0 := p2.2.1.trans v1
  have ah2 : absR H4 = (pnm (vwR H0) 0 400 (absR H1)) := p2.1.trans c1.2
  have i2 := f16.2
  unfold postb_216 at i2
  rw [f15] at i2
  have cm2 := f17
  have b2 := (isR_or (k := 5) p2.2.2.1 (by decide) i2).resolve_right (fun w => cm2 w.1)
  replace b2 := b2.2
  rw [v2, ah2, kmc_5] at b2
  have c3 := f18.2.2 p2.2.2.1 (by rw [v2, ah2]; rw [b2]; decide)
  rw [v2, ah2, b2] at c3
  have v3 : vwR H5 = vwR H0 := (vwR_fr f18.1.2.1 (by decide +kernel)).trans v2
  have q11 := f5
  have q16 := f6
  have q21 := f9
  have q31 := f13
  have q32 := f14
  unfold w32 at q32
  have q37 := f17
  have hw : (pnm (vwR H0) 0 400 (absR H1)) = pWt (vwR H0) n1 (absR H1) := pWt_none b0
  rw [hw] at b2
  have y := y1 (by omega)
  have lt := tapsR_lt z (by omega) b2
  have yy := y.2
  rw [show (4 - n1).toNat = (3 - n1).toNat + 1 by omega, pTl_step b2] at yy
  refine ⟨c3.1, by omega, by omega, fun _ => ⟨by omega, ?_⟩, fun c => absurd c (by omega)⟩
  rw [c3.2]
  rw [hw, show n13 = n1 + 1 by omega, show (4 - (n1 + 1)).toNat = (3 - n1).toNat by omega]
  exact yy
def g_230w_22_3 : vG := ([(1219, [2], [4, 5], 0), (31, [15], [], 0), (1216, [15, 2, 14], [3, 4], 0), (0, [14], [], 5), (10, [13, 4], [], 1), (31, [12], [], 0), (1223, [11, 2, 9, 10], [2, 3], 0), (0, [10], [], 400), (0, [9], [], 0), (30, [8], [], 0), (1216, [8, 2, 7], [1, 2], 0), (0, [7], [], 2), (30, [6], [], 0), (31, [5], [], 0), (5000, [0, 1, 2, 3, 4, 5], [0, 1], 22), (90, [4], [], 0), (91, [4], [], 5), (90, [5], [], 0), (91, [5], [], 1)], (4000, [2, 3, 13, 15], [5], 22))
theorem c_230w_22_3 {q0 : Nat} : vOkm T0 (eN e_230 L_230w A_230 mu_230 n_230 B_230 (some q0)) 2 g_230w_22_3 := vOk_inI fun ρ η f0 f1 f2 f3 f4 f5 f6 f7 f8 f9 f10 f11 f12 f13 f14 f15 f16 f17 f18 => q_230w_4 (q0 := q0) (n0 := ρ 5) (n1 := ρ 4) (n2 := ρ 3) (n3 := ρ 2) (n4 := ρ 1) (n5 := ρ 0) (n6 := ρ 6) (n7 := ρ 7) (n8 := ρ 8) (n9 := ρ 9) (n10 := ρ 10) (n11 := ρ 11) (n12 := ρ 12) (n13 := ρ 13) (n14 := ρ 14) (n15 := ρ 15) (H0 := η 0) (H1 := η 1) (H2 := η 2) (H3 := η 3) (H4 := η 4) (H5 := η 5) f18 f17 f16 f15 f14 f13 f12 f11 f10 f9 f8 f7 f6 f5 f4 f3 f2 f1 f0
theorem q_230w_5 {q0 : Nat} {n0 n1 n2 n3 n4 n5 n6 n7 n8 n9 n10 n11 n12 n13 n18 n19 n20 n21 : Int} {H0 H1 H2 H3 H4 H5 : gH} (f0 : n0 ≤ 1) (f1 : 0 ≤ n0) (f2 : n1 ≤ 5) (f3 : 0 ≤ n1) (f4 : (hLe T0 H0 H1 ∧ hFr s_230.2.2.2.2 H0 H1 ∧ hWt T0 H1) ∧ ((Ab_230_22 n5 n4 n3 n2 n1 n0 H0 H1 ∧ Bb_230_22 n5 n4 n3 n2 n1 n0 H0 H1) ∧ preb_230 n5 n4 H0) ∧ some q0 = some (mub_230_22 n5 n4 n3 n2 n1 n0 H0 H1)) (f5 : n0 ≠ 0) (f6 : n6 = 0) (f7 : n7 = 2) (f8 : (hLe T0 H1 H2 ∧ hFr s_216.2.2.2.2 H1 H2 ∧ ((0 : Int) = 0 → H2.length = H1.length) ∧ hWt T0 H2) ∧ postb_216 n8 n3 n7 H1 H2) (f9 : n8 = 0) (f10 : n9 = 0) (f11 : n10 = 400) (f12 : (hLe T0 H2 H3 ∧ hFr s_223.2.2.2.2 H2 H3 ∧ ((0 : Int) = 0 → H3.length = H2.length) ∧ hWt T0 H3) ∧ (postb_223 n11 n3 n9 n10 H2 H3 ∧ nb_223 n11 n3 n9 n10 H2 H3)) (f13 : n12 = 0) (f14 : n13 = 305) (f15 : hUpd H4 H3 n13 n18 n11) (f16 : n19 = w32 (n1 + 1)) (f17 : n20 = 5) (f18 : (hLe T0 H4 H5 ∧ hFr s_216.2.2.2.2 H4 H5 ∧ ((0 : Int) = 0 → H5.length = H4.length) ∧ hWt T0 H5) ∧ postb_216 n21 n3 n20 H4 H5) (f19 : n21 = 0) : Bb_230_22 n5 n4 n3 n2 n19 n21 H0 H5 := by
  unfold Bb_230_22
  intro z
  have ga := f4.2.1.1.2
  unfold Bb_230_22 at ga
  obtain ⟨z1, k0, k5, y1, y0⟩ := ga z
  have vz : vwR H1 = vwR H0 := vwR_fr f4.1.2.1 (by decide +kernel)
  have ra0 := f0
  have ra1 := f1
  have ra2 := f2
  have ra3 := f3
  have p0 := PR_fr f8.1.2.1 (by decide +kernel) z1
  have v0 : vwR H2 = vwR H0 := p0.2.1.trans vz
  have ah0 : absR H2 = (absR H1) := p0.1
  have i0 := f8.2
  unfold postb_216 at i0
  rw [f7] at i0
  have cm0 := f9
  have b0 := (isR_or (k := 2) p0.2.2.1 (by decide) i0).resolve_left (fun w => absurd (w.1.symm.trans cm0) (by decide))
  replace b0 := b0.2
  rw [v0, ah0, kmc_2] at b0
  have c1 := f12.2.2 p0.2.2.1
  try rw [f10] at c1
  try rw [f11] at c1
  rw [v0, ah0] at c1
  have v1 : vwR H3 = vwR H0 := (vwR_fr f12.1.2.1 (by decide +kernel)).trans v0
  have p2 := PR_row (q := 305) f15 f14 (by decide) c1.1
  have v2 : vwR H4 = vwR H0 := p2.2.1.trans v1
  have ah2 : absR H4 = (pnm (vwR H0) 0 400 (absR H1)) := p2.1.trans c1.2
  have p3 := PR_fr f18.1.2.1 (by decide +kernel) p2.2.2.1
  have v3 : vwR H5 = vwR H0 := p3.2.1.trans v2
  have ah3 : absR H5 = (pnm (vwR H0) 0 400 (absR H1)) := p3.1.trans ah2
  have i3 := f18.2
  unfold postb_216 at i3
  rw [f17] at i3
  have cm3 := f19
  have b3 := (isR_or (k := 5) p3.2.2.1 (by decide) i3).resolve_left (fun w => absurd (w.1.symm.trans cm3) (by decide))
  replace b3 := b3.2
  rw [v3, ah3, kmc_5] at b3
  have q11 := f5
  have q16 := f6
  have q21 := f9
  have q31 := f13
  have q42 := f16
  unfold w32 at q42
  have q47 := f19
  have hw : (pnm (vwR H0) 0 400 (absR H1)) = pWt (vwR H0) n1 (absR H1) := pWt_none b0
  rw [hw] at b3
  have y := y1 (by omega)
  refine ⟨p3.2.2.1, by omega, by omega, fun c => absurd c (by omega), fun _ => ?_⟩
  rw [ah3]
  have yy := y.2
  rw [pTl_stop b3] at yy
  rw [hw]
  exact yy
def g_230w_22_4 : vG := ([(30, [21], [], 0), (1216, [21, 2, 20], [4, 5], 0), (0, [20], [], 5), (10, [19, 4], [], 1), (80, [13, 18, 11], [4, 3], 0), (0, [13], [], 305), (30, [12], [], 0), (1223, [11, 2, 9, 10], [2, 3], 0), (0, [10], [], 400), (0, [9], [], 0), (30, [8], [], 0), (1216, [8, 2, 7], [1, 2], 0), (0, [7], [], 2), (30, [6], [], 0), (31, [5], [], 0), (5000, [0, 1, 2, 3, 4, 5], [0, 1], 22), (90, [4], [], 0), (91, [4], [], 5), (90, [5], [], 0), (91, [5], [], 1)], (4000, [2, 3, 19, 21], [5], 22))
theorem c_230w_22_4 {q0 : Nat} : vOkm T0 (eN e_230 L_230w A_230 mu_230 n_230 B_230 (some q0)) 2 g_230w_22_4 := vOk_inI fun ρ η f0 f1 f2 f3 f4 f5 f6 f7 f8 f9 f10 f11 f12 f13 f14 f15 f16 f17 f18 f19 => q_230w_5 (q0 := q0) (n0 := ρ 5) (n1 := ρ 4) (n2 := ρ 3) (n3 := ρ 2) (n4 := ρ 1) (n5 := ρ 0) (n6 := ρ 6) (n7 := ρ 7) (n8 := ρ 8) (n9 := ρ 9) (n10 := ρ 10) (n11 := ρ 11) (n12 := ρ 12) (n13 := ρ 13) (n18 := ρ 18) (n19 := ρ 19) (n20 := ρ 20) (n21 := ρ 21) (H0 := η 0) (H1 := η 1) (H2 := η 2) (H3 := η 3) (H4 := η 4) (H5 := η 5) f19 f18 f17 f16 f15 f14 f13 f12 f11 f10 f9 f8 f7 f6 f5 f4 f3 f2 f1 f0
theorem q_230w_6 {q0 : Nat} {n0 n1 n2 n3 n4 n5 n6 n7 n8 n9 n10 n11 n12 n13 n18 n19 n20 n21 : Int} {H0 H1 H2 H3 H4 H5 H6 : gH} (f0 : n0 ≤ 1) (f1 : 0 ≤ n0) (f2 : n1 ≤ 5) (f3 : 0 ≤ n1) (f4 : (hLe T0 H0 H1 ∧ hFr s_230.2.2.2.2 H0 H1 ∧ hWt T0 H1) ∧ ((Ab_230_22 n5 n4 n3 n2 n1 n0 H0 H1 ∧ Bb_230_22 n5 n4 n3 n2 n1 n0 H0 H1) ∧ preb_230 n5 n4 H0) ∧ some q0 = some (mub_230_22 n5 n4 n3 n2 n1 n0 H0 H1)) (f5 : n0 ≠ 0) (f6 : n6 = 0) (f7 : n7 = 2) (f8 : (hLe T0 H1 H2 ∧ hFr s_216.2.2.2.2 H1 H2 ∧ ((0 : Int) = 0 → H2.length = H1.length) ∧ hWt T0 H2) ∧ postb_216 n8 n3 n7 H1 H2) (f9 : n8 = 0) (f10 : n9 = 0) (f11 : n10 = 400) (f12 : (hLe T0 H2 H3 ∧ hFr s_223.2.2.2.2 H2 H3 ∧ ((0 : Int) = 0 → H3.length = H2.length) ∧ hWt T0 H3) ∧ (postb_223 n11 n3 n9 n10 H2 H3 ∧ nb_223 n11 n3 n9 n10 H2 H3)) (f13 : n12 = 0) (f14 : n13 = 305) (f15 : hUpd H4 H3 n13 n18 n11) (f16 : n19 = w32 (n1 + 1)) (f17 : n20 = 5) (f18 : (hLe T0 H4 H5 ∧ hFr s_216.2.2.2.2 H4 H5 ∧ ((0 : Int) = 0 → H5.length = H4.length) ∧ hWt T0 H5) ∧ postb_216 n21 n3 n20 H4 H5) (f19 : n21 ≠ 0) (f20 : (hLe T0 H5 H6 ∧ hFr s_219.2.2.2.2 H5 H6 ∧ ((0 : Int) = 0 → H6.length = H5.length) ∧ hWt T0 H6) ∧ (postb_219 n3 H5 H6 ∧ nb_219 n3 H5 H6)) : Bb_230_22 n5 n4 n3 n2 n19 n21 H0 H6 := by
  unfold Bb_230_22
  intro z
  have ga := f4.2.1.1.2
  unfold Bb_230_22 at ga
  obtain ⟨z1, k0, k5, y1, y0⟩ := ga z
  have vz : vwR H1 = vwR H0 := vwR_fr f4.1.2.1 (by decide +kernel)
  have ra0 := f0
  have ra1 := f1
  have ra2 := f2
  have ra3 := f3
  have p0 := PR_fr f8.1.2.1 (by decide +kernel) z1
  have v0 : vwR H2 = vwR H0 := p0.2.1.trans vz
  have ah0 : absR H2 = (absR H1) := p0.1
  have i0 := f8.2
  unfold postb_216 at i0
  rw [f7] at i0
  have cm0 := f9
  have b0 := (isR_or (k := 2) p0.2.2.1 (by decide) i0).resolve_left (fun w => absurd (w.1.symm.trans cm0) (by decide))
  replace b0 := b0.2
  rw [v0, ah0, kmc_2] at b0
  have c1 := f12.2.2 p0.2.2.1
  try rw [f10] at c1
  try rw [f11] at c1
  rw [v0, ah0] at c1
  have v1 : vwR H3 = vwR H0 := (vwR_fr f12.1.2.1 (by decide +kernel)).trans v0
  have p2 := PR_row (q := 305) f15 f14 (by decide) c1.1
  have v2 : vwR H4 = vwR H0 := p2.2.1.trans v1
  have ah2 : absR H4 = (pnm (vwR H0) 0 400 (absR H1)) := p2.1.trans c1.2
  have p3 := PR_fr f18.1.2.1 (by decide +kernel) p2.2.2.1
  have v3 : vwR H5 = vwR H0 := p3.2.1.trans v2
  have ah3 : absR H5 = (pnm (vwR H0) 0 400 (absR H1)) := p3.1.trans ah2
  have i3 := f18.2
  unfold postb_216 at i3
  rw [f17] at i3
  have cm3 := f19
  have b3 := (isR_or (k := 5) p3.2.2.1 (by decide) i3).resolve_right (fun w => cm3 w.1)
  replace b3 := b3.2
  rw [v3, ah3, kmc_5] at b3
  have c4 := f20.2.2 p3.2.2.1 (by rw [v3, ah3]; rw [b3]; decide)
  rw [v3, ah3, b3] at c4
  have v4 : vwR H6 = vwR H0 := (vwR_fr f20.1.2.1 (by decide +kernel)).trans v3
  have q11 := f5
  have q16 := f6
  have q21 := f9
  have q31 := f13
  have q42 := f16
  unfold w32 at q42
  have q47 := f19
  have hw : (pnm (vwR H0) 0 400 (absR H1)) = pWt (vwR H0) n1 (absR H1) := pWt_none b0
  rw [hw] at b3
  have y := y1 (by omega)
  have lt := tapsR_lt z (by omega) b3
  have yy := y.2
  rw [show (4 - n1).toNat = (3 - n1).toNat + 1 by omega, pTl_step b3] at yy
  refine ⟨c4.1, by omega, by omega, fun _ => ⟨by omega, ?_⟩, fun c => absurd c (by omega)⟩
  rw [c4.2]
  rw [hw, show n19 = n1 + 1 by omega, show (4 - (n1 + 1)).toNat = (3 - n1).toNat by omega]
  exact yy
def g_230w_22_5 : vG := ([(1219, [2], [5, 6], 0), (31, [21], [], 0), (1216, [21, 2, 20], [4, 5], 0), (0, [20], [], 5), (10, [19, 4], [], 1), (80, [13, 18, 11], [4, 3], 0), (0, [13], [], 305), (30, [12], [], 0), (1223, [11, 2, 9, 10], [2, 3], 0), (0, [10], [], 400), (0, [9], [], 0), (30, [8], [], 0), (1216, [8, 2, 7], [1, 2], 0), (0, [7], [], 2), (30, [6], [], 0), (31, [5], [], 0), (5000, [0, 1, 2, 3, 4, 5], [0, 1], 22), (90, [4], [], 0), (91, [4], [], 5), (90, [5], [], 0), (91, [5], [], 1)], (4000, [2, 3, 19, 21], [6], 22))
theorem c_230w_22_5 {q0 : Nat} : vOkm T0 (eN e_230 L_230w A_230 mu_230 n_230 B_230 (some q0)) 2 g_230w_22_5 := vOk_inI fun ρ η f0 f1 f2 f3 f4 f5 f6 f7 f8 f9 f10 f11 f12 f13 f14 f15 f16 f17 f18 f19 f20 => q_230w_6 (q0 := q0) (n0 := ρ 5) (n1 := ρ 4) (n2 := ρ 3) (n3 := ρ 2) (n4 := ρ 1) (n5 := ρ 0) (n6 := ρ 6) (n7 := ρ 7) (n8 := ρ 8) (n9 := ρ 9) (n10 := ρ 10) (n11 := ρ 11) (n12 := ρ 12) (n13 := ρ 13) (n18 := ρ 18) (n19 := ρ 19) (n20 := ρ 20) (n21 := ρ 21) (H0 := η 0) (H1 := η 1) (H2 := η 2) (H3 := η 3) (H4 := η 4) (H5 := η 5) (H6 := η 6) f20 f19 f18 f17 f16 f15 f14 f13 f12 f11 f10 f9 f8 f7 f6 f5 f4 f3 f2 f1 f0
theorem q_230w_7 {q0 : Nat} {n0 n1 n2 n3 n4 n5 n6 n7 n8 n9 n10 n11 n12 n13 n14 n15 n16 : Int} {H0 H1 H2 H3 H4 : gH} (f0 : n0 ≤ 1) (f1 : 0 ≤ n0) (f2 : n1 ≤ 5) (f3 : 0 ≤ n1) (f4 : (hLe T0 H0 H1 ∧ hFr s_230.2.2.2.2 H0 H1 ∧ hWt T0 H1) ∧ ((Ab_230_22 n5 n4 n3 n2 n1 n0 H0 H1 ∧ Bb_230_22 n5 n4 n3 n2 n1 n0 H0 H1) ∧ preb_230 n5 n4 H0) ∧ some q0 = some (mub_230_22 n5 n4 n3 n2 n1 n0 H0 H1)) (f5 : n0 ≠ 0) (f6 : n6 = 0) (f7 : n7 = 2) (f8 : (hLe T0 H1 H2 ∧ hFr s_216.2.2.2.2 H1 H2 ∧ ((0 : Int) = 0 → H2.length = H1.length) ∧ hWt T0 H2) ∧ postb_216 n8 n3 n7 H1 H2) (f9 : n8 ≠ 0) (f10 : n9 = 4) (f11 : n1 ≠ n9) (f12 : n10 = 0) (f13 : n11 = 400) (f14 : (hLe T0 H2 H3 ∧ hFr s_223.2.2.2.2 H2 H3 ∧ ((0 : Int) = 0 → H3.length = H2.length) ∧ hWt T0 H3) ∧ (postb_223 n12 n3 n10 n11 H2 H3 ∧ nb_223 n12 n3 n10 n11 H2 H3)) (f15 : n13 ≠ 0) (f16 : n14 = w32 (n1 + 1)) (f17 : n15 = 5) (f18 : (hLe T0 H3 H4 ∧ hFr s_216.2.2.2.2 H3 H4 ∧ ((0 : Int) = 0 → H4.length = H3.length) ∧ hWt T0 H4) ∧ postb_216 n16 n3 n15 H3 H4) (f19 : n16 = 0) : Bb_230_22 n5 n4 n3 n2 n14 n16 H0 H4 := by
  unfold Bb_230_22
  intro z
  have ga := f4.2.1.1.2
  unfold Bb_230_22 at ga
  obtain ⟨z1, k0, k5, y1, y0⟩ := ga z
  have vz : vwR H1 = vwR H0 := vwR_fr f4.1.2.1 (by decide +kernel)
  have ra0 := f0
  have ra1 := f1
  have ra2 := f2
  have ra3 := f3
  have p0 := PR_fr f8.1.2.1 (by decide +kernel) z1
  have v0 : vwR H2 = vwR H0 := p0.2.1.trans vz
  have ah0 : absR H2 = (absR H1) := p0.1
  have i0 := f8.2
  unfold postb_216 at i0
  rw [f7] at i0
  have cm0 := f9
  have b0 := (isR_or (k := 2) p0.2.2.1 (by decide) i0).resolve_right (fun w => cm0 w.1)
  replace b0 := b0.2
  rw [v0, ah0, kmc_2] at b0
  have c1 := f14.2.2 p0.2.2.1
  try rw [f12] at c1
  try rw [f13] at c1
  rw [v0, ah0] at c1
  have v1 : vwR H3 = vwR H0 := (vwR_fr f14.1.2.1 (by decide +kernel)).trans v0
  have p2 := PR_fr f18.1.2.1 (by decide +kernel) c1.1
  have v2 : vwR H4 = vwR H0 := p2.2.1.trans v1
  have ah2 : absR H4 = (pnm (vwR H0) 0 400 (absR H1)) := p2.1.trans c1.2
  have i2 := f18.2
  unfold postb_216 at i2
  rw [f17] at i2
  have cm2 := f19
  have b2 := (isR_or (k := 5) p2.2.2.1 (by decide) i2).resolve_left (fun w => absurd (w.1.symm.trans cm2) (by decide))
  replace b2 := b2.2
  rw [v2, ah2, kmc_5] at b2
  have q11 := f5
  have q16 := f6
  have q21 := f9
  have q23 := f11
  have qc22 := f10
  have q33 := f15
  have q34 := f16
  unfold w32 at q34
  have q39 := f19
  have hw : (pnm (vwR H0) 0 400 (absR H1)) = pWt (vwR H0) n1 (absR H1) := pWt_few (by omega)
  rw [hw] at b2
  have y := y1 (by omega)
  refine ⟨p2.2.2.1, by omega, by omega, fun c => absurd c (by omega), fun _ => ?_⟩
  rw [ah2]
  have yy := y.2
  rw [pTl_stop b2] at yy
  rw [hw]
  exact yy
def g_230w_22_6 : vG := ([(30, [16], [], 0), (1216, [16, 2, 15], [3, 4], 0), (0, [15], [], 5), (10, [14, 4], [], 1), (31, [13], [], 0), (1223, [12, 2, 10, 11], [2, 3], 0), (0, [11], [], 400), (0, [10], [], 0), (41, [4, 9], [], 0), (0, [9], [], 4), (31, [8], [], 0), (1216, [8, 2, 7], [1, 2], 0), (0, [7], [], 2), (30, [6], [], 0), (31, [5], [], 0), (5000, [0, 1, 2, 3, 4, 5], [0, 1], 22), (90, [4], [], 0), (91, [4], [], 5), (90, [5], [], 0), (91, [5], [], 1)], (4000, [2, 3, 14, 16], [4], 22))
theorem c_230w_22_6 {q0 : Nat} : vOkm T0 (eN e_230 L_230w A_230 mu_230 n_230 B_230 (some q0)) 2 g_230w_22_6 := vOk_inI fun ρ η f0 f1 f2 f3 f4 f5 f6 f7 f8 f9 f10 f11 f12 f13 f14 f15 f16 f17 f18 f19 => q_230w_7 (q0 := q0) (n0 := ρ 5) (n1 := ρ 4) (n2 := ρ 3) (n3 := ρ 2) (n4 := ρ 1) (n5 := ρ 0) (n6 := ρ 6) (n7 := ρ 7) (n8 := ρ 8) (n9 := ρ 9) (n10 := ρ 10) (n11 := ρ 11) (n12 := ρ 12) (n13 := ρ 13) (n14 := ρ 14) (n15 := ρ 15) (n16 := ρ 16) (H0 := η 0) (H1 := η 1) (H2 := η 2) (H3 := η 3) (H4 := η 4) f19 f18 f17 f16 f15 f14 f13 f12 f11 f10 f9 f8 f7 f6 f5 f4 f3 f2 f1 f0
theorem q_230w_8 {q0 : Nat} {n0 n1 n2 n3 n4 n5 n6 n7 n8 n9 n10 n11 n12 n13 n14 n15 n16 : Int} {H0 H1 H2 H3 H4 H5 : gH} (f0 : n0 ≤ 1) (f1 : 0 ≤ n0) (f2 : n1 ≤ 5) (f3 : 0 ≤ n1) (f4 : (hLe T0 H0 H1 ∧ hFr s_230.2.2.2.2 H0 H1 ∧ hWt T0 H1) ∧ ((Ab_230_22 n5 n4 n3 n2 n1 n0 H0 H1 ∧ Bb_230_22 n5 n4 n3 n2 n1 n0 H0 H1) ∧ preb_230 n5 n4 H0) ∧ some q0 = some (mub_230_22 n5 n4 n3 n2 n1 n0 H0 H1)) (f5 : n0 ≠ 0) (f6 : n6 = 0) (f7 : n7 = 2) (f8 : (hLe T0 H1 H2 ∧ hFr s_216.2.2.2.2 H1 H2 ∧ ((0 : Int) = 0 → H2.length = H1.length) ∧ hWt T0 H2) ∧ postb_216 n8 n3 n7 H1 H2) (f9 : n8 ≠ 0) (f10 : n9 = 4) (f11 : n1 ≠ n9) (f12 : n10 = 0) (f13 : n11 = 400) (f14 : (hLe T0 H2 H3 ∧ hFr s_223.2.2.2.2 H2 H3 ∧ ((0 : Int) = 0 → H3.length = H2.length) ∧ hWt T0 H3) ∧ (postb_223 n12 n3 n10 n11 H2 H3 ∧ nb_223 n12 n3 n10 n11 H2 H3)) (f15 : n13 ≠ 0) (f16 : n14 = w32 (n1 + 1)) (f17 : n15 = 5) (f18 : (hLe T0 H3 H4 ∧ hFr s_216.2.2.2.2 H3 H4 ∧ ((0 : Int) = 0 → H4.length = H3.length) ∧ hWt T0 H4) ∧ postb_216 n16 n3 n15 H3 H4) (f19 : n16 ≠ 0) (f20 : (hLe T0 H4 H5 ∧ hFr s_219.2.2.2.2 H4 H5 ∧ ((0 : Int) = 0 → H5.length = H4.length) ∧ hWt T0 H5) ∧ (postb_219 n3 H4 H5 ∧ nb_219 n3 H4 H5)) : Bb_230_22 n5 n4 n3 n2 n14 n16 H0 H5 := by
  unfold Bb_230_22
  intro z
  have ga := f4.2.1.1.2
  unfold Bb_230_22 at ga
  obtain ⟨z1, k0, k5, y1, y0⟩ := ga z
  have vz : vwR H1 = vwR H0 := vwR_fr f4.1.2.1 (by decide +kernel)
  have ra0 := f0
  have ra1 := f1
  have ra2 := f2
  have ra3 := f3
  have p0 := PR_fr f8.1.2.1 (by decide +kernel) z1
  have v0 : vwR H2 = vwR H0 := p0.2.1.trans vz
  have ah0 : absR H2 = (absR H1) := p0.1
  have i0 := f8.2
  unfold postb_216 at i0
  rw [f7] at i0
  have cm0 := f9
  have b0 := (isR_or (k := 2) p0.2.2.1 (by decide) i0).resolve_right (fun w => cm0 w.1)
  replace b0 := b0.2
  rw [v0, ah0, kmc_2] at b0
  have c1 := f14.2.2 p0.2.2.1
  try rw [f12] at c1
  try rw [f13] at c1
  rw [v0, ah0] at c1
  have v1 : vwR H3 = vwR H0 := (vwR_fr f14.1.2.1 (by decide +kernel)).trans v0
  have p2 := PR_fr f18.1.2.1 (by decide +kernel) c1.1
  have v2 : vwR H4 = vwR H0 := p2.2.1.trans v1
  have ah2 : absR H4 = (pnm (vwR H0) 0 400 (absR H1)) := p2.1.trans c1.2
  have i2 := f18.2
  unfold postb_216 at i2
  rw [f17] at i2
  have cm2 := f19
  have b2 := (isR_or (k := 5) p2.2.2.1 (by decide) i2).resolve_right (fun w => cm2 w.1)
  replace b2 := b2.2
  rw [v2, ah2, kmc_5] at b2
  have c3 := f20.2.2 p2.2.2.1 (by rw [v2, ah2]; rw [b2]; decide)
  rw [v2, ah2, b2] at c3
  have v3 : vwR H5 = vwR H0 := (vwR_fr f20.1.2.1 (by decide +kernel)).trans v2
  have q11 := f5
  have q16 := f6
  have q21 := f9
  have q23 := f11
  have qc22 := f10
  have q33 := f15
  have q34 := f16
  unfold w32 at q34
  have q39 := f19
  have hw : (pnm (vwR H0) 0 400 (absR H1)) = pWt (vwR H0) n1 (absR H1) := pWt_few (by omega)
  rw [hw] at b2
  have y := y1 (by omega)
  have lt := tapsR_lt z (by omega) b2
  have yy := y.2
  rw [show (4 - n1).toNat = (3 - n1).toNat + 1 by omega, pTl_step b2] at yy
  refine ⟨c3.1, by omega, by omega, fun _ => ⟨by omega, ?_⟩, fun c => absurd c (by omega)⟩
  rw [c3.2]
  rw [hw, show n14 = n1 + 1 by omega, show (4 - (n1 + 1)).toNat = (3 - n1).toNat by omega]
  exact yy
def g_230w_22_7 : vG := ([(1219, [2], [4, 5], 0), (31, [16], [], 0), (1216, [16, 2, 15], [3, 4], 0), (0, [15], [], 5), (10, [14, 4], [], 1), (31, [13], [], 0), (1223, [12, 2, 10, 11], [2, 3], 0), (0, [11], [], 400), (0, [10], [], 0), (41, [4, 9], [], 0), (0, [9], [], 4), (31, [8], [], 0), (1216, [8, 2, 7], [1, 2], 0), (0, [7], [], 2), (30, [6], [], 0), (31, [5], [], 0), (5000, [0, 1, 2, 3, 4, 5], [0, 1], 22), (90, [4], [], 0), (91, [4], [], 5), (90, [5], [], 0), (91, [5], [], 1)], (4000, [2, 3, 14, 16], [5], 22))
theorem c_230w_22_7 {q0 : Nat} : vOkm T0 (eN e_230 L_230w A_230 mu_230 n_230 B_230 (some q0)) 2 g_230w_22_7 := vOk_inI fun ρ η f0 f1 f2 f3 f4 f5 f6 f7 f8 f9 f10 f11 f12 f13 f14 f15 f16 f17 f18 f19 f20 => q_230w_8 (q0 := q0) (n0 := ρ 5) (n1 := ρ 4) (n2 := ρ 3) (n3 := ρ 2) (n4 := ρ 1) (n5 := ρ 0) (n6 := ρ 6) (n7 := ρ 7) (n8 := ρ 8) (n9 := ρ 9) (n10 := ρ 10) (n11 := ρ 11) (n12 := ρ 12) (n13 := ρ 13) (n14 := ρ 14) (n15 := ρ 15) (n16 := ρ 16) (H0 := η 0) (H1 := η 1) (H2 := η 2) (H3 := η 3) (H4 := η 4) (H5 := η 5) f20 f19 f18 f17 f16 f15 f14 f13 f12 f11 f10 f9 f8 f7 f6 f5 f4 f3 f2 f1 f0
theorem q_230w_9 {q0 : Nat} {n0 n1 n2 n3 n4 n5 n6 n7 n8 n9 n10 n11 n12 n13 n14 n19 n20 n21 n22 : Int} {H0 H1 H2 H3 H4 H5 : gH} (f0 : n0 ≤ 1) (f1 : 0 ≤ n0) (f2 : n1 ≤ 5) (f3 : 0 ≤ n1) (f4 : (hLe T0 H0 H1 ∧ hFr s_230.2.2.2.2 H0 H1 ∧ hWt T0 H1) ∧ ((Ab_230_22 n5 n4 n3 n2 n1 n0 H0 H1 ∧ Bb_230_22 n5 n4 n3 n2 n1 n0 H0 H1) ∧ preb_230 n5 n4 H0) ∧ some q0 = some (mub_230_22 n5 n4 n3 n2 n1 n0 H0 H1)) (f5 : n0 ≠ 0) (f6 : n6 = 0) (f7 : n7 = 2) (f8 : (hLe T0 H1 H2 ∧ hFr s_216.2.2.2.2 H1 H2 ∧ ((0 : Int) = 0 → H2.length = H1.length) ∧ hWt T0 H2) ∧ postb_216 n8 n3 n7 H1 H2) (f9 : n8 ≠ 0) (f10 : n9 = 4) (f11 : n1 ≠ n9) (f12 : n10 = 0) (f13 : n11 = 400) (f14 : (hLe T0 H2 H3 ∧ hFr s_223.2.2.2.2 H2 H3 ∧ ((0 : Int) = 0 → H3.length = H2.length) ∧ hWt T0 H3) ∧ (postb_223 n12 n3 n10 n11 H2 H3 ∧ nb_223 n12 n3 n10 n11 H2 H3)) (f15 : n13 = 0) (f16 : n14 = 305) (f17 : hUpd H4 H3 n14 n19 n12) (f18 : n20 = w32 (n1 + 1)) (f19 : n21 = 5) (f20 : (hLe T0 H4 H5 ∧ hFr s_216.2.2.2.2 H4 H5 ∧ ((0 : Int) = 0 → H5.length = H4.length) ∧ hWt T0 H5) ∧ postb_216 n22 n3 n21 H4 H5) (f21 : n22 = 0) : Bb_230_22 n5 n4 n3 n2 n20 n22 H0 H5 := by
  unfold Bb_230_22
  intro z
  have ga := f4.2.1.1.2
  unfold Bb_230_22 at ga
  obtain ⟨z1, k0, k5, y1, y0⟩ := ga z
  have vz : vwR H1 = vwR H0 := vwR_fr f4.1.2.1 (by decide +kernel)
  have ra0 := f0
  have ra1 := f1
  have ra2 := f2
  have ra3 := f3
  have p0 := PR_fr f8.1.2.1 (by decide +kernel) z1
  have v0 : vwR H2 = vwR H0 := p0.2.1.trans vz
  have ah0 : absR H2 = (absR H1) := p0.1
  have i0 := f8.2
  unfold postb_216 at i0
  rw [f7] at i0
  have cm0 := f9
  have b0 := (isR_or (k := 2) p0.2.2.1 (by decide) i0).resolve_right (fun w => cm0 w.1)
  replace b0 := b0.2
  rw [v0, ah0, kmc_2] at b0
  have c1 := f14.2.2 p0.2.2.1
  try rw [f12] at c1
  try rw [f13] at c1
  rw [v0, ah0] at c1
  have v1 : vwR H3 = vwR H0 := (vwR_fr f14.1.2.1 (by decide +kernel)).trans v0
  have p2 := PR_row (q := 305) f17 f16 (by decide) c1.1
  have v2 : vwR H4 = vwR H0 := p2.2.1.trans v1
  have ah2 : absR H4 = (pnm (vwR H0) 0 400 (absR H1)) := p2.1.trans c1.2
  have p3 := PR_fr f20.1.2.1 (by decide +kernel) p2.2.2.1
  have v3 : vwR H5 = vwR H0 := p3.2.1.trans v2
  have ah3 : absR H5 = (pnm (vwR H0) 0 400 (absR H1)) := p3.1.trans ah2
  have i3 := f20.2
  unfold postb_216 at i3
  rw [f19] at i3
  have cm3 := f21
  have b3 := (isR_or (k := 5) p3.2.2.1 (by decide) i3).resolve_left (fun w => absurd (w.1.symm.trans cm3) (by decide))
  replace b3 := b3.2
  rw [v3, ah3, kmc_5] at b3
  have q11 := f5
  have q16 := f6
  have q21 := f9
  have q23 := f11
  have qc22 := f10
  have q33 := f15
  have q44 := f18
  unfold w32 at q44
  have q49 := f21
  have hw : (pnm (vwR H0) 0 400 (absR H1)) = pWt (vwR H0) n1 (absR H1) := pWt_few (by omega)
  rw [hw] at b3
  have y := y1 (by omega)
  refine ⟨p3.2.2.1, by omega, by omega, fun c => absurd c (by omega), fun _ => ?_⟩
  rw [ah3]
  have yy := y.2
  rw [pTl_stop b3] at yy
  rw [hw]
  exact yy
def g_230w_22_8 : vG := ([(30, [22], [], 0), (1216, [22, 2, 21], [4, 5], 0), (0, [21], [], 5), (10, [20, 4], [], 1), (80, [14, 19, 12], [4, 3], 0), (0, [14], [], 305), (30, [13], [], 0), (1223, [12, 2, 10, 11], [2, 3], 0), (0, [11], [], 400), (0, [10], [], 0), (41, [4, 9], [], 0), (0, [9], [], 4), (31, [8], [], 0), (1216, [8, 2, 7], [1, 2], 0), (0, [7], [], 2), (30, [6], [], 0), (31, [5], [], 0), (5000, [0, 1, 2, 3, 4, 5], [0, 1], 22), (90, [4], [], 0), (91, [4], [], 5), (90, [5], [], 0), (91, [5], [], 1)], (4000, [2, 3, 20, 22], [5], 22))
theorem c_230w_22_8 {q0 : Nat} : vOkm T0 (eN e_230 L_230w A_230 mu_230 n_230 B_230 (some q0)) 2 g_230w_22_8 := vOk_inI fun ρ η f0 f1 f2 f3 f4 f5 f6 f7 f8 f9 f10 f11 f12 f13 f14 f15 f16 f17 f18 f19 f20 f21 => q_230w_9 (q0 := q0) (n0 := ρ 5) (n1 := ρ 4) (n2 := ρ 3) (n3 := ρ 2) (n4 := ρ 1) (n5 := ρ 0) (n6 := ρ 6) (n7 := ρ 7) (n8 := ρ 8) (n9 := ρ 9) (n10 := ρ 10) (n11 := ρ 11) (n12 := ρ 12) (n13 := ρ 13) (n14 := ρ 14) (n19 := ρ 19) (n20 := ρ 20) (n21 := ρ 21) (n22 := ρ 22) (H0 := η 0) (H1 := η 1) (H2 := η 2) (H3 := η 3) (H4 := η 4) (H5 := η 5) f21 f20 f19 f18 f17 f16 f15 f14 f13 f12 f11 f10 f9 f8 f7 f6 f5 f4 f3 f2 f1 f0
theorem q_230w_10 {q0 : Nat} {n0 n1 n2 n3 n4 n5 n6 n7 n8 n9 n10 n11 n12 n13 n14 n19 n20 n21 n22 : Int} {H0 H1 H2 H3 H4 H5 H6 : gH} (f0 : n0 ≤ 1) (f1 : 0 ≤ n0) (f2 : n1 ≤ 5) (f3 : 0 ≤ n1) (f4 : (hLe T0 H0 H1 ∧ hFr s_230.2.2.2.2 H0 H1 ∧ hWt T0 H1) ∧ ((Ab_230_22 n5 n4 n3 n2 n1 n0 H0 H1 ∧ Bb_230_22 n5 n4 n3 n2 n1 n0 H0 H1) ∧ preb_230 n5 n4 H0) ∧ some q0 = some (mub_230_22 n5 n4 n3 n2 n1 n0 H0 H1)) (f5 : n0 ≠ 0) (f6 : n6 = 0) (f7 : n7 = 2) (f8 : (hLe T0 H1 H2 ∧ hFr s_216.2.2.2.2 H1 H2 ∧ ((0 : Int) = 0 → H2.length = H1.length) ∧ hWt T0 H2) ∧ postb_216 n8 n3 n7 H1 H2) (f9 : n8 ≠ 0) (f10 : n9 = 4) (f11 : n1 ≠ n9) (f12 : n10 = 0) (f13 : n11 = 400) (f14 : (hLe T0 H2 H3 ∧ hFr s_223.2.2.2.2 H2 H3 ∧ ((0 : Int) = 0 → H3.length = H2.length) ∧ hWt T0 H3) ∧ (postb_223 n12 n3 n10 n11 H2 H3 ∧ nb_223 n12 n3 n10 n11 H2 H3)) (f15 : n13 = 0) (f16 : n14 = 305) (f17 : hUpd H4 H3 n14 n19 n12) (f18 : n20 = w32 (n1 + 1)) (f19 : n21 = 5) (f20 : (hLe T0 H4 H5 ∧ hFr s_216.2.2.2.2 H4 H5 ∧ ((0 : Int) = 0 → H5.length = H4.length) ∧ hWt T0 H5) ∧ postb_216 n22 n3 n21 H4 H5) (f21 : n22 ≠ 0) (f22 : (hLe T0 H5 H6 ∧ hFr s_219.2.2.2.2 H5 H6 ∧ ((0 : Int) = 0 → H6.length = H5.length) ∧ hWt T0 H6) ∧ (postb_219 n3 H5 H6 ∧ nb_219 n3 H5 H6)) : Bb_230_22 n5 n4 n3 n2 n20 n22 H0 H6 := by
  unfold Bb_230_22
  intro z
  have ga := f4.2.1.1.2
  unfold Bb_230_22 at ga
  obtain ⟨z1, k0, k5, y1, y0⟩ := ga z
  have vz : vwR H1 = vwR H0 := vwR_fr f4.1.2.1 (by decide +kernel)
  have ra0 := f0
  have ra1 := f1
  have ra2 := f2
  have ra3 := f3
  have p0 := PR_fr f8.1.2.1 (by decide +kernel) z1
  have v0 : vwR H2 = vwR H0 := p0.2.1.trans vz
  have ah0 : absR H2 = (absR H1) := p0.1
  have i0 := f8.2
  unfold postb_216 at i0
  rw [f7] at i0
  have cm0 := f9
  have b0 := (isR_or (k := 2) p0.2.2.1 (by decide) i0).resolve_right (fun w => cm0 w.1)
  replace b0 := b0.2
  rw [v0, ah0, kmc_2] at b0
  have c1 := f14.2.2 p0.2.2.1
  try rw [f12] at c1
  try rw [f13] at c1
  rw [v0, ah0] at c1
  have v1 : vwR H3 = vwR H0 := (vwR_fr f14.1.2.1 (by decide +kernel)).trans v0
  have p2 := PR_row (q := 305) f17 f16 (by decide) c1.1
  have v2 : vwR H4 = vwR H0 := p2.2.1.trans v1
  have ah2 : absR H4 = (pnm (vwR H0) 0 400 (absR H1)) := p2.1.trans c1.2
  have p3 := PR_fr f20.1.2.1 (by decide +kernel) p2.2.2.1
  have v3 : vwR H5 = vwR H0 := p3.2.1.trans v2
  have ah3 : absR H5 = (pnm (vwR H0) 0 400 (absR H1)) := p3.1.trans ah2
  have i3 := f20.2
  unfold postb_216 at i3
  rw [f19] at i3
  have cm3 := f21
  have b3 := (isR_or (k := 5) p3.2.2.1 (by decide) i3).resolve_right (fun w => cm3 w.1)
  replace b3 := b3.2
  rw [v3, ah3, kmc_5] at b3
  have c4 := f22.2.2 p3.2.2.1 (by rw [v3, ah3]; rw [b3]; decide)
  rw [v3, ah3, b3] at c4
  have v4 : vwR H6 = vwR H0 := (vwR_fr f22.1.2.1 (by decide +kernel)).trans v3
  have q11 := f5
  have q16 := f6
  have q21 := f9
  have q23 := f11
  have qc22 := f10
  have q33 := f15
  have q44 := f18
  unfold w32 at q44
  have q49 := f21
  have hw : (pnm (vwR H0) 0 400 (absR H1)) = pWt (vwR H0) n1 (absR H1) := pWt_few (by omega)
  rw [hw] at b3
  have y := y1 (by omega)
  have lt := tapsR_lt z (by omega) b3
  have yy := y.2
  rw [show (4 - n1).toNat = (3 - n1).toNat + 1 by omega, pTl_step b3] at yy
  refine ⟨c4.1, by omega, by omega, fun _ => ⟨by omega, ?_⟩, fun c => absurd c (by omega)⟩
  rw [c4.2]
  rw [hw, show n20 = n1 + 1 by omega, show (4 - (n1 + 1)).toNat = (3 - n1).toNat by omega]
  exact yy
def g_230w_22_9 : vG := ([(1219, [2], [5, 6], 0), (31, [22], [], 0), (1216, [22, 2, 21], [4, 5], 0), (0, [21], [], 5), (10, [20, 4], [], 1), (80, [14, 19, 12], [4, 3], 0), (0, [14], [], 305), (30, [13], [], 0), (1223, [12, 2, 10, 11], [2, 3], 0), (0, [11], [], 400), (0, [10], [], 0), (41, [4, 9], [], 0), (0, [9], [], 4), (31, [8], [], 0), (1216, [8, 2, 7], [1, 2], 0), (0, [7], [], 2), (30, [6], [], 0), (31, [5], [], 0), (5000, [0, 1, 2, 3, 4, 5], [0, 1], 22), (90, [4], [], 0), (91, [4], [], 5), (90, [5], [], 0), (91, [5], [], 1)], (4000, [2, 3, 20, 22], [6], 22))
theorem c_230w_22_9 {q0 : Nat} : vOkm T0 (eN e_230 L_230w A_230 mu_230 n_230 B_230 (some q0)) 2 g_230w_22_9 := vOk_inI fun ρ η f0 f1 f2 f3 f4 f5 f6 f7 f8 f9 f10 f11 f12 f13 f14 f15 f16 f17 f18 f19 f20 f21 f22 => q_230w_10 (q0 := q0) (n0 := ρ 5) (n1 := ρ 4) (n2 := ρ 3) (n3 := ρ 2) (n4 := ρ 1) (n5 := ρ 0) (n6 := ρ 6) (n7 := ρ 7) (n8 := ρ 8) (n9 := ρ 9) (n10 := ρ 10) (n11 := ρ 11) (n12 := ρ 12) (n13 := ρ 13) (n14 := ρ 14) (n19 := ρ 19) (n20 := ρ 20) (n21 := ρ 21) (n22 := ρ 22) (H0 := η 0) (H1 := η 1) (H2 := η 2) (H3 := η 3) (H4 := η 4) (H5 := η 5) (H6 := η 6) f22 f21 f20 f19 f18 f17 f16 f15 f14 f13 f12 f11 f10 f9 f8 f7 f6 f5 f4 f3 f2 f1 f0
theorem q_230w_11 {q0 : Nat} {n0 n1 n2 n3 n4 n5 n6 n7 n8 n9 n10 n11 n12 n13 n14 n15 n16 n17 : Int} {H0 H1 H2 H3 H4 H5 : gH} (f0 : n0 ≤ 1) (f1 : 0 ≤ n0) (f2 : n1 ≤ 5) (f3 : 0 ≤ n1) (f4 : (hLe T0 H0 H1 ∧ hFr s_230.2.2.2.2 H0 H1 ∧ hWt T0 H1) ∧ ((Ab_230_22 n5 n4 n3 n2 n1 n0 H0 H1 ∧ Bb_230_22 n5 n4 n3 n2 n1 n0 H0 H1) ∧ preb_230 n5 n4 H0) ∧ some q0 = some (mub_230_22 n5 n4 n3 n2 n1 n0 H0 H1)) (f5 : n0 ≠ 0) (f6 : n6 = 0) (f7 : n7 = 2) (f8 : (hLe T0 H1 H2 ∧ hFr s_216.2.2.2.2 H1 H2 ∧ ((0 : Int) = 0 → H2.length = H1.length) ∧ hWt T0 H2) ∧ postb_216 n8 n3 n7 H1 H2) (f9 : n8 ≠ 0) (f10 : n9 = 4) (f11 : n1 = n9) (f12 : n10 = 2) (f13 : (hLe T0 H2 H3 ∧ hFr s_217.2.2.2.2 H2 H3 ∧ ((0 : Int) = 0 → H3.length = H2.length) ∧ hWt T0 H3) ∧ (postb_217 n3 n10 H2 H3 ∧ nb_217 n3 n10 H2 H3)) (f14 : n11 = 0) (f15 : n12 = 400) (f16 : (hLe T0 H3 H4 ∧ hFr s_223.2.2.2.2 H3 H4 ∧ ((0 : Int) = 0 → H4.length = H3.length) ∧ hWt T0 H4) ∧ (postb_223 n13 n3 n11 n12 H3 H4 ∧ nb_223 n13 n3 n11 n12 H3 H4)) (f17 : n14 ≠ 0) (f18 : n15 = w32 (n1 + 1)) (f19 : n16 = 5) (f20 : (hLe T0 H4 H5 ∧ hFr s_216.2.2.2.2 H4 H5 ∧ ((0 : Int) = 0 → H5.length = H4.length) ∧ hWt T0 H5) ∧ postb_216 n17 n3 n16 H4 H5) (f21 : n17 = 0) : Bb_230_22 n5 n4 n3 n2 n15 n17 H0 H5 := by
  unfold Bb_230_22
  intro z
  have ga := f4.2.1.1.2
  unfold Bb_230_22 at ga
  obtain ⟨z1, k0, k5, y1, y0⟩ := ga z
  have vz : vwR H1 = vwR H0 := vwR_fr f4.1.2.1 (by decide +kernel)
  have ra0 := f0
  have ra1 := f1
  have ra2 := f2
  have ra3 := f3
  have p0 := PR_fr f8.1.2.1 (by decide +kernel) z1
  have v0 : vwR H2 = vwR H0 := p0.2.1.trans vz
  have ah0 : absR H2 = (absR H1) := p0.1
  have i0 := f8.2
  unfold postb_216 at i0
  rw [f7] at i0
  have cm0 := f9
  have b0 := (isR_or (k := 2) p0.2.2.1 (by decide) i0).resolve_right (fun w => cm0 w.1)
  replace b0 := b0.2
  rw [v0, ah0, kmc_2] at b0
  have c1 := f13.2.2 p0.2.2.1
  try rw [f12] at c1
  rw [v0, ah0] at c1
  have v1 : vwR H3 = vwR H0 := (vwR_fr f13.1.2.1 (by decide +kernel)).trans v0
  have c2 := f16.2.2 c1.1
  try rw [f14] at c2
  try rw [f15] at c2
  rw [v1, c1.2] at c2
  have v2 : vwR H4 = vwR H0 := (vwR_fr f16.1.2.1 (by decide +kernel)).trans v1
  have p3 := PR_fr f20.1.2.1 (by decide +kernel) c2.1
  have v3 : vwR H5 = vwR H0 := p3.2.1.trans v2
  have ah3 : absR H5 = (pnm (vwR H0) 0 400 (pfail (vwR H0) 2 (absR H1))) := p3.1.trans c2.2
  have i3 := f20.2
  unfold postb_216 at i3
  rw [f19] at i3
  have cm3 := f21
  have b3 := (isR_or (k := 5) p3.2.2.1 (by decide) i3).resolve_left (fun w => absurd (w.1.symm.trans cm3) (by decide))
  replace b3 := b3.2
  rw [v3, ah3, kmc_5] at b3
  have q11 := f5
  have q16 := f6
  have q21 := f9
  have q23 := f11
  have qc22 := f10
  have q35 := f17
  have q36 := f18
  unfold w32 at q36
  have q41 := f21
  have hw : (pnm (vwR H0) 0 400 (pfail (vwR H0) 2 (absR H1))) = pWt (vwR H0) n1 (absR H1) := pWtR_full z b0 (by omega)
  rw [hw] at b3
  have y := y1 (by omega)
  refine ⟨p3.2.2.1, by omega, by omega, fun c => absurd c (by omega), fun _ => ?_⟩
  rw [ah3]
  have yy := y.2
  rw [pTl_stop b3] at yy
  rw [hw]
  exact yy
def g_230w_22_10 : vG := ([(30, [17], [], 0), (1216, [17, 2, 16], [4, 5], 0), (0, [16], [], 5), (10, [15, 4], [], 1), (31, [14], [], 0), (1223, [13, 2, 11, 12], [3, 4], 0), (0, [12], [], 400), (0, [11], [], 0), (1217, [2, 10], [2, 3], 0), (0, [10], [], 2), (40, [4, 9], [], 0), (0, [9], [], 4), (31, [8], [], 0), (1216, [8, 2, 7], [1, 2], 0), (0, [7], [], 2), (30, [6], [], 0), (31, [5], [], 0), (5000, [0, 1, 2, 3, 4, 5], [0, 1], 22), (90, [4], [], 0), (91, [4], [], 5), (90, [5], [], 0), (91, [5], [], 1)], (4000, [2, 3, 15, 17], [5], 22))
theorem c_230w_22_10 {q0 : Nat} : vOkm T0 (eN e_230 L_230w A_230 mu_230 n_230 B_230 (some q0)) 2 g_230w_22_10 := vOk_inI fun ρ η f0 f1 f2 f3 f4 f5 f6 f7 f8 f9 f10 f11 f12 f13 f14 f15 f16 f17 f18 f19 f20 f21 => q_230w_11 (q0 := q0) (n0 := ρ 5) (n1 := ρ 4) (n2 := ρ 3) (n3 := ρ 2) (n4 := ρ 1) (n5 := ρ 0) (n6 := ρ 6) (n7 := ρ 7) (n8 := ρ 8) (n9 := ρ 9) (n10 := ρ 10) (n11 := ρ 11) (n12 := ρ 12) (n13 := ρ 13) (n14 := ρ 14) (n15 := ρ 15) (n16 := ρ 16) (n17 := ρ 17) (H0 := η 0) (H1 := η 1) (H2 := η 2) (H3 := η 3) (H4 := η 4) (H5 := η 5) f21 f20 f19 f18 f17 f16 f15 f14 f13 f12 f11 f10 f9 f8 f7 f6 f5 f4 f3 f2 f1 f0
theorem q_230w_12 {q0 : Nat} {n0 n1 n2 n3 n4 n5 n6 n7 n8 n9 n10 n11 n12 n13 n14 n15 n16 n17 : Int} {H0 H1 H2 H3 H4 H5 H6 : gH} (f0 : n0 ≤ 1) (f1 : 0 ≤ n0) (f2 : n1 ≤ 5) (f3 : 0 ≤ n1) (f4 : (hLe T0 H0 H1 ∧ hFr s_230.2.2.2.2 H0 H1 ∧ hWt T0 H1) ∧ ((Ab_230_22 n5 n4 n3 n2 n1 n0 H0 H1 ∧ Bb_230_22 n5 n4 n3 n2 n1 n0 H0 H1) ∧ preb_230 n5 n4 H0) ∧ some q0 = some (mub_230_22 n5 n4 n3 n2 n1 n0 H0 H1)) (f5 : n0 ≠ 0) (f6 : n6 = 0) (f7 : n7 = 2) (f8 : (hLe T0 H1 H2 ∧ hFr s_216.2.2.2.2 H1 H2 ∧ ((0 : Int) = 0 → H2.length = H1.length) ∧ hWt T0 H2) ∧ postb_216 n8 n3 n7 H1 H2) (f9 : n8 ≠ 0) (f10 : n9 = 4) (f11 : n1 = n9) (f12 : n10 = 2) (f13 : (hLe T0 H2 H3 ∧ hFr s_217.2.2.2.2 H2 H3 ∧ ((0 : Int) = 0 → H3.length = H2.length) ∧ hWt T0 H3) ∧ (postb_217 n3 n10 H2 H3 ∧ nb_217 n3 n10 H2 H3)) (f14 : n11 = 0) (f15 : n12 = 400) (f16 : (hLe T0 H3 H4 ∧ hFr s_223.2.2.2.2 H3 H4 ∧ ((0 : Int) = 0 → H4.length = H3.length) ∧ hWt T0 H4) ∧ (postb_223 n13 n3 n11 n12 H3 H4 ∧ nb_223 n13 n3 n11 n12 H3 H4)) (f17 : n14 ≠ 0) (f18 : n15 = w32 (n1 + 1)) (f19 : n16 = 5) (f20 : (hLe T0 H4 H5 ∧ hFr s_216.2.2.2.2 H4 H5 ∧ ((0 : Int) = 0 → H5.length = H4.length) ∧ hWt T0 H5) ∧ postb_216 n17 n3 n16 H4 H5) (f21 : n17 ≠ 0) (f22 : (hLe T0 H5 H6 ∧ hFr s_219.2.2.2.2 H5 H6 ∧ ((0 : Int) = 0 → H6.length = H5.length) ∧ hWt T0 H6) ∧ (postb_219 n3 H5 H6 ∧ nb_219 n3 H5 H6)) : Bb_230_22 n5 n4 n3 n2 n15 n17 H0 H6 := by
  unfold Bb_230_22
  intro z
  have ga := f4.2.1.1.2
  unfold Bb_230_22 at ga
  obtain ⟨z1, k0, k5, y1, y0⟩ := ga z
  have vz : vwR H1 = vwR H0 := vwR_fr f4.1.2.1 (by decide +kernel)
  have ra0 := f0
  have ra1 := f1
  have ra2 := f2
  have ra3 := f3
  have p0 := PR_fr f8.1.2.1 (by decide +kernel) z1
  have v0 : vwR H2 = vwR H0 := p0.2.1.trans vz
  have ah0 : absR H2 = (absR H1) := p0.1
  have i0 := f8.2
  unfold postb_216 at i0
  rw [f7] at i0
  have cm0 := f9
  have b0 := (isR_or (k := 2) p0.2.2.1 (by decide) i0).resolve_right (fun w => cm0 w.1)
  replace b0 := b0.2
  rw [v0, ah0, kmc_2] at b0
  have c1 := f13.2.2 p0.2.2.1
  try rw [f12] at c1
  rw [v0, ah0] at c1
  have v1 : vwR H3 = vwR H0 := (vwR_fr f13.1.2.1 (by decide +kernel)).trans v0
  have c2 := f16.2.2 c1.1
  try rw [f14] at c2
  try rw [f15] at c2
  rw [v1, c1.2] at c2
  have v2 : vwR H4 = vwR H0 := (vwR_fr f16.1.2.1 (by decide +kernel)).trans v1
  have p3 := PR_fr f20.1.2.1 (by decide +kernel) c2.1
  have v3 : vwR H5 = vwR H0 := p3.2.1.trans v2
  have ah3 : absR H5 = (pnm (vwR H0) 0 400 (pfail (vwR H0) 2 (absR H1))) := p3.1.trans c2.2
  have i3 := f20.2
  unfold postb_216 at i3
  rw [f19] at i3
  have cm3 := f21
  have b3 := (isR_or (k := 5) p3.2.2.1 (by decide) i3).resolve_right (fun w => cm3 w.1)
  replace b3 := b3.2
  rw [v3, ah3, kmc_5] at b3
  have c4 := f22.2.2 p3.2.2.1 (by rw [v3, ah3]; rw [b3]; decide)
  rw [v3, ah3, b3] at c4
  have v4 : vwR H6 = vwR H0 := (vwR_fr f22.1.2.1 (by decide +kernel)).trans v3
  have q11 := f5
  have q16 := f6
  have q21 := f9
  have q23 := f11
  have qc22 := f10
  have q35 := f17
  have q36 := f18
  unfold w32 at q36
  have q41 := f21
  have hw : (pnm (vwR H0) 0 400 (pfail (vwR H0) 2 (absR H1))) = pWt (vwR H0) n1 (absR H1) := pWtR_full z b0 (by omega)
  rw [hw] at b3
  have y := y1 (by omega)
  have lt := tapsR_lt z (by omega) b3
  have yy := y.2
  rw [show (4 - n1).toNat = (3 - n1).toNat + 1 by omega, pTl_step b3] at yy
  refine ⟨c4.1, by omega, by omega, fun _ => ⟨by omega, ?_⟩, fun c => absurd c (by omega)⟩
  rw [c4.2]
  rw [hw, show n15 = n1 + 1 by omega, show (4 - (n1 + 1)).toNat = (3 - n1).toNat by omega]
  exact yy
def g_230w_22_11 : vG := ([(1219, [2], [5, 6], 0), (31, [17], [], 0), (1216, [17, 2, 16], [4, 5], 0), (0, [16], [], 5), (10, [15, 4], [], 1), (31, [14], [], 0), (1223, [13, 2, 11, 12], [3, 4], 0), (0, [12], [], 400), (0, [11], [], 0), (1217, [2, 10], [2, 3], 0), (0, [10], [], 2), (40, [4, 9], [], 0), (0, [9], [], 4), (31, [8], [], 0), (1216, [8, 2, 7], [1, 2], 0), (0, [7], [], 2), (30, [6], [], 0), (31, [5], [], 0), (5000, [0, 1, 2, 3, 4, 5], [0, 1], 22), (90, [4], [], 0), (91, [4], [], 5), (90, [5], [], 0), (91, [5], [], 1)], (4000, [2, 3, 15, 17], [6], 22))
theorem c_230w_22_11 {q0 : Nat} : vOkm T0 (eN e_230 L_230w A_230 mu_230 n_230 B_230 (some q0)) 2 g_230w_22_11 := vOk_inI fun ρ η f0 f1 f2 f3 f4 f5 f6 f7 f8 f9 f10 f11 f12 f13 f14 f15 f16 f17 f18 f19 f20 f21 f22 => q_230w_12 (q0 := q0) (n0 := ρ 5) (n1 := ρ 4) (n2 := ρ 3) (n3 := ρ 2) (n4 := ρ 1) (n5 := ρ 0) (n6 := ρ 6) (n7 := ρ 7) (n8 := ρ 8) (n9 := ρ 9) (n10 := ρ 10) (n11 := ρ 11) (n12 := ρ 12) (n13 := ρ 13) (n14 := ρ 14) (n15 := ρ 15) (n16 := ρ 16) (n17 := ρ 17) (H0 := η 0) (H1 := η 1) (H2 := η 2) (H3 := η 3) (H4 := η 4) (H5 := η 5) (H6 := η 6) f22 f21 f20 f19 f18 f17 f16 f15 f14 f13 f12 f11 f10 f9 f8 f7 f6 f5 f4 f3 f2 f1 f0
theorem q_230w_13 {q0 : Nat} {n0 n1 n2 n3 n4 n5 n6 n7 n8 n9 n10 n11 n12 n13 n14 n15 n20 n21 n22 n23 : Int} {H0 H1 H2 H3 H4 H5 H6 : gH} (f0 : n0 ≤ 1) (f1 : 0 ≤ n0) (f2 : n1 ≤ 5) (f3 : 0 ≤ n1) (f4 : (hLe T0 H0 H1 ∧ hFr s_230.2.2.2.2 H0 H1 ∧ hWt T0 H1) ∧ ((Ab_230_22 n5 n4 n3 n2 n1 n0 H0 H1 ∧ Bb_230_22 n5 n4 n3 n2 n1 n0 H0 H1) ∧ preb_230 n5 n4 H0) ∧ some q0 = some (mub_230_22 n5 n4 n3 n2 n1 n0 H0 H1)) (f5 : n0 ≠ 0) (f6 : n6 = 0) (f7 : n7 = 2) (f8 : (hLe T0 H1 H2 ∧ hFr s_216.2.2.2.2 H1 H2 ∧ ((0 : Int) = 0 → H2.length = H1.length) ∧ hWt T0 H2) ∧ postb_216 n8 n3 n7 H1 H2) (f9 : n8 ≠ 0) (f10 : n9 = 4) (f11 : n1 = n9) (f12 : n10 = 2) (f13 : (hLe T0 H2 H3 ∧ hFr s_217.2.2.2.2 H2 H3 ∧ ((0 : Int) = 0 → H3.length = H2.length) ∧ hWt T0 H3) ∧ (postb_217 n3 n10 H2 H3 ∧ nb_217 n3 n10 H2 H3)) (f14 : n11 = 0) (f15 : n12 = 400) (f16 : (hLe T0 H3 H4 ∧ hFr s_223.2.2.2.2 H3 H4 ∧ ((0 : Int) = 0 → H4.length = H3.length) ∧ hWt T0 H4) ∧ (postb_223 n13 n3 n11 n12 H3 H4 ∧ nb_223 n13 n3 n11 n12 H3 H4)) (f17 : n14 = 0) (f18 : n15 = 305) (f19 : hUpd H5 H4 n15 n20 n13) (f20 : n21 = w32 (n1 + 1)) (f21 : n22 = 5) (f22 : (hLe T0 H5 H6 ∧ hFr s_216.2.2.2.2 H5 H6 ∧ ((0 : Int) = 0 → H6.length = H5.length) ∧ hWt T0 H6) ∧ postb_216 n23 n3 n22 H5 H6) (f23 : n23 = 0) : Bb_230_22 n5 n4 n3 n2 n21 n23 H0 H6 := by
  unfold Bb_230_22
  intro z
  have ga := f4.2.1.1.2
  unfold Bb_230_22 at ga
  obtain ⟨z1, k0, k5, y1, y0⟩ := ga z
  have vz : vwR H1 = vwR H0 := vwR_fr f4.1.2.1 (by decide +kernel)
  have ra0 := f0
  have ra1 := f1
  have ra2 := f2
  have ra3 := f3
  have p0 := PR_fr f8.1.2.1 (by decide +kernel) z1
  have v0 : vwR H2 = vwR H0 := p0.2.1.trans vz
  have ah0 : absR H2 = (absR H1) := p0.1
  have i0 := f8.2
  unfold postb_216 at i0
  rw [f7] at i0
  have cm0 := f9
  have b0 := (isR_or (k := 2) p0.2.2.1 (by decide) i0).resolve_right (fun w => cm0 w.1)
  replace b0 := b0.2
  rw [v0, ah0, kmc_2] at b0
  have c1 := f13.2.2 p0.2.2.1
  try rw [f12] at c1
  rw [v0, ah0] at c1
  have v1 : vwR H3 = vwR H0 := (vwR_fr f13.1.2.1 (by decide +kernel)).trans v0
  have c2 := f16.2.2 c1.1
  try rw [f14] at c2
  try rw [f15] at c2
  rw [v1, c1.2] at c2
  have v2 : vwR H4 = vwR H0 := (vwR_fr f16.1.2.1 (by decide +kernel)).trans v1
  have p3 := PR_row (q := 305) f19 f18 (by decide) c2.1
  have v3 : vwR H5 = vwR H0 := p3.2.1.trans v2
  have ah3 : absR H5 = (pnm (vwR H0) 0 400 (pfail (vwR H0) 2 (absR H1))) := p3.1.trans c2.2
  have p4 := PR_fr f22.1.2.1 (by decide +kernel) p3.2.2.1
  have v4 : vwR H6 = vwR H0 := p4.2.1.trans v3
  have ah4 : absR H6 = (pnm (vwR H0) 0 400 (pfail (vwR H0) 2 (absR H1))) := p4.1.trans ah3
  have i4 := f22.2
  unfold postb_216 at i4
  rw [f21] at i4
  have cm4 := f23
  have b4 := (isR_or (k := 5) p4.2.2.1 (by decide) i4).resolve_left (fun w => absurd (w.1.symm.trans cm4) (by decide))
  replace b4 := b4.2
  rw [v4, ah4, kmc_5] at b4
  have q11 := f5
  have q16 := f6
  have q21 := f9
  have q23 := f11
  have qc22 := f10
  have q35 := f17
  have q46 := f20
  unfold w32 at q46
  have q51 := f23
  have hw : (pnm (vwR H0) 0 400 (pfail (vwR H0) 2 (absR H1))) = pWt (vwR H0) n1 (absR H1) := pWtR_full z b0 (by omega)
  rw [hw] at b4
  have y := y1 (by omega)
  refine ⟨p4.2.2.1, by omega, by omega, fun c => absurd c (by omega), fun _ => ?_⟩
  rw [ah4]
  have yy := y.2
  rw [pTl_stop b4] at yy
  rw [hw]
  exact yy
def g_230w_22_12 : vG := ([(30, [23], [], 0), (1216, [23, 2, 22], [5, 6], 0), (0, [22], [], 5), (10, [21, 4], [], 1), (80, [15, 20, 13], [5, 4], 0), (0, [15], [], 305), (30, [14], [], 0), (1223, [13, 2, 11, 12], [3, 4], 0), (0, [12], [], 400), (0, [11], [], 0), (1217, [2, 10], [2, 3], 0), (0, [10], [], 2), (40, [4, 9], [], 0), (0, [9], [], 4), (31, [8], [], 0), (1216, [8, 2, 7], [1, 2], 0), (0, [7], [], 2), (30, [6], [], 0), (31, [5], [], 0), (5000, [0, 1, 2, 3, 4, 5], [0, 1], 22), (90, [4], [], 0), (91, [4], [], 5), (90, [5], [], 0), (91, [5], [], 1)], (4000, [2, 3, 21, 23], [6], 22))
theorem c_230w_22_12 {q0 : Nat} : vOkm T0 (eN e_230 L_230w A_230 mu_230 n_230 B_230 (some q0)) 2 g_230w_22_12 := vOk_inI fun ρ η f0 f1 f2 f3 f4 f5 f6 f7 f8 f9 f10 f11 f12 f13 f14 f15 f16 f17 f18 f19 f20 f21 f22 f23 => q_230w_13 (q0 := q0) (n0 := ρ 5) (n1 := ρ 4) (n2 := ρ 3) (n3 := ρ 2) (n4 := ρ 1) (n5 := ρ 0) (n6 := ρ 6) (n7 := ρ 7) (n8 := ρ 8) (n9 := ρ 9) (n10 := ρ 10) (n11 := ρ 11) (n12 := ρ 12) (n13 := ρ 13) (n14 := ρ 14) (n15 := ρ 15) (n20 := ρ 20) (n21 := ρ 21) (n22 := ρ 22) (n23 := ρ 23) (H0 := η 0) (H1 := η 1) (H2 := η 2) (H3 := η 3) (H4 := η 4) (H5 := η 5) (H6 := η 6) f23 f22 f21 f20 f19 f18 f17 f16 f15 f14 f13 f12 f11 f10 f9 f8 f7 f6 f5 f4 f3 f2 f1 f0
theorem q_230w_14 {q0 : Nat} {n0 n1 n2 n3 n4 n5 n6 n7 n8 n9 n10 n11 n12 n13 n14 n15 n20 n21 n22 n23 : Int} {H0 H1 H2 H3 H4 H5 H6 H7 : gH} (f0 : n0 ≤ 1) (f1 : 0 ≤ n0) (f2 : n1 ≤ 5) (f3 : 0 ≤ n1) (f4 : (hLe T0 H0 H1 ∧ hFr s_230.2.2.2.2 H0 H1 ∧ hWt T0 H1) ∧ ((Ab_230_22 n5 n4 n3 n2 n1 n0 H0 H1 ∧ Bb_230_22 n5 n4 n3 n2 n1 n0 H0 H1) ∧ preb_230 n5 n4 H0) ∧ some q0 = some (mub_230_22 n5 n4 n3 n2 n1 n0 H0 H1)) (f5 : n0 ≠ 0) (f6 : n6 = 0) (f7 : n7 = 2) (f8 : (hLe T0 H1 H2 ∧ hFr s_216.2.2.2.2 H1 H2 ∧ ((0 : Int) = 0 → H2.length = H1.length) ∧ hWt T0 H2) ∧ postb_216 n8 n3 n7 H1 H2) (f9 : n8 ≠ 0) (f10 : n9 = 4) (f11 : n1 = n9) (f12 : n10 = 2) (f13 : (hLe T0 H2 H3 ∧ hFr s_217.2.2.2.2 H2 H3 ∧ ((0 : Int) = 0 → H3.length = H2.length) ∧ hWt T0 H3) ∧ (postb_217 n3 n10 H2 H3 ∧ nb_217 n3 n10 H2 H3)) (f14 : n11 = 0) (f15 : n12 = 400) (f16 : (hLe T0 H3 H4 ∧ hFr s_223.2.2.2.2 H3 H4 ∧ ((0 : Int) = 0 → H4.length = H3.length) ∧ hWt T0 H4) ∧ (postb_223 n13 n3 n11 n12 H3 H4 ∧ nb_223 n13 n3 n11 n12 H3 H4)) (f17 : n14 = 0) (f18 : n15 = 305) (f19 : hUpd H5 H4 n15 n20 n13) (f20 : n21 = w32 (n1 + 1)) (f21 : n22 = 5) (f22 : (hLe T0 H5 H6 ∧ hFr s_216.2.2.2.2 H5 H6 ∧ ((0 : Int) = 0 → H6.length = H5.length) ∧ hWt T0 H6) ∧ postb_216 n23 n3 n22 H5 H6) (f23 : n23 ≠ 0) (f24 : (hLe T0 H6 H7 ∧ hFr s_219.2.2.2.2 H6 H7 ∧ ((0 : Int) = 0 → H7.length = H6.length) ∧ hWt T0 H7) ∧ (postb_219 n3 H6 H7 ∧ nb_219 n3 H6 H7)) : Bb_230_22 n5 n4 n3 n2 n21 n23 H0 H7 := by
  unfold Bb_230_22
  intro z
  have ga := f4.2.1.1.2
  unfold Bb_230_22 at ga
  obtain ⟨z1, k0, k5, y1, y0⟩ := ga z
  have vz : vwR H1 = vwR H0 := vwR_fr f4.1.2.1 (by decide +kernel)
  have ra0 := f0
  have ra1 := f1
  have ra2 := f2
  have ra3 := f3
  have p0 := PR_fr f8.1.2.1 (by decide +kernel) z1
  have v0 : vwR H2 = vwR H0 := p0.2.1.trans vz
  have ah0 : absR H2 = (absR H1) := p0.1
  have i0 := f8.2
  unfold postb_216 at i0
  rw [f7] at i0
  have cm0 := f9
  have b0 := (isR_or (k := 2) p0.2.2.1 (by decide) i0).resolve_right (fun w => cm0 w.1)
  replace b0 := b0.2
  rw [v0, ah0, kmc_2] at b0
  have c1 := f13.2.2 p0.2.2.1
  try rw [f12] at c1
  rw [v0, ah0] at c1
  have v1 : vwR H3 = vwR H0 := (vwR_fr f13.1.2.1 (by decide +kernel)).trans v0
  have c2 := f16.2.2 c1.1
  try rw [f14] at c2
  try rw [f15] at c2
  rw [v1, c1.2] at c2
  have v2 : vwR H4 = vwR H0 := (vwR_fr f16.1.2.1 (by decide +kernel)).trans v1
  have p3 := PR_row (q := 305) f19 f18 (by decide) c2.1
  have v3 : vwR H5 = vwR H0 := p3.2.1.trans v2
  have ah3 : absR H5 = (pnm (vwR H0) 0 400 (pfail (vwR H0) 2 (absR H1))) := p3.1.trans c2.2
  have p4 := PR_fr f22.1.2.1 (by decide +kernel) p3.2.2.1
  have v4 : vwR H6 = vwR H0 := p4.2.1.trans v3
  have ah4 : absR H6 = (pnm (vwR H0) 0 400 (pfail (vwR H0) 2 (absR H1))) := p4.1.trans ah3
  have i4 := f22.2
  unfold postb_216 at i4
  rw [f21] at i4
  have cm4 := f23
  have b4 := (isR_or (k := 5) p4.2.2.1 (by decide) i4).resolve_right (fun w => cm4 w.1)
  replace b4 := b4.2
  rw [v4, ah4, kmc_5] at b4
  have c5 := f24.2.2 p4.2.2.1 (by rw [v4, ah4]; rw [b4]; decide)
  rw [v4, ah4, b4] at c5
  have v5 : vwR H7 = vwR H0 := (vwR_fr f24.1.2.1 (by decide +kernel)).trans v4
  have q11 := f5
  have q16 := f6
  have q21 := f9
  have q23 := f11
  have qc22 := f10
  have q35 := f17
  have q46 := f20
  unfold w32 at q46
  have q51 := f23
  have hw : (pnm (vwR H0) 0 400 (pfail (vwR H0) 2 (absR H1))) = pWt (vwR H0) n1 (absR H1) := pWtR_full z b0 (by omega)
  rw [hw] at b4
  have y := y1 (by omega)
  have lt := tapsR_lt z (by omega) b4
  have yy := y.2
  rw [show (4 - n1).toNat = (3 - n1).toNat + 1 by omega, pTl_step b4] at yy
  refine ⟨c5.1, by omega, by omega, fun _ => ⟨by omega, ?_⟩, fun c => absurd c (by omega)⟩
  rw [c5.2]
  rw [hw, show n21 = n1 + 1 by omega, show (4 - (n1 + 1)).toNat = (3 - n1).toNat by omega]
  exact yy
def g_230w_22_13 : vG := ([(1219, [2], [6, 7], 0), (31, [23], [], 0), (1216, [23, 2, 22], [5, 6], 0), (0, [22], [], 5), (10, [21, 4], [], 1), (80, [15, 20, 13], [5, 4], 0), (0, [15], [], 305), (30, [14], [], 0), (1223, [13, 2, 11, 12], [3, 4], 0), (0, [12], [], 400), (0, [11], [], 0), (1217, [2, 10], [2, 3], 0), (0, [10], [], 2), (40, [4, 9], [], 0), (0, [9], [], 4), (31, [8], [], 0), (1216, [8, 2, 7], [1, 2], 0), (0, [7], [], 2), (30, [6], [], 0), (31, [5], [], 0), (5000, [0, 1, 2, 3, 4, 5], [0, 1], 22), (90, [4], [], 0), (91, [4], [], 5), (90, [5], [], 0), (91, [5], [], 1)], (4000, [2, 3, 21, 23], [7], 22))
theorem c_230w_22_13 {q0 : Nat} : vOkm T0 (eN e_230 L_230w A_230 mu_230 n_230 B_230 (some q0)) 2 g_230w_22_13 := vOk_inI fun ρ η f0 f1 f2 f3 f4 f5 f6 f7 f8 f9 f10 f11 f12 f13 f14 f15 f16 f17 f18 f19 f20 f21 f22 f23 f24 => q_230w_14 (q0 := q0) (n0 := ρ 5) (n1 := ρ 4) (n2 := ρ 3) (n3 := ρ 2) (n4 := ρ 1) (n5 := ρ 0) (n6 := ρ 6) (n7 := ρ 7) (n8 := ρ 8) (n9 := ρ 9) (n10 := ρ 10) (n11 := ρ 11) (n12 := ρ 12) (n13 := ρ 13) (n14 := ρ 14) (n15 := ρ 15) (n20 := ρ 20) (n21 := ρ 21) (n22 := ρ 22) (n23 := ρ 23) (H0 := η 0) (H1 := η 1) (H2 := η 2) (H3 := η 3) (H4 := η 4) (H5 := η 5) (H6 := η 6) (H7 := η 7) f24 f23 f22 f21 f20 f19 f18 f17 f16 f15 f14 f13 f12 f11 f10 f9 f8 f7 f6 f5 f4 f3 f2 f1 f0
def p_230w_22 : List vG := [g_230w_22_0,
  g_230w_22_1,
  g_230w_22_2,
  g_230w_22_3,
  g_230w_22_4,
  g_230w_22_5,
  g_230w_22_6,
  g_230w_22_7,
  g_230w_22_8,
  g_230w_22_9,
  g_230w_22_10,
  g_230w_22_11,
  g_230w_22_12,
  g_230w_22_13]
theorem r_230w_22 : vCovBO (eRc e_230 L_230 cs_230 2000 (22, [(0, (3, 12, 285, 0)), (1, (0, 0, 1007, 0)), (2, (0, 0, 5, 0)), (3, (0, 0, 1, 0))])) p_230w_22 = true := by decide +kernel
theorem m_230w (d : Nat) : eC e_230w (d + 5) := eC_ref (e := e_230) (L := L_230) (L' := L_230w) (cs := cs_230) (n := 2000) (d := d + 4) (A := A_230) (μ := mu_230) (tp := false) (p0 := p_230_s) (p1 := p_230w_s) (N := n_230) (B := B_230) rfl ⟨m_216 (d + 3), ⟨m_217w (d + 3), ⟨m_219w (d + 2), ⟨m_220w (d + 1), ⟨m_223w d, trivial⟩⟩⟩⟩⟩ rfl (.inl rfl) (by decide +kernel) (fun z => nomatch z) r_230_s (allC c_230_s_0 allN) (allC (.inl ⟨p_230_22, r_230_22, fun q0 => (allC c_230_22_0 (allC c_230_22_1 (allC c_230_22_2 (allC c_230_22_3 (allC c_230_22_4 (allC c_230_22_5 (allC c_230_22_6 (allC c_230_22_7 (allC c_230_22_8 (allC c_230_22_9 (allC c_230_22_10 (allC c_230_22_11 (allC c_230_22_12 (allC c_230_22_13 (allC c_230_22_14 (allC c_230_22_15 (allC c_230_22_16 (allC c_230_22_17 (allC c_230_22_18 (allC c_230_22_19 (allC c_230_22_20 (allC c_230_22_21 (allC c_230_22_22 (allC c_230_22_23 (allC c_230_22_24 (allC c_230_22_25 (allC c_230_22_26 (allC c_230_22_27 (allC c_230_22_28 (allC c_230_22_29 (allC c_230_22_30 (allC c_230_22_31 (allC c_230_22_32 (allC c_230_22_33 (allC c_230_22_34 (allC c_230_22_35 (allC c_230_22_36 (allC c_230_22_37 (allC c_230_22_38 (allC c_230_22_39 (allC c_230_22_40 (allC c_230_22_41 (allC c_230_22_42 allN)))))))))))))))))))))))))))))))))))))))))))⟩) allN) (sub0 (sub1 (sub1 (sub1 (sub1 trivial))))) r_230w_s (allC c_230w_s_0 allN) (allC ⟨p_230w_22, r_230w_22, fun q0 => (allC c_230w_22_0 (allC c_230w_22_1 (allC c_230w_22_2 (allC c_230w_22_3 (allC c_230w_22_4 (allC c_230w_22_5 (allC c_230w_22_6 (allC c_230w_22_7 (allC c_230w_22_8 (allC c_230w_22_9 (allC c_230w_22_10 (allC c_230w_22_11 (allC c_230w_22_12 (allC c_230w_22_13 allN))))))))))))))⟩ allN)
