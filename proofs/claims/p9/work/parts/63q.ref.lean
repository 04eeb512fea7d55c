/- MixStageModel.more (JI)J, more fully -/
def nb_211 (r a0 a1 : Int) (h0 h : gH) : Prop := (a1 = 0 → r = a0) ∧ (¬ a1 = 0 → 0 ≤ a0 → a0 < 1099511627776 → 97 ≤ a1 → a1 ≤ 122 → r = a0 * 27 + (a1 - 96))
def n_211 : List Int → gH → gH → Prop := fun xs h0 h => match xs with
  | [r, a0, a1] => nb_211 r a0 a1 h0 h
  | _ => True
noncomputable def e_211w : vE := eV e_211 n_211
noncomputable def L_211w : List vE := []
def B_211 : Int → List Int → gH → gH → Prop := fun c xs h0 h => True
theorem q_211w_0 {n0 n1 n2 n3 n4 n5 n6 n7 n8 n9 : Int} {H0 : gH} (f0 : n0 ≠ 0) (f1 : n2 = 27) (f2 : n3 = o64 (fun x y => x * y) n2 n1) (f3 : n4 = 97) (f4 : n5 = w32 (n0 - n4)) (f5 : n6 = 1) (f6 : n7 = w32 (n5 + n6)) (f7 : n8 = n7) (f8 : n9 = o64 (fun x y => x + y) n3 n8) : nb_211 n9 n1 n0 H0 H0 := by
  unfold nb_211
  have q3 := f0
  have l10 := f7
  have l5 := f2
  rw [f1] at l5
  have l11 := f8
  refine ⟨fun c => absurd c (by omega), fun _ h1 h2 h3 h4 => ?_⟩
  have s7 : n5 = n0 - 97 := by
    have q := f4
    rw [f3] at q
    rw [q]
    exact w32_id (by omega) (by omega)
  have s9 : n7 = n5 + 1 := by
    have q := f6
    rw [f5] at q
    rw [q]
    exact w32_id (by omega) (by omega)
  have m0 : n3 = 27 * n1 := by
    rw [l5]
    exact o64_mul (by omega) (by omega)
  rw [l11, o64_add (by omega) (by omega)]
  omega
def g_211w_s_0 : vG := ([(61, [9, 3, 8], [], 0), (17, [8, 7], [], 0), (1, [7, 5, 6], [], 0), (0, [6], [], 1), (2, [5, 1, 4], [], 0), (0, [4], [], 97), (63, [3, 2, 0], [], 0), (0, [2], [], 27), (31, [1], [], 0)], (3000, [9], [0], 21))
theorem c_211w_s_0 : vOkm T0 (eN e_211 L_211w A_211 mu_211 n_211 B_211 none) 2 g_211w_s_0 := vOk_inI fun ρ η f0 f1 f2 f3 f4 f5 f6 f7 f8 => q_211w_0 (n0 := ρ 1) (n1 := ρ 0) (n2 := ρ 2) (n3 := ρ 3) (n4 := ρ 4) (n5 := ρ 5) (n6 := ρ 6) (n7 := ρ 7) (n8 := ρ 8) (n9 := ρ 9) (H0 := η 0) f8 f7 f6 f5 f4 f3 f2 f1 f0
theorem q_211w_1 {n0 n1 : Int} {H0 : gH} (f0 : n0 = 0) : nb_211 n1 n1 n0 H0 H0 := by
  unfold nb_211
  have q3 := f0
  exact ⟨fun _ => rfl, fun c => absurd (by first | assumption | omega) c⟩
def g_211w_s_1 : vG := ([(30, [1], [], 0)], (3000, [0], [0], 21))
theorem c_211w_s_1 : vOkm T0 (eN e_211 L_211w A_211 mu_211 n_211 B_211 none) 2 g_211w_s_1 := vOk_inI fun ρ η f0 => q_211w_1 (n0 := ρ 1) (n1 := ρ 0) (H0 := η 0) f0
def p_211w_s : List vG := [g_211w_s_0,
  g_211w_s_1]
theorem r_211w_s : vCovBO (eR0 e_211 L_211 cs_211 2000) p_211w_s = true := by decide +kernel
theorem m_211w (d : Nat) : eC e_211w (d + 1) := eC_ref (e := e_211) (L := L_211) (L' := L_211w) (cs := cs_211) (n := 2000) (d := d + 0) (A := A_211) (μ := mu_211) (tp := true) (p0 := p_211_s) (p1 := p_211w_s) (N := n_211) (B := B_211) rfl trivial rfl (.inr pre0_ok) (by decide +kernel) (fun _ => post0_ok) r_211_s allN allN trivial r_211w_s (allC c_211w_s_0 (allC c_211w_s_1 allN)) allN
/- MixStageModel.token (IIIJ)V, more fully -/
def nb_213 (a0 a1 a2 a3 a4 : Int) (h0 h : gH) : Prop := NTr a1 a2 a3 a4 h0 h
def n_213 : List Int → gH → gH → Prop := fun xs h0 h => match xs with
  | [a0, a1, a2, a3, a4] => nb_213 a0 a1 a2 a3 a4 h0 h
  | _ => True
noncomputable def e_213w : vE := eV e_213 n_213
noncomputable def L_213w : List vE := []
def B_213 : Int → List Int → gH → gH → Prop := fun c xs h0 h => True
theorem q_213w_0 {n0 n1 n2 n3 n4 n5 n6 n7 n8 n9 n10 n11 n12 n13 n14 n15 n16 : Int} {H0 H1 H2 H3 H4 H5 : gH} (f0 : n3 = 285) (f1 : hWt T0 H0 ∧ preb_213 n3 n2 n1 n0 n4 H0) (f2 : n5 = 288) (f3 : n6 = hV H0 (n3).toNat 10) (f4 : hUpd H1 H0 n5 n6 n2) (f5 : n7 = 289) (f6 : n8 = hV H1 (n3).toNat 10) (f7 : hUpd H2 H1 n7 n8 n1) (f8 : n9 = 290) (f9 : n10 = hV H2 (n3).toNat 10) (f10 : hUpd H3 H2 n9 n10 n0) (f11 : n11 = 291) (f12 : n12 = hV H3 (n3).toNat 10) (f13 : hUpd H4 H3 n11 n12 n4) (f14 : n13 = hV H4 (n3).toNat 10) (f15 : n14 = 1) (f16 : n15 = w32 (n13 + n14)) (f17 : n16 = 10) (f18 : hUpd H5 H4 n3 n16 n15) : nb_213 n3 n2 n1 n0 n4 H0 H5 := by
  unfold nb_213 NTr
  have d14 := rdS (q := 285) f3 f0
  have d23 := rdS (q := 285) f6 f0
  have d32 := rdS (q := 285) f9 f0
  have d41 := rdS (q := 285) f12 f0
  have d47 := rdS (q := 285) f14 f0
  have pr := f1.2
  unfold preb_213 at pr
  have b10 := f1.1 285 10 _ _ rW_10
  have e0 : n6 = hV H0 285 10 := d14.trans (rfl)
  have e1 : n8 = hV H0 285 10 := d23.trans (uPlace f4 285 10 (by rw [f2]; decide))
  have e2 : n10 = hV H0 285 10 := d32.trans ((uPlace f7 285 10 (by rw [f5]; decide)).trans (uPlace f4 285 10 (by rw [f2]; decide)))
  have e3 : n12 = hV H0 285 10 := d41.trans ((uPlace f10 285 10 (by rw [f8]; decide)).trans ((uPlace f7 285 10 (by rw [f5]; decide)).trans (uPlace f4 285 10 (by rw [f2]; decide))))
  have e4 : n13 = hV H0 285 10 := d47.trans ((uPlace f13 285 10 (by rw [f11]; decide)).trans ((uPlace f10 285 10 (by rw [f8]; decide)).trans ((uPlace f7 285 10 (by rw [f5]; decide)).trans (uPlace f4 285 10 (by rw [f2]; decide)))))
  have s49 : n15 = n13 + 1 := by
    have q := f16
    rw [f15] at q
    rw [q]
    exact w32_id (by omega) (by omega)
  have u288 : hV H1 288 = uF (hV H0 288) n6 n2 := uRow f4 288 f2.symm
  have x288 : hV H5 288 = hV H1 288 := (uRowNe f18 288 (by rw [f0]; decide)).trans ((uRowNe f13 288 (by rw [f11]; decide)).trans ((uRowNe f10 288 (by rw [f8]; decide)).trans (uRowNe f7 288 (by rw [f5]; decide))))
  have y288 : hV H0 288 = hV H0 288 := rfl
  have u289 : hV H2 289 = uF (hV H1 289) n8 n1 := uRow f7 289 f5.symm
  have x289 : hV H5 289 = hV H2 289 := (uRowNe f18 289 (by rw [f0]; decide)).trans ((uRowNe f13 289 (by rw [f11]; decide)).trans (uRowNe f10 289 (by rw [f8]; decide)))
  have y289 : hV H1 289 = hV H0 289 := uRowNe f4 289 (by rw [f2]; decide)
  have u290 : hV H3 290 = uF (hV H2 290) n10 n0 := uRow f10 290 f8.symm
  have x290 : hV H5 290 = hV H3 290 := (uRowNe f18 290 (by rw [f0]; decide)).trans (uRowNe f13 290 (by rw [f11]; decide))
  have y290 : hV H2 290 = hV H0 290 := (uRowNe f7 290 (by rw [f5]; decide)).trans (uRowNe f4 290 (by rw [f2]; decide))
  have u291 : hV H4 291 = uF (hV H3 291) n12 n4 := uRow f13 291 f11.symm
  have x291 : hV H5 291 = hV H4 291 := uRowNe f18 291 (by rw [f0]; decide)
  have y291 : hV H3 291 = hV H0 291 := (uRowNe f10 291 (by rw [f8]; decide)).trans ((uRowNe f7 291 (by rw [f5]; decide)).trans (uRowNe f4 291 (by rw [f2]; decide)))
  have h10 : hV H5 285 10 = n15 := uSame f18 285 10 (by rw [f0]; rfl) (by rw [f17]; rfl)
  refine ⟨by omega, ?_, ?_, ?_, ?_⟩
  · rw [x288, u288, y288, e0]
  · rw [x289, u289, y289, e1]
  · rw [x290, u290, y290, e2]
  · rw [x291, u291, y291, e3]

def g_213w_s_0 : vG := ([(80, [0, 16, 15], [5, 4], 0), (0, [16], [], 10), (1, [15, 13, 14], [], 0), (0, [14], [], 1), (20, [13, 0], [4], 10), (80, [11, 12, 4], [4, 3], 1), (20, [12, 0], [3], 10), (0, [11], [], 291), (80, [9, 10, 3], [3, 2], 0), (20, [10, 0], [2], 10), (0, [9], [], 290), (80, [7, 8, 2], [2, 1], 0), (20, [8, 0], [1], 10), (0, [7], [], 289), (80, [5, 6, 1], [1, 0], 0), (20, [6, 0], [0], 10), (0, [5], [], 288), (6000, [0, 1, 2, 3, 4], [0], 0), (0, [0], [], 285)], (3000, [], [5], 51))
theorem c_213w_s_0 : vOkm T0 (eN e_213 L_213w A_213 mu_213 n_213 B_213 none) 5 g_213w_s_0 := vOk_inI fun ρ η f0 f1 f2 f3 f4 f5 f6 f7 f8 f9 f10 f11 f12 f13 f14 f15 f16 f17 f18 => q_213w_0 (n0 := ρ 3) (n1 := ρ 2) (n2 := ρ 1) (n3 := ρ 0) (n4 := ρ 4) (n5 := ρ 5) (n6 := ρ 6) (n7 := ρ 7) (n8 := ρ 8) (n9 := ρ 9) (n10 := ρ 10) (n11 := ρ 11) (n12 := ρ 12) (n13 := ρ 13) (n14 := ρ 14) (n15 := ρ 15) (n16 := ρ 16) (H0 := η 0) (H1 := η 1) (H2 := η 2) (H3 := η 3) (H4 := η 4) (H5 := η 5) f18 f17 f16 f15 f14 f13 f12 f11 f10 f9 f8 f7 f6 f5 f4 f3 f2 f1 f0
def p_213w_s : List vG := [g_213w_s_0]
theorem r_213w_s : vCovBO (eR0 e_213 L_213 cs_213 2000) p_213w_s = true := by decide +kernel
theorem m_213w (d : Nat) : eC e_213w (d + 1) := eC_ref (e := e_213) (L := L_213) (L' := L_213w) (cs := cs_213) (n := 2000) (d := d + 0) (A := A_213) (μ := mu_213) (tp := false) (p0 := p_213_s) (p1 := p_213w_s) (N := n_213) (B := B_213) rfl trivial rfl (.inl rfl) (by decide +kernel) (fun z => nomatch z) r_213_s (allC c_213_s_0 (allC c_213_s_1 (allC c_213_s_2 allN))) allN trivial r_213w_s (allC c_213w_s_0 allN) allN
/- MixStageModel.sign (III)I, more fully -/
def nb_215 (r a0 a1 a2 a3 : Int) (h0 h : gH) : Prop := ∃ k : Int, NTr k a1 0 0 h0 h ∧ (((a3 = 61 ∧ ¬ sg2 a2 = 1) ∧ km k = sg2 a2 ∧ r = 2) ∨ (¬ (a3 = 61 ∧ ¬ sg2 a2 = 1) ∧ km k = sg1 a2 ∧ r = 1)) ∧ ¬ k = 1 ∧ ¬ k = 2
def n_215 : List Int → gH → gH → Prop := fun xs h0 h => match xs with
  | [r, a0, a1, a2, a3] => nb_215 r a0 a1 a2 a3 h0 h
  | _ => True
noncomputable def e_215w : vE := eV e_215 n_215
noncomputable def L_215w : List vE := [e_213w]
def Bb_215_46 (a0 a1 a2 a3 x0 x1 x2 x3 x4 : Int) (h0 h : gH) : Prop := TRs h0 h ∧ ((x4 = 0 ∧ ¬ (a3 = 61 ∧ ¬ sg2 a2 = 1)) ∨ (0 < x4 ∧ (a3 = 61 ∧ ¬ sg2 a2 = 1) ∧ km x4 = sg2 a2 ∧ ¬ x4 = 1 ∧ ¬ x4 = 2))
def Bb_215_173 (a0 a1 a2 a3 x0 x1 x2 x3 x4 x5 : Int) (h0 h : gH) : Prop := TRs h0 h ∧ ((0 < x4 ∧ (a3 = 61 ∧ ¬ sg2 a2 = 1) ∧ km x5 = sg2 a2) ∨ (x4 = 0 ∧ ¬ (a3 = 61 ∧ ¬ sg2 a2 = 1) ∧ km x5 = sg1 a2)) ∧ ¬ x5 = 1 ∧ ¬ x5 = 2
def B_215 : Int → List Int → gH → gH → Prop := fun c xs h0 h => match c.toNat with
  | 46 => (match xs with
    | [a0, a1, a2, a3, x0, x1, x2, x3, x4] => Bb_215_46 a0 a1 a2 a3 x0 x1 x2 x3 x4 h0 h
    | _ => False)
  | 173 => (match xs with
    | [a0, a1, a2, a3, x0, x1, x2, x3, x4, x5] => Bb_215_173 a0 a1 a2 a3 x0 x1 x2 x3 x4 x5 h0 h
    | _ => False)
  | _ => True
theorem q_215w_0 {n0 n1 n2 n3 n4 n5 n6 n7 n8 : Int} {H0 : gH} (f0 : n4 = 61) (f1 : n0 = n4) (f2 : n5 = 61) (f3 : n1 ≠ n5) (f4 : n6 = 33) (f5 : n1 ≠ n6) (f6 : n7 = 60) (f7 : n1 ≠ n7) (f8 : n8 = 0) : Bb_215_46 n3 n2 n1 n0 n3 n2 n1 n0 n8 H0 H0 := by
  unfold Bb_215_46
  have q9 := f1
  have qc8 := f0
  have q11 := f3
  have qc10 := f2
  have q13 := f5
  have qc12 := f4
  have q15 := f7
  have qc14 := f6
  have xc := f8
  refine ⟨TRs.refl _, .inl ⟨xc, fun y => ?_⟩⟩
  have y2 := y.2
  unfold sg2 at y2
  by_cases c3 : n0 = 61
  · rw [if_neg (by omega), if_neg (by omega), if_neg (by omega)] at y2
    exact y2 rfl
  · exact c3 y.1
def g_215w_s_0 : vG := ([(0, [8], [], 0), (41, [2, 7], [], 0), (0, [7], [], 60), (41, [2, 6], [], 0), (0, [6], [], 33), (41, [2, 5], [], 0), (0, [5], [], 61), (40, [3, 4], [], 0), (0, [4], [], 61)], (4000, [0, 1, 2, 3, 8], [0], 46))
theorem c_215w_s_0 : vOkm T0 (eN e_215 L_215w A_215 mu_215 n_215 B_215 none) 4 g_215w_s_0 := vOk_inI fun ρ η f0 f1 f2 f3 f4 f5 f6 f7 f8 => q_215w_0 (n0 := ρ 3) (n1 := ρ 2) (n2 := ρ 1) (n3 := ρ 0) (n4 := ρ 4) (n5 := ρ 5) (n6 := ρ 6) (n7 := ρ 7) (n8 := ρ 8) (H0 := η 0) f8 f7 f6 f5 f4 f3 f2 f1 f0
theorem q_215w_1 {n0 n1 n2 n3 n4 n5 n6 n7 n8 : Int} {H0 : gH} (f0 : n4 = 61) (f1 : n0 = n4) (f2 : n5 = 61) (f3 : n1 ≠ n5) (f4 : n6 = 33) (f5 : n1 ≠ n6) (f6 : n7 = 60) (f7 : n1 = n7) (f8 : n8 = 14) : Bb_215_46 n3 n2 n1 n0 n3 n2 n1 n0 n8 H0 H0 := by
  unfold Bb_215_46
  have q9 := f1
  have qc8 := f0
  have q11 := f3
  have qc10 := f2
  have q13 := f5
  have qc12 := f4
  have q15 := f7
  have qc14 := f6
  have xc := f8
  have e : sg2 n1 = 15 := by
    unfold sg2
    rw [if_neg (by omega), if_neg (by omega), if_pos (by omega)]
  rw [e, xc]
  exact ⟨TRs.refl _, .inr ⟨by decide, ⟨by omega, by decide⟩, by decide, by decide, by decide⟩⟩
def g_215w_s_1 : vG := ([(0, [8], [], 14), (40, [2, 7], [], 0), (0, [7], [], 60), (41, [2, 6], [], 0), (0, [6], [], 33), (41, [2, 5], [], 0), (0, [5], [], 61), (40, [3, 4], [], 0), (0, [4], [], 61)], (4000, [0, 1, 2, 3, 8], [0], 46))
theorem c_215w_s_1 : vOkm T0 (eN e_215 L_215w A_215 mu_215 n_215 B_215 none) 4 g_215w_s_1 := vOk_inI fun ρ η f0 f1 f2 f3 f4 f5 f6 f7 f8 => q_215w_1 (n0 := ρ 3) (n1 := ρ 2) (n2 := ρ 1) (n3 := ρ 0) (n4 := ρ 4) (n5 := ρ 5) (n6 := ρ 6) (n7 := ρ 7) (n8 := ρ 8) (H0 := η 0) f8 f7 f6 f5 f4 f3 f2 f1 f0
theorem q_215w_2 {n0 n1 n2 n3 n4 n5 n6 n7 : Int} {H0 : gH} (f0 : n4 = 61) (f1 : n0 = n4) (f2 : n5 = 61) (f3 : n1 ≠ n5) (f4 : n6 = 33) (f5 : n1 = n6) (f6 : n7 = 12) : Bb_215_46 n3 n2 n1 n0 n3 n2 n1 n0 n7 H0 H0 := by
  unfold Bb_215_46
  have q9 := f1
  have qc8 := f0
  have q11 := f3
  have qc10 := f2
  have q13 := f5
  have qc12 := f4
  have xc := f6
  have e : sg2 n1 = 13 := by
    unfold sg2
    rw [if_neg (by omega), if_pos (by omega)]
  rw [e, xc]
  exact ⟨TRs.refl _, .inr ⟨by decide, ⟨by omega, by decide⟩, by decide, by decide, by decide⟩⟩
def g_215w_s_2 : vG := ([(0, [7], [], 12), (40, [2, 6], [], 0), (0, [6], [], 33), (41, [2, 5], [], 0), (0, [5], [], 61), (40, [3, 4], [], 0), (0, [4], [], 61)], (4000, [0, 1, 2, 3, 7], [0], 46))
theorem c_215w_s_2 : vOkm T0 (eN e_215 L_215w A_215 mu_215 n_215 B_215 none) 4 g_215w_s_2 := vOk_inI fun ρ η f0 f1 f2 f3 f4 f5 f6 => q_215w_2 (n0 := ρ 3) (n1 := ρ 2) (n2 := ρ 1) (n3 := ρ 0) (n4 := ρ 4) (n5 := ρ 5) (n6 := ρ 6) (n7 := ρ 7) (H0 := η 0) f6 f5 f4 f3 f2 f1 f0
theorem q_215w_3 {n0 n1 n2 n3 n4 n5 n6 : Int} {H0 : gH} (f0 : n4 = 61) (f1 : n0 = n4) (f2 : n5 = 61) (f3 : n1 = n5) (f4 : n6 = 11) : Bb_215_46 n3 n2 n1 n0 n3 n2 n1 n0 n6 H0 H0 := by
  unfold Bb_215_46
  have q9 := f1
  have qc8 := f0
  have q11 := f3
  have qc10 := f2
  have xc := f4
  have e : sg2 n1 = 12 := by
    unfold sg2
    rw [if_pos (by omega)]
  rw [e, xc]
  exact ⟨TRs.refl _, .inr ⟨by decide, ⟨by omega, by decide⟩, by decide, by decide, by decide⟩⟩
def g_215w_s_3 : vG := ([(0, [6], [], 11), (40, [2, 5], [], 0), (0, [5], [], 61), (40, [3, 4], [], 0), (0, [4], [], 61)], (4000, [0, 1, 2, 3, 6], [0], 46))
theorem c_215w_s_3 : vOkm T0 (eN e_215 L_215w A_215 mu_215 n_215 B_215 none) 4 g_215w_s_3 := vOk_inI fun ρ η f0 f1 f2 f3 f4 => q_215w_3 (n0 := ρ 3) (n1 := ρ 2) (n2 := ρ 1) (n3 := ρ 0) (n4 := ρ 4) (n5 := ρ 5) (n6 := ρ 6) (H0 := η 0) f4 f3 f2 f1 f0
theorem q_215w_4 {n0 n1 n2 n3 n4 n5 : Int} {H0 : gH} (f0 : n4 = 61) (f1 : n0 ≠ n4) (f2 : n5 = 0) : Bb_215_46 n3 n2 n1 n0 n3 n2 n1 n0 n5 H0 H0 := by
  unfold Bb_215_46
  have q9 := f1
  have qc8 := f0
  have xc := f2
  refine ⟨TRs.refl _, .inl ⟨xc, fun y => ?_⟩⟩
  have y2 := y.2
  unfold sg2 at y2
  by_cases c3 : n0 = 61
  · rw [if_neg (by omega), if_neg (by omega), if_neg (by omega)] at y2
    exact y2 rfl
  · exact c3 y.1
def g_215w_s_4 : vG := ([(0, [5], [], 0), (41, [3, 4], [], 0), (0, [4], [], 61)], (4000, [0, 1, 2, 3, 5], [0], 46))
theorem c_215w_s_4 : vOkm T0 (eN e_215 L_215w A_215 mu_215 n_215 B_215 none) 4 g_215w_s_4 := vOk_inI fun ρ η f0 f1 f2 => q_215w_4 (n0 := ρ 3) (n1 := ρ 2) (n2 := ρ 1) (n3 := ρ 0) (n4 := ρ 4) (n5 := ρ 5) (H0 := η 0) f2 f1 f0
def p_215w_s : List vG := [g_215w_s_0,
  g_215w_s_1,
  g_215w_s_2,
  g_215w_s_3,
  g_215w_s_4]
theorem r_215w_s : vCovBO (eR0 e_215 L_215 cs_215 2000) p_215w_s = true := by decide +kernel
theorem q_215w_5 {q0 : Nat} {n0 n1 n2 n3 n4 n5 n6 n7 n8 n9 n10 n11 n12 n13 n14 n15 n16 n17 n18 : Int} {H0 H1 : gH} (f0 : n0 ≤ 14) (f1 : 0 ≤ n0) (f2 : (hLe T0 H0 H1 ∧ hFr s_215.2.2.2.2 H0 H1 ∧ hWt T0 H1) ∧ ((Ab_215_46 n8 n7 n6 n5 n4 n3 n2 n1 n0 H0 H1 ∧ Bb_215_46 n8 n7 n6 n5 n4 n3 n2 n1 n0 H0 H1) ∧ preb_215 n8 n7 n6 n5 H0) ∧ some q0 = some (mub_215_46 n8 n7 n6 n5 n4 n3 n2 n1 n0 H0 H1)) (f3 : n9 = 3) (f4 : n0 ≤ 0) (f5 : n10 = 59) (f6 : n2 ≠ n10) (f7 : n11 = 40) (f8 : n2 ≠ n11) (f9 : n12 = 41) (f10 : n2 ≠ n12) (f11 : n13 = 43) (f12 : n2 ≠ n13) (f13 : n14 = 45) (f14 : n2 ≠ n14) (f15 : n15 = 42) (f16 : n2 ≠ n15) (f17 : n16 = 60) (f18 : n2 ≠ n16) (f19 : n17 = 44) (f20 : n2 ≠ n17) (f21 : n18 = 47) (f22 : n2 ≠ n18) : Bb_215_173 n8 n7 n6 n5 n4 n3 n2 n1 n0 n9 H0 H1 := by
  unfold Bb_215_173
  have ab := f2.2.1.1.1
  unfold Ab_215_46 at ab
  obtain ⟨e1, e2, e3, _⟩ := ab
  have ga := f2.2.1.1.2
  unfold Bb_215_46 at ga
  have q18 := f4
  have q20 := f6
  have qc19 := f5
  have q22 := f8
  have qc21 := f7
  have q24 := f10
  have qc23 := f9
  have q26 := f12
  have qc25 := f11
  have q28 := f14
  have qc27 := f13
  have q30 := f16
  have qc29 := f15
  have q32 := f18
  have qc31 := f17
  have q34 := f20
  have qc33 := f19
  have q36 := f22
  have qc35 := f21
  obtain ⟨tr, k⟩ := ga
  have xc := f3
  have rg0 := f0
  have rg1 := f1
  have e : sg1 n6 = 1 := by
    unfold sg1
    rw [if_neg (by omega), if_neg (by omega), if_neg (by omega), if_neg (by omega), if_neg (by omega), if_neg (by omega), if_neg (by omega), if_neg (by omega), if_neg (by omega)]
  have w := k.resolve_right (by omega)
  rw [e, xc]
  exact ⟨tr, .inr ⟨w.1, w.2, by decide⟩, by decide, by decide⟩
def g_215w_46_0 : vG := ([(41, [6, 18], [], 0), (0, [18], [], 47), (41, [6, 17], [], 0), (0, [17], [], 44), (41, [6, 16], [], 0), (0, [16], [], 60), (41, [6, 15], [], 0), (0, [15], [], 42), (41, [6, 14], [], 0), (0, [14], [], 45), (41, [6, 13], [], 0), (0, [13], [], 43), (41, [6, 12], [], 0), (0, [12], [], 41), (41, [6, 11], [], 0), (0, [11], [], 40), (41, [6, 10], [], 0), (0, [10], [], 59), (35, [8], [], 0), (0, [9], [], 3), (5000, [0, 1, 2, 3, 4, 5, 6, 7, 8], [0, 1], 46), (90, [8], [], 0), (91, [8], [], 14)], (4000, [4, 5, 6, 7, 8, 9], [1], 173))
theorem c_215w_46_0 {q0 : Nat} : vOkm T0 (eN e_215 L_215w A_215 mu_215 n_215 B_215 (some q0)) 4 g_215w_46_0 := vOk_inI fun ρ η f0 f1 f2 f3 f4 f5 f6 f7 f8 f9 f10 f11 f12 f13 f14 f15 f16 f17 f18 f19 f20 f21 f22 => q_215w_5 (q0 := q0) (n0 := ρ 8) (n1 := ρ 7) (n2 := ρ 6) (n3 := ρ 5) (n4 := ρ 4) (n5 := ρ 3) (n6 := ρ 2) (n7 := ρ 1) (n8 := ρ 0) (n9 := ρ 9) (n10 := ρ 10) (n11 := ρ 11) (n12 := ρ 12) (n13 := ρ 13) (n14 := ρ 14) (n15 := ρ 15) (n16 := ρ 16) (n17 := ρ 17) (n18 := ρ 18) (H0 := η 0) (H1 := η 1) f22 f21 f20 f19 f18 f17 f16 f15 f14 f13 f12 f11 f10 f9 f8 f7 f6 f5 f4 f3 f2 f1 f0
theorem q_215w_6 {q0 : Nat} {n0 n1 n2 n3 n4 n5 n6 n7 n8 n10 n11 n12 n13 n14 n15 n16 n17 n18 n19 : Int} {H0 H1 : gH} (f0 : n0 ≤ 14) (f1 : 0 ≤ n0) (f2 : (hLe T0 H0 H1 ∧ hFr s_215.2.2.2.2 H0 H1 ∧ hWt T0 H1) ∧ ((Ab_215_46 n8 n7 n6 n5 n4 n3 n2 n1 n0 H0 H1 ∧ Bb_215_46 n8 n7 n6 n5 n4 n3 n2 n1 n0 H0 H1) ∧ preb_215 n8 n7 n6 n5 H0) ∧ some q0 = some (mub_215_46 n8 n7 n6 n5 n4 n3 n2 n1 n0 H0 H1)) (f3 : n0 ≤ 0) (f4 : n10 = 59) (f5 : n2 ≠ n10) (f6 : n11 = 40) (f7 : n2 ≠ n11) (f8 : n12 = 41) (f9 : n2 ≠ n12) (f10 : n13 = 43) (f11 : n2 ≠ n13) (f12 : n14 = 45) (f13 : n2 ≠ n14) (f14 : n15 = 42) (f15 : n2 ≠ n15) (f16 : n16 = 60) (f17 : n2 ≠ n16) (f18 : n17 = 44) (f19 : n2 ≠ n17) (f20 : n18 = 47) (f21 : n2 = n18) (f22 : n19 = 15) : Bb_215_173 n8 n7 n6 n5 n4 n3 n2 n1 n0 n19 H0 H1 := by
  unfold Bb_215_173
  have ab := f2.2.1.1.1
  unfold Ab_215_46 at ab
  obtain ⟨e1, e2, e3, _⟩ := ab
  have ga := f2.2.1.1.2
  unfold Bb_215_46 at ga
  have q18 := f3
  have q20 := f5
  have qc19 := f4
  have q22 := f7
  have qc21 := f6
  have q24 := f9
  have qc23 := f8
  have q26 := f11
  have qc25 := f10
  have q28 := f13
  have qc27 := f12
  have q30 := f15
  have qc29 := f14
  have q32 := f17
  have qc31 := f16
  have q34 := f19
  have qc33 := f18
  have q36 := f21
  have qc35 := f20
  obtain ⟨tr, k⟩ := ga
  have xc := f22
  have rg0 := f0
  have rg1 := f1
  have e : sg1 n6 = 9 := by
    unfold sg1
    rw [if_neg (by omega), if_neg (by omega), if_neg (by omega), if_neg (by omega), if_neg (by omega), if_pos (by omega)]
  have w := k.resolve_right (by omega)
  rw [e, xc]
  exact ⟨tr, .inr ⟨w.1, w.2, by decide⟩, by decide, by decide⟩
def g_215w_46_1 : vG := ([(0, [19], [], 15), (40, [6, 18], [], 0), (0, [18], [], 47), (41, [6, 17], [], 0), (0, [17], [], 44), (41, [6, 16], [], 0), (0, [16], [], 60), (41, [6, 15], [], 0), (0, [15], [], 42), (41, [6, 14], [], 0), (0, [14], [], 45), (41, [6, 13], [], 0), (0, [13], [], 43), (41, [6, 12], [], 0), (0, [12], [], 41), (41, [6, 11], [], 0), (0, [11], [], 40), (41, [6, 10], [], 0), (0, [10], [], 59), (35, [8], [], 0), (5000, [0, 1, 2, 3, 4, 5, 6, 7, 8], [0, 1], 46), (90, [8], [], 0), (91, [8], [], 14)], (4000, [4, 5, 6, 7, 8, 19], [1], 173))
theorem c_215w_46_1 {q0 : Nat} : vOkm T0 (eN e_215 L_215w A_215 mu_215 n_215 B_215 (some q0)) 4 g_215w_46_1 := vOk_inI fun ρ η f0 f1 f2 f3 f4 f5 f6 f7 f8 f9 f10 f11 f12 f13 f14 f15 f16 f17 f18 f19 f20 f21 f22 => q_215w_6 (q0 := q0) (n0 := ρ 8) (n1 := ρ 7) (n2 := ρ 6) (n3 := ρ 5) (n4 := ρ 4) (n5 := ρ 3) (n6 := ρ 2) (n7 := ρ 1) (n8 := ρ 0) (n10 := ρ 10) (n11 := ρ 11) (n12 := ρ 12) (n13 := ρ 13) (n14 := ρ 14) (n15 := ρ 15) (n16 := ρ 16) (n17 := ρ 17) (n18 := ρ 18) (n19 := ρ 19) (H0 := η 0) (H1 := η 1) f22 f21 f20 f19 f18 f17 f16 f15 f14 f13 f12 f11 f10 f9 f8 f7 f6 f5 f4 f3 f2 f1 f0
theorem q_215w_7 {q0 : Nat} {n0 n1 n2 n3 n4 n5 n6 n7 n8 n10 n11 n12 n13 n14 n15 n16 n17 n18 : Int} {H0 H1 : gH} (f0 : n0 ≤ 14) (f1 : 0 ≤ n0) (f2 : (hLe T0 H0 H1 ∧ hFr s_215.2.2.2.2 H0 H1 ∧ hWt T0 H1) ∧ ((Ab_215_46 n8 n7 n6 n5 n4 n3 n2 n1 n0 H0 H1 ∧ Bb_215_46 n8 n7 n6 n5 n4 n3 n2 n1 n0 H0 H1) ∧ preb_215 n8 n7 n6 n5 H0) ∧ some q0 = some (mub_215_46 n8 n7 n6 n5 n4 n3 n2 n1 n0 H0 H1)) (f3 : n0 ≤ 0) (f4 : n10 = 59) (f5 : n2 ≠ n10) (f6 : n11 = 40) (f7 : n2 ≠ n11) (f8 : n12 = 41) (f9 : n2 ≠ n12) (f10 : n13 = 43) (f11 : n2 ≠ n13) (f12 : n14 = 45) (f13 : n2 ≠ n14) (f14 : n15 = 42) (f15 : n2 ≠ n15) (f16 : n16 = 60) (f17 : n2 ≠ n16) (f18 : n17 = 44) (f19 : n2 = n17) (f20 : n18 = 5) : Bb_215_173 n8 n7 n6 n5 n4 n3 n2 n1 n0 n18 H0 H1 := by
  unfold Bb_215_173
  have ab := f2.2.1.1.1
  unfold Ab_215_46 at ab
  obtain ⟨e1, e2, e3, _⟩ := ab
  have ga := f2.2.1.1.2
  unfold Bb_215_46 at ga
  have q18 := f3
  have q20 := f5
  have qc19 := f4
  have q22 := f7
  have qc21 := f6
  have q24 := f9
  have qc23 := f8
  have q26 := f11
  have qc25 := f10
  have q28 := f13
  have qc27 := f12
  have q30 := f15
  have qc29 := f14
  have q32 := f17
  have qc31 := f16
  have q34 := f19
  have qc33 := f18
  obtain ⟨tr, k⟩ := ga
  have xc := f20
  have rg0 := f0
  have rg1 := f1
  have e : sg1 n6 = 5 := by
    unfold sg1
    rw [if_neg (by omega), if_pos (by omega)]
  have w := k.resolve_right (by omega)
  rw [e, xc]
  exact ⟨tr, .inr ⟨w.1, w.2, by decide⟩, by decide, by decide⟩
def g_215w_46_2 : vG := ([(0, [18], [], 5), (40, [6, 17], [], 0), (0, [17], [], 44), (41, [6, 16], [], 0), (0, [16], [], 60), (41, [6, 15], [], 0), (0, [15], [], 42), (41, [6, 14], [], 0), (0, [14], [], 45), (41, [6, 13], [], 0), (0, [13], [], 43), (41, [6, 12], [], 0), (0, [12], [], 41), (41, [6, 11], [], 0), (0, [11], [], 40), (41, [6, 10], [], 0), (0, [10], [], 59), (35, [8], [], 0), (5000, [0, 1, 2, 3, 4, 5, 6, 7, 8], [0, 1], 46), (90, [8], [], 0), (91, [8], [], 14)], (4000, [4, 5, 6, 7, 8, 18], [1], 173))
theorem c_215w_46_2 {q0 : Nat} : vOkm T0 (eN e_215 L_215w A_215 mu_215 n_215 B_215 (some q0)) 4 g_215w_46_2 := vOk_inI fun ρ η f0 f1 f2 f3 f4 f5 f6 f7 f8 f9 f10 f11 f12 f13 f14 f15 f16 f17 f18 f19 f20 => q_215w_7 (q0 := q0) (n0 := ρ 8) (n1 := ρ 7) (n2 := ρ 6) (n3 := ρ 5) (n4 := ρ 4) (n5 := ρ 3) (n6 := ρ 2) (n7 := ρ 1) (n8 := ρ 0) (n10 := ρ 10) (n11 := ρ 11) (n12 := ρ 12) (n13 := ρ 13) (n14 := ρ 14) (n15 := ρ 15) (n16 := ρ 16) (n17 := ρ 17) (n18 := ρ 18) (H0 := η 0) (H1 := η 1) f20 f19 f18 f17 f16 f15 f14 f13 f12 f11 f10 f9 f8 f7 f6 f5 f4 f3 f2 f1 f0
theorem q_215w_8 {q0 : Nat} {n0 n1 n2 n3 n4 n5 n6 n7 n8 n10 n11 n12 n13 n14 n15 n16 n17 : Int} {H0 H1 : gH} (f0 : n0 ≤ 14) (f1 : 0 ≤ n0) (f2 : (hLe T0 H0 H1 ∧ hFr s_215.2.2.2.2 H0 H1 ∧ hWt T0 H1) ∧ ((Ab_215_46 n8 n7 n6 n5 n4 n3 n2 n1 n0 H0 H1 ∧ Bb_215_46 n8 n7 n6 n5 n4 n3 n2 n1 n0 H0 H1) ∧ preb_215 n8 n7 n6 n5 H0) ∧ some q0 = some (mub_215_46 n8 n7 n6 n5 n4 n3 n2 n1 n0 H0 H1)) (f3 : n0 ≤ 0) (f4 : n10 = 59) (f5 : n2 ≠ n10) (f6 : n11 = 40) (f7 : n2 ≠ n11) (f8 : n12 = 41) (f9 : n2 ≠ n12) (f10 : n13 = 43) (f11 : n2 ≠ n13) (f12 : n14 = 45) (f13 : n2 ≠ n14) (f14 : n15 = 42) (f15 : n2 ≠ n15) (f16 : n16 = 60) (f17 : n2 = n16) (f18 : n17 = 13) : Bb_215_173 n8 n7 n6 n5 n4 n3 n2 n1 n0 n17 H0 H1 := by
  unfold Bb_215_173
  have ab := f2.2.1.1.1
  unfold Ab_215_46 at ab
  obtain ⟨e1, e2, e3, _⟩ := ab
  have ga := f2.2.1.1.2
  unfold Bb_215_46 at ga
  have q18 := f3
  have q20 := f5
  have qc19 := f4
  have q22 := f7
  have qc21 := f6
  have q24 := f9
  have qc23 := f8
  have q26 := f11
  have qc25 := f10
  have q28 := f13
  have qc27 := f12
  have q30 := f15
  have qc29 := f14
  have q32 := f17
  have qc31 := f16
  obtain ⟨tr, k⟩ := ga
  have xc := f18
  have rg0 := f0
  have rg1 := f1
  have e : sg1 n6 = 14 := by
    unfold sg1
    rw [if_neg (by omega), if_neg (by omega), if_neg (by omega), if_neg (by omega), if_neg (by omega), if_neg (by omega), if_neg (by omega), if_neg (by omega), if_pos (by omega)]
  have w := k.resolve_right (by omega)
  rw [e, xc]
  exact ⟨tr, .inr ⟨w.1, w.2, by decide⟩, by decide, by decide⟩
def g_215w_46_3 : vG := ([(0, [17], [], 13), (40, [6, 16], [], 0), (0, [16], [], 60), (41, [6, 15], [], 0), (0, [15], [], 42), (41, [6, 14], [], 0), (0, [14], [], 45), (41, [6, 13], [], 0), (0, [13], [], 43), (41, [6, 12], [], 0), (0, [12], [], 41), (41, [6, 11], [], 0), (0, [11], [], 40), (41, [6, 10], [], 0), (0, [10], [], 59), (35, [8], [], 0), (5000, [0, 1, 2, 3, 4, 5, 6, 7, 8], [0, 1], 46), (90, [8], [], 0), (91, [8], [], 14)], (4000, [4, 5, 6, 7, 8, 17], [1], 173))
theorem c_215w_46_3 {q0 : Nat} : vOkm T0 (eN e_215 L_215w A_215 mu_215 n_215 B_215 (some q0)) 4 g_215w_46_3 := vOk_inI fun ρ η f0 f1 f2 f3 f4 f5 f6 f7 f8 f9 f10 f11 f12 f13 f14 f15 f16 f17 f18 => q_215w_8 (q0 := q0) (n0 := ρ 8) (n1 := ρ 7) (n2 := ρ 6) (n3 := ρ 5) (n4 := ρ 4) (n5 := ρ 3) (n6 := ρ 2) (n7 := ρ 1) (n8 := ρ 0) (n10 := ρ 10) (n11 := ρ 11) (n12 := ρ 12) (n13 := ρ 13) (n14 := ρ 14) (n15 := ρ 15) (n16 := ρ 16) (n17 := ρ 17) (H0 := η 0) (H1 := η 1) f18 f17 f16 f15 f14 f13 f12 f11 f10 f9 f8 f7 f6 f5 f4 f3 f2 f1 f0
theorem q_215w_9 {q0 : Nat} {n0 n1 n2 n3 n4 n5 n6 n7 n8 n10 n11 n12 n13 n14 n15 n16 : Int} {H0 H1 : gH} (f0 : n0 ≤ 14) (f1 : 0 ≤ n0) (f2 : (hLe T0 H0 H1 ∧ hFr s_215.2.2.2.2 H0 H1 ∧ hWt T0 H1) ∧ ((Ab_215_46 n8 n7 n6 n5 n4 n3 n2 n1 n0 H0 H1 ∧ Bb_215_46 n8 n7 n6 n5 n4 n3 n2 n1 n0 H0 H1) ∧ preb_215 n8 n7 n6 n5 H0) ∧ some q0 = some (mub_215_46 n8 n7 n6 n5 n4 n3 n2 n1 n0 H0 H1)) (f3 : n0 ≤ 0) (f4 : n10 = 59) (f5 : n2 ≠ n10) (f6 : n11 = 40) (f7 : n2 ≠ n11) (f8 : n12 = 41) (f9 : n2 ≠ n12) (f10 : n13 = 43) (f11 : n2 ≠ n13) (f12 : n14 = 45) (f13 : n2 ≠ n14) (f14 : n15 = 42) (f15 : n2 = n15) (f16 : n16 = 10) : Bb_215_173 n8 n7 n6 n5 n4 n3 n2 n1 n0 n16 H0 H1 := by
  unfold Bb_215_173
  have ab := f2.2.1.1.1
  unfold Ab_215_46 at ab
  obtain ⟨e1, e2, e3, _⟩ := ab
  have ga := f2.2.1.1.2
  unfold Bb_215_46 at ga
  have q18 := f3
  have q20 := f5
  have qc19 := f4
  have q22 := f7
  have qc21 := f6
  have q24 := f9
  have qc23 := f8
  have q26 := f11
  have qc25 := f10
  have q28 := f13
  have qc27 := f12
  have q30 := f15
  have qc29 := f14
  obtain ⟨tr, k⟩ := ga
  have xc := f16
  have rg0 := f0
  have rg1 := f1
  have e : sg1 n6 = 8 := by
    unfold sg1
    rw [if_neg (by omega), if_neg (by omega), if_neg (by omega), if_neg (by omega), if_pos (by omega)]
  have w := k.resolve_right (by omega)
  rw [e, xc]
  exact ⟨tr, .inr ⟨w.1, w.2, by decide⟩, by decide, by decide⟩
def g_215w_46_4 : vG := ([(0, [16], [], 10), (40, [6, 15], [], 0), (0, [15], [], 42), (41, [6, 14], [], 0), (0, [14], [], 45), (41, [6, 13], [], 0), (0, [13], [], 43), (41, [6, 12], [], 0), (0, [12], [], 41), (41, [6, 11], [], 0), (0, [11], [], 40), (41, [6, 10], [], 0), (0, [10], [], 59), (35, [8], [], 0), (5000, [0, 1, 2, 3, 4, 5, 6, 7, 8], [0, 1], 46), (90, [8], [], 0), (91, [8], [], 14)], (4000, [4, 5, 6, 7, 8, 16], [1], 173))
theorem c_215w_46_4 {q0 : Nat} : vOkm T0 (eN e_215 L_215w A_215 mu_215 n_215 B_215 (some q0)) 4 g_215w_46_4 := vOk_inI fun ρ η f0 f1 f2 f3 f4 f5 f6 f7 f8 f9 f10 f11 f12 f13 f14 f15 f16 => q_215w_9 (q0 := q0) (n0 := ρ 8) (n1 := ρ 7) (n2 := ρ 6) (n3 := ρ 5) (n4 := ρ 4) (n5 := ρ 3) (n6 := ρ 2) (n7 := ρ 1) (n8 := ρ 0) (n10 := ρ 10) (n11 := ρ 11) (n12 := ρ 12) (n13 := ρ 13) (n14 := ρ 14) (n15 := ρ 15) (n16 := ρ 16) (H0 := η 0) (H1 := η 1) f16 f15 f14 f13 f12 f11 f10 f9 f8 f7 f6 f5 f4 f3 f2 f1 f0
theorem q_215w_10 {q0 : Nat} {n0 n1 n2 n3 n4 n5 n6 n7 n8 n10 n11 n12 n13 n14 n15 : Int} {H0 H1 : gH} (f0 : n0 ≤ 14) (f1 : 0 ≤ n0) (f2 : (hLe T0 H0 H1 ∧ hFr s_215.2.2.2.2 H0 H1 ∧ hWt T0 H1) ∧ ((Ab_215_46 n8 n7 n6 n5 n4 n3 n2 n1 n0 H0 H1 ∧ Bb_215_46 n8 n7 n6 n5 n4 n3 n2 n1 n0 H0 H1) ∧ preb_215 n8 n7 n6 n5 H0) ∧ some q0 = some (mub_215_46 n8 n7 n6 n5 n4 n3 n2 n1 n0 H0 H1)) (f3 : n0 ≤ 0) (f4 : n10 = 59) (f5 : n2 ≠ n10) (f6 : n11 = 40) (f7 : n2 ≠ n11) (f8 : n12 = 41) (f9 : n2 ≠ n12) (f10 : n13 = 43) (f11 : n2 ≠ n13) (f12 : n14 = 45) (f13 : n2 = n14) (f14 : n15 = 9) : Bb_215_173 n8 n7 n6 n5 n4 n3 n2 n1 n0 n15 H0 H1 := by
  unfold Bb_215_173
  have ab := f2.2.1.1.1
  unfold Ab_215_46 at ab
  obtain ⟨e1, e2, e3, _⟩ := ab
  have ga := f2.2.1.1.2
  unfold Bb_215_46 at ga
  have q18 := f3
  have q20 := f5
  have qc19 := f4
  have q22 := f7
  have qc21 := f6
  have q24 := f9
  have qc23 := f8
  have q26 := f11
  have qc25 := f10
  have q28 := f13
  have qc27 := f12
  obtain ⟨tr, k⟩ := ga
  have xc := f14
  have rg0 := f0
  have rg1 := f1
  have e : sg1 n6 = 7 := by
    unfold sg1
    rw [if_neg (by omega), if_neg (by omega), if_neg (by omega), if_pos (by omega)]
  have w := k.resolve_right (by omega)
  rw [e, xc]
  exact ⟨tr, .inr ⟨w.1, w.2, by decide⟩, by decide, by decide⟩
def g_215w_46_5 : vG := ([(0, [15], [], 9), (40, [6, 14], [], 0), (0, [14], [], 45), (41, [6, 13], [], 0), (0, [13], [], 43), (41, [6, 12], [], 0), (0, [12], [], 41), (41, [6, 11], [], 0), (0, [11], [], 40), (41, [6, 10], [], 0), (0, [10], [], 59), (35, [8], [], 0), (5000, [0, 1, 2, 3, 4, 5, 6, 7, 8], [0, 1], 46), (90, [8], [], 0), (91, [8], [], 14)], (4000, [4, 5, 6, 7, 8, 15], [1], 173))
theorem c_215w_46_5 {q0 : Nat} : vOkm T0 (eN e_215 L_215w A_215 mu_215 n_215 B_215 (some q0)) 4 g_215w_46_5 := vOk_inI fun ρ η f0 f1 f2 f3 f4 f5 f6 f7 f8 f9 f10 f11 f12 f13 f14 => q_215w_10 (q0 := q0) (n0 := ρ 8) (n1 := ρ 7) (n2 := ρ 6) (n3 := ρ 5) (n4 := ρ 4) (n5 := ρ 3) (n6 := ρ 2) (n7 := ρ 1) (n8 := ρ 0) (n10 := ρ 10) (n11 := ρ 11) (n12 := ρ 12) (n13 := ρ 13) (n14 := ρ 14) (n15 := ρ 15) (H0 := η 0) (H1 := η 1) f14 f13 f12 f11 f10 f9 f8 f7 f6 f5 f4 f3 f2 f1 f0
theorem q_215w_11 {q0 : Nat} {n0 n1 n2 n3 n4 n5 n6 n7 n8 n10 n11 n12 n13 n14 : Int} {H0 H1 : gH} (f0 : n0 ≤ 14) (f1 : 0 ≤ n0) (f2 : (hLe T0 H0 H1 ∧ hFr s_215.2.2.2.2 H0 H1 ∧ hWt T0 H1) ∧ ((Ab_215_46 n8 n7 n6 n5 n4 n3 n2 n1 n0 H0 H1 ∧ Bb_215_46 n8 n7 n6 n5 n4 n3 n2 n1 n0 H0 H1) ∧ preb_215 n8 n7 n6 n5 H0) ∧ some q0 = some (mub_215_46 n8 n7 n6 n5 n4 n3 n2 n1 n0 H0 H1)) (f3 : n0 ≤ 0) (f4 : n10 = 59) (f5 : n2 ≠ n10) (f6 : n11 = 40) (f7 : n2 ≠ n11) (f8 : n12 = 41) (f9 : n2 ≠ n12) (f10 : n13 = 43) (f11 : n2 = n13) (f12 : n14 = 8) : Bb_215_173 n8 n7 n6 n5 n4 n3 n2 n1 n0 n14 H0 H1 := by
  unfold Bb_215_173
  have ab := f2.2.1.1.1
  unfold Ab_215_46 at ab
  obtain ⟨e1, e2, e3, _⟩ := ab
  have ga := f2.2.1.1.2
  unfold Bb_215_46 at ga
  have q18 := f3
  have q20 := f5
  have qc19 := f4
  have q22 := f7
  have qc21 := f6
  have q24 := f9
  have qc23 := f8
  have q26 := f11
  have qc25 := f10
  obtain ⟨tr, k⟩ := ga
  have xc := f12
  have rg0 := f0
  have rg1 := f1
  have e : sg1 n6 = 6 := by
    unfold sg1
    rw [if_neg (by omega), if_neg (by omega), if_pos (by omega)]
  have w := k.resolve_right (by omega)
  rw [e, xc]
  exact ⟨tr, .inr ⟨w.1, w.2, by decide⟩, by decide, by decide⟩
def g_215w_46_6 : vG := ([(0, [14], [], 8), (40, [6, 13], [], 0), (0, [13], [], 43), (41, [6, 12], [], 0), (0, [12], [], 41), (41, [6, 11], [], 0), (0, [11], [], 40), (41, [6, 10], [], 0), (0, [10], [], 59), (35, [8], [], 0), (5000, [0, 1, 2, 3, 4, 5, 6, 7, 8], [0, 1], 46), (90, [8], [], 0), (91, [8], [], 14)], (4000, [4, 5, 6, 7, 8, 14], [1], 173))
theorem c_215w_46_6 {q0 : Nat} : vOkm T0 (eN e_215 L_215w A_215 mu_215 n_215 B_215 (some q0)) 4 g_215w_46_6 := vOk_inI fun ρ η f0 f1 f2 f3 f4 f5 f6 f7 f8 f9 f10 f11 f12 => q_215w_11 (q0 := q0) (n0 := ρ 8) (n1 := ρ 7) (n2 := ρ 6) (n3 := ρ 5) (n4 := ρ 4) (n5 := ρ 3) (n6 := ρ 2) (n7 := ρ 1) (n8 := ρ 0) (n10 := ρ 10) (n11 := ρ 11) (n12 := ρ 12) (n13 := ρ 13) (n14 := ρ 14) (H0 := η 0) (H1 := η 1) f12 f11 f10 f9 f8 f7 f6 f5 f4 f3 f2 f1 f0
theorem q_215w_12 {q0 : Nat} {n0 n1 n2 n3 n4 n5 n6 n7 n8 n10 n11 n12 n13 : Int} {H0 H1 : gH} (f0 : n0 ≤ 14) (f1 : 0 ≤ n0) (f2 : (hLe T0 H0 H1 ∧ hFr s_215.2.2.2.2 H0 H1 ∧ hWt T0 H1) ∧ ((Ab_215_46 n8 n7 n6 n5 n4 n3 n2 n1 n0 H0 H1 ∧ Bb_215_46 n8 n7 n6 n5 n4 n3 n2 n1 n0 H0 H1) ∧ preb_215 n8 n7 n6 n5 H0) ∧ some q0 = some (mub_215_46 n8 n7 n6 n5 n4 n3 n2 n1 n0 H0 H1)) (f3 : n0 ≤ 0) (f4 : n10 = 59) (f5 : n2 ≠ n10) (f6 : n11 = 40) (f7 : n2 ≠ n11) (f8 : n12 = 41) (f9 : n2 = n12) (f10 : n13 = 7) : Bb_215_173 n8 n7 n6 n5 n4 n3 n2 n1 n0 n13 H0 H1 := by
  unfold Bb_215_173
  have ab := f2.2.1.1.1
  unfold Ab_215_46 at ab
  obtain ⟨e1, e2, e3, _⟩ := ab
  have ga := f2.2.1.1.2
  unfold Bb_215_46 at ga
  have q18 := f3
  have q20 := f5
  have qc19 := f4
  have q22 := f7
  have qc21 := f6
  have q24 := f9
  have qc23 := f8
  obtain ⟨tr, k⟩ := ga
  have xc := f10
  have rg0 := f0
  have rg1 := f1
  have e : sg1 n6 = 11 := by
    unfold sg1
    rw [if_neg (by omega), if_neg (by omega), if_neg (by omega), if_neg (by omega), if_neg (by omega), if_neg (by omega), if_neg (by omega), if_pos (by omega)]
  have w := k.resolve_right (by omega)
  rw [e, xc]
  exact ⟨tr, .inr ⟨w.1, w.2, by decide⟩, by decide, by decide⟩
def g_215w_46_7 : vG := ([(0, [13], [], 7), (40, [6, 12], [], 0), (0, [12], [], 41), (41, [6, 11], [], 0), (0, [11], [], 40), (41, [6, 10], [], 0), (0, [10], [], 59), (35, [8], [], 0), (5000, [0, 1, 2, 3, 4, 5, 6, 7, 8], [0, 1], 46), (90, [8], [], 0), (91, [8], [], 14)], (4000, [4, 5, 6, 7, 8, 13], [1], 173))
theorem c_215w_46_7 {q0 : Nat} : vOkm T0 (eN e_215 L_215w A_215 mu_215 n_215 B_215 (some q0)) 4 g_215w_46_7 := vOk_inI fun ρ η f0 f1 f2 f3 f4 f5 f6 f7 f8 f9 f10 => q_215w_12 (q0 := q0) (n0 := ρ 8) (n1 := ρ 7) (n2 := ρ 6) (n3 := ρ 5) (n4 := ρ 4) (n5 := ρ 3) (n6 := ρ 2) (n7 := ρ 1) (n8 := ρ 0) (n10 := ρ 10) (n11 := ρ 11) (n12 := ρ 12) (n13 := ρ 13) (H0 := η 0) (H1 := η 1) f10 f9 f8 f7 f6 f5 f4 f3 f2 f1 f0
theorem q_215w_13 {q0 : Nat} {n0 n1 n2 n3 n4 n5 n6 n7 n8 n10 n11 n12 : Int} {H0 H1 : gH} (f0 : n0 ≤ 14) (f1 : 0 ≤ n0) (f2 : (hLe T0 H0 H1 ∧ hFr s_215.2.2.2.2 H0 H1 ∧ hWt T0 H1) ∧ ((Ab_215_46 n8 n7 n6 n5 n4 n3 n2 n1 n0 H0 H1 ∧ Bb_215_46 n8 n7 n6 n5 n4 n3 n2 n1 n0 H0 H1) ∧ preb_215 n8 n7 n6 n5 H0) ∧ some q0 = some (mub_215_46 n8 n7 n6 n5 n4 n3 n2 n1 n0 H0 H1)) (f3 : n0 ≤ 0) (f4 : n10 = 59) (f5 : n2 ≠ n10) (f6 : n11 = 40) (f7 : n2 = n11) (f8 : n12 = 6) : Bb_215_173 n8 n7 n6 n5 n4 n3 n2 n1 n0 n12 H0 H1 := by
  unfold Bb_215_173
  have ab := f2.2.1.1.1
  unfold Ab_215_46 at ab
  obtain ⟨e1, e2, e3, _⟩ := ab
  have ga := f2.2.1.1.2
  unfold Bb_215_46 at ga
  have q18 := f3
  have q20 := f5
  have qc19 := f4
  have q22 := f7
  have qc21 := f6
  obtain ⟨tr, k⟩ := ga
  have xc := f8
  have rg0 := f0
  have rg1 := f1
  have e : sg1 n6 = 10 := by
    unfold sg1
    rw [if_neg (by omega), if_neg (by omega), if_neg (by omega), if_neg (by omega), if_neg (by omega), if_neg (by omega), if_pos (by omega)]
  have w := k.resolve_right (by omega)
  rw [e, xc]
  exact ⟨tr, .inr ⟨w.1, w.2, by decide⟩, by decide, by decide⟩
def g_215w_46_8 : vG := ([(0, [12], [], 6), (40, [6, 11], [], 0), (0, [11], [], 40), (41, [6, 10], [], 0), (0, [10], [], 59), (35, [8], [], 0), (5000, [0, 1, 2, 3, 4, 5, 6, 7, 8], [0, 1], 46), (90, [8], [], 0), (91, [8], [], 14)], (4000, [4, 5, 6, 7, 8, 12], [1], 173))
theorem c_215w_46_8 {q0 : Nat} : vOkm T0 (eN e_215 L_215w A_215 mu_215 n_215 B_215 (some q0)) 4 g_215w_46_8 := vOk_inI fun ρ η f0 f1 f2 f3 f4 f5 f6 f7 f8 => q_215w_13 (q0 := q0) (n0 := ρ 8) (n1 := ρ 7) (n2 := ρ 6) (n3 := ρ 5) (n4 := ρ 4) (n5 := ρ 3) (n6 := ρ 2) (n7 := ρ 1) (n8 := ρ 0) (n10 := ρ 10) (n11 := ρ 11) (n12 := ρ 12) (H0 := η 0) (H1 := η 1) f8 f7 f6 f5 f4 f3 f2 f1 f0
theorem q_215w_14 {q0 : Nat} {n0 n1 n2 n3 n4 n5 n6 n7 n8 n10 n11 : Int} {H0 H1 : gH} (f0 : n0 ≤ 14) (f1 : 0 ≤ n0) (f2 : (hLe T0 H0 H1 ∧ hFr s_215.2.2.2.2 H0 H1 ∧ hWt T0 H1) ∧ ((Ab_215_46 n8 n7 n6 n5 n4 n3 n2 n1 n0 H0 H1 ∧ Bb_215_46 n8 n7 n6 n5 n4 n3 n2 n1 n0 H0 H1) ∧ preb_215 n8 n7 n6 n5 H0) ∧ some q0 = some (mub_215_46 n8 n7 n6 n5 n4 n3 n2 n1 n0 H0 H1)) (f3 : n0 ≤ 0) (f4 : n10 = 59) (f5 : n2 = n10) (f6 : n11 = 4) : Bb_215_173 n8 n7 n6 n5 n4 n3 n2 n1 n0 n11 H0 H1 := by
  unfold Bb_215_173
  have ab := f2.2.1.1.1
  unfold Ab_215_46 at ab
  obtain ⟨e1, e2, e3, _⟩ := ab
  have ga := f2.2.1.1.2
  unfold Bb_215_46 at ga
  have q18 := f3
  have q20 := f5
  have qc19 := f4
  obtain ⟨tr, k⟩ := ga
  have xc := f6
  have rg0 := f0
  have rg1 := f1
  have e : sg1 n6 = 4 := by
    unfold sg1
    rw [if_pos (by omega)]
  have w := k.resolve_right (by omega)
  rw [e, xc]
  exact ⟨tr, .inr ⟨w.1, w.2, by decide⟩, by decide, by decide⟩
def g_215w_46_9 : vG := ([(0, [11], [], 4), (40, [6, 10], [], 0), (0, [10], [], 59), (35, [8], [], 0), (5000, [0, 1, 2, 3, 4, 5, 6, 7, 8], [0, 1], 46), (90, [8], [], 0), (91, [8], [], 14)], (4000, [4, 5, 6, 7, 8, 11], [1], 173))
theorem c_215w_46_9 {q0 : Nat} : vOkm T0 (eN e_215 L_215w A_215 mu_215 n_215 B_215 (some q0)) 4 g_215w_46_9 := vOk_inI fun ρ η f0 f1 f2 f3 f4 f5 f6 => q_215w_14 (q0 := q0) (n0 := ρ 8) (n1 := ρ 7) (n2 := ρ 6) (n3 := ρ 5) (n4 := ρ 4) (n5 := ρ 3) (n6 := ρ 2) (n7 := ρ 1) (n8 := ρ 0) (n10 := ρ 10) (n11 := ρ 11) (H0 := η 0) (H1 := η 1) f6 f5 f4 f3 f2 f1 f0
theorem q_215w_15 {q0 : Nat} {n0 n1 n2 n3 n4 n5 n6 n7 n8 : Int} {H0 H1 : gH} (f0 : (hLe T0 H0 H1 ∧ hFr s_215.2.2.2.2 H0 H1 ∧ hWt T0 H1) ∧ ((Ab_215_46 n8 n7 n6 n5 n4 n3 n2 n1 n0 H0 H1 ∧ Bb_215_46 n8 n7 n6 n5 n4 n3 n2 n1 n0 H0 H1) ∧ preb_215 n8 n7 n6 n5 H0) ∧ some q0 = some (mub_215_46 n8 n7 n6 n5 n4 n3 n2 n1 n0 H0 H1)) (f1 : 0 < n0) : Bb_215_173 n8 n7 n6 n5 n4 n3 n2 n1 n0 n0 H0 H1 := by
  unfold Bb_215_173
  have ab := f0.2.1.1.1
  unfold Ab_215_46 at ab
  obtain ⟨e1, e2, e3, _⟩ := ab
  have ga := f0.2.1.1.2
  unfold Bb_215_46 at ga
  have q18 := f1
  obtain ⟨tr, k⟩ := ga
  have w := k.resolve_left (by omega)
  exact ⟨tr, .inl ⟨w.1, w.2.1, w.2.2.1⟩, w.2.2.2.1, w.2.2.2.2⟩
def g_215w_46_10 : vG := ([(34, [8], [], 0), (5000, [0, 1, 2, 3, 4, 5, 6, 7, 8], [0, 1], 46)], (4000, [4, 5, 6, 7, 8, 8], [1], 173))
theorem c_215w_46_10 {q0 : Nat} : vOkm T0 (eN e_215 L_215w A_215 mu_215 n_215 B_215 (some q0)) 4 g_215w_46_10 := vOk_inI fun ρ η f0 f1 => q_215w_15 (q0 := q0) (n0 := ρ 8) (n1 := ρ 7) (n2 := ρ 6) (n3 := ρ 5) (n4 := ρ 4) (n5 := ρ 3) (n6 := ρ 2) (n7 := ρ 1) (n8 := ρ 0) (H0 := η 0) (H1 := η 1) f1 f0
def p_215w_46 : List vG := [g_215w_46_0,
  g_215w_46_1,
  g_215w_46_2,
  g_215w_46_3,
  g_215w_46_4,
  g_215w_46_5,
  g_215w_46_6,
  g_215w_46_7,
  g_215w_46_8,
  g_215w_46_9,
  g_215w_46_10]
theorem r_215w_46 : vCovBO (eRc e_215 L_215 cs_215 2000 (46, [(0, (3, 12, 285, 0)), (1, (0, 0, 2000, 0)), (2, (0, -2147483648, 2147483647, 0)), (3, (0, -2147483648, 2147483647, 0)), (4, (0, 0, 14, 0))])) p_215w_46 = true := by decide +kernel
theorem q_215w_16 {q0 : Nat} {n0 n1 n2 n3 n4 n5 n6 n7 n8 n9 n10 n11 n12 : Int} {H0 H1 H2 : gH} (f0 : (hLe T0 H0 H1 ∧ hFr s_215.2.2.2.2 H0 H1 ∧ hWt T0 H1) ∧ ((Ab_215_173 n9 n8 n7 n6 n5 n4 n3 n2 n1 n0 H0 H1 ∧ Bb_215_173 n9 n8 n7 n6 n5 n4 n3 n2 n1 n0 H0 H1) ∧ preb_215 n9 n8 n7 n6 H0) ∧ some q0 = some (mub_215_173 n9 n8 n7 n6 n5 n4 n3 n2 n1 n0 H0 H1)) (f1 : n10 = 0) (f2 : n11 = 0) (f3 : (hLe T0 H1 H2 ∧ hFr s_213.2.2.2.2 H1 H2 ∧ ((0 : Int) = 0 → H2.length = H1.length) ∧ hWt T0 H2) ∧ (postb_213 n5 n0 n4 n10 n11 H1 H2 ∧ nb_213 n5 n0 n4 n10 n11 H1 H2)) (f4 : n1 ≤ 0) (f5 : n12 = 1) : nb_215 n12 n9 n8 n7 n6 H0 H2 := by
  unfold nb_215
  have ab := f0.2.1.1.1
  unfold Ab_215_173 at ab
  obtain ⟨e1, e2, e3, _⟩ := ab
  have ga := f0.2.1.1.2
  unfold Bb_215_173 at ga
  have q22 := f4
  obtain ⟨tr, k, k1, k2⟩ := ga
  have n := f3.2.2
  unfold nb_213 at n
  try rw [f1] at n
  try rw [f2] at n
  have nt : NTr n0 n8 0 0 H0 H2 := by
    rw [← e1]
    exact NTr_from tr n
  have rc := f5
  exact ⟨n0, nt, .inr (by
    have w := k.resolve_left (by omega)
    exact ⟨w.2.1, w.2.2, rc⟩), k1, k2⟩
def g_215w_173_0 : vG := ([(0, [12], [], 1), (35, [8], [], 0), (1213, [4, 9, 5, 10, 11], [1, 2], 0), (0, [11], [], 0), (0, [10], [], 0), (5000, [0, 1, 2, 3, 4, 5, 6, 7, 8, 9], [0, 1], 173)], (3000, [12], [2], 192))
theorem c_215w_173_0 {q0 : Nat} : vOkm T0 (eN e_215 L_215w A_215 mu_215 n_215 B_215 (some q0)) 4 g_215w_173_0 := vOk_inI fun ρ η f0 f1 f2 f3 f4 f5 => q_215w_16 (q0 := q0) (n0 := ρ 9) (n1 := ρ 8) (n2 := ρ 7) (n3 := ρ 6) (n4 := ρ 5) (n5 := ρ 4) (n6 := ρ 3) (n7 := ρ 2) (n8 := ρ 1) (n9 := ρ 0) (n10 := ρ 10) (n11 := ρ 11) (n12 := ρ 12) (H0 := η 0) (H1 := η 1) (H2 := η 2) f5 f4 f3 f2 f1 f0
theorem q_215w_17 {q0 : Nat} {n0 n1 n2 n3 n4 n5 n6 n7 n8 n9 n10 n11 n12 : Int} {H0 H1 H2 : gH} (f0 : (hLe T0 H0 H1 ∧ hFr s_215.2.2.2.2 H0 H1 ∧ hWt T0 H1) ∧ ((Ab_215_173 n9 n8 n7 n6 n5 n4 n3 n2 n1 n0 H0 H1 ∧ Bb_215_173 n9 n8 n7 n6 n5 n4 n3 n2 n1 n0 H0 H1) ∧ preb_215 n9 n8 n7 n6 H0) ∧ some q0 = some (mub_215_173 n9 n8 n7 n6 n5 n4 n3 n2 n1 n0 H0 H1)) (f1 : n10 = 0) (f2 : n11 = 0) (f3 : (hLe T0 H1 H2 ∧ hFr s_213.2.2.2.2 H1 H2 ∧ ((0 : Int) = 0 → H2.length = H1.length) ∧ hWt T0 H2) ∧ (postb_213 n5 n0 n4 n10 n11 H1 H2 ∧ nb_213 n5 n0 n4 n10 n11 H1 H2)) (f4 : 0 < n1) (f5 : n12 = 2) : nb_215 n12 n9 n8 n7 n6 H0 H2 := by
  unfold nb_215
  have ab := f0.2.1.1.1
  unfold Ab_215_173 at ab
  obtain ⟨e1, e2, e3, _⟩ := ab
  have ga := f0.2.1.1.2
  unfold Bb_215_173 at ga
  have q22 := f4
  obtain ⟨tr, k, k1, k2⟩ := ga
  have n := f3.2.2
  unfold nb_213 at n
  try rw [f1] at n
  try rw [f2] at n
  have nt : NTr n0 n8 0 0 H0 H2 := by
    rw [← e1]
    exact NTr_from tr n
  have rc := f5
  exact ⟨n0, nt, .inl (by
    have w := k.resolve_right (by omega)
    exact ⟨w.2.1, w.2.2, rc⟩), k1, k2⟩
def g_215w_173_1 : vG := ([(0, [12], [], 2), (34, [8], [], 0), (1213, [4, 9, 5, 10, 11], [1, 2], 0), (0, [11], [], 0), (0, [10], [], 0), (5000, [0, 1, 2, 3, 4, 5, 6, 7, 8, 9], [0, 1], 173)], (3000, [12], [2], 192))
theorem c_215w_173_1 {q0 : Nat} : vOkm T0 (eN e_215 L_215w A_215 mu_215 n_215 B_215 (some q0)) 4 g_215w_173_1 := vOk_inI fun ρ η f0 f1 f2 f3 f4 f5 => q_215w_17 (q0 := q0) (n0 := ρ 9) (n1 := ρ 8) (n2 := ρ 7) (n3 := ρ 6) (n4 := ρ 5) (n5 := ρ 4) (n6 := ρ 3) (n7 := ρ 2) (n8 := ρ 1) (n9 := ρ 0) (n10 := ρ 10) (n11 := ρ 11) (n12 := ρ 12) (H0 := η 0) (H1 := η 1) (H2 := η 2) f5 f4 f3 f2 f1 f0
def p_215w_173 : List vG := [g_215w_173_0,
  g_215w_173_1]
theorem r_215w_173 : vCovBO (eRc e_215 L_215 cs_215 2000 (173, [(0, (3, 12, 285, 0)), (1, (0, 0, 2000, 0)), (2, (0, -2147483648, 2147483647, 0)), (3, (0, -2147483648, 2147483647, 0)), (4, (0, 0, 14, 0)), (5, (0, 0, 53, 0))])) p_215w_173 = true := by decide +kernel
theorem m_215w (d : Nat) : eC e_215w (d + 2) := eC_ref (e := e_215) (L := L_215) (L' := L_215w) (cs := cs_215) (n := 2000) (d := d + 1) (A := A_215) (μ := mu_215) (tp := false) (p0 := p_215_s) (p1 := p_215w_s) (N := n_215) (B := B_215) rfl ⟨m_213w d, trivial⟩ rfl (.inl rfl) (by decide +kernel) (fun z => nomatch z) r_215_s (allC c_215_s_0 (allC c_215_s_1 (allC c_215_s_2 (allC c_215_s_3 (allC c_215_s_4 allN))))) (allC (.inl ⟨p_215_46, r_215_46, fun q0 => (allC c_215_46_0 (allC c_215_46_1 (allC c_215_46_2 (allC c_215_46_3 (allC c_215_46_4 (allC c_215_46_5 (allC c_215_46_6 (allC c_215_46_7 (allC c_215_46_8 (allC c_215_46_9 (allC c_215_46_10 allN)))))))))))⟩) (allC (.inl ⟨p_215_173, r_215_173, fun q0 => (allC c_215_173_0 (allC c_215_173_1 (allC c_215_173_2 allN)))⟩) allN)) (sub1 trivial) r_215w_s (allC c_215w_s_0 (allC c_215w_s_1 (allC c_215w_s_2 (allC c_215w_s_3 (allC c_215w_s_4 allN))))) (allC ⟨p_215w_46, r_215w_46, fun q0 => (allC c_215w_46_0 (allC c_215w_46_1 (allC c_215w_46_2 (allC c_215w_46_3 (allC c_215w_46_4 (allC c_215w_46_5 (allC c_215w_46_6 (allC c_215w_46_7 (allC c_215w_46_8 (allC c_215w_46_9 (allC c_215w_46_10 allN)))))))))))⟩ (allC ⟨p_215w_173, r_215w_173, fun q0 => (allC c_215w_173_0 (allC c_215w_173_1 allN))⟩ allN))
