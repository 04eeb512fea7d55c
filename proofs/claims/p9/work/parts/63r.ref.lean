/- MixStageModel.cut ()V, more fully -/
def nb_214 (a0 : Int) (h0 h : gH) : Prop := KEYS h0 → TR h ∧ vwR h = pTx (BR h0) (hV h0 285 4)
def n_214 : List Int → gH → gH → Prop := fun xs h0 h => match xs with
  | [a0] => nb_214 a0 h0 h
  | _ => True
noncomputable def e_214w : vE := eV e_214 n_214
noncomputable def L_214w : List vE := [e_208, e_209, e_210, e_211w, e_213w, e_215w]
def Bb_214_7 (a0 x0 x1 : Int) (h0 h : gH) : Prop := KEYS h0 → CIr h0 h x1 ∧ x1 ≤ hV h0 285 4
def Bb_214_85 (a0 x0 x1 x2 x3 x4 : Int) (h0 h : gH) : Prop := KEYS h0 → CIr h0 h x1 ∧ x1 < hV h0 285 4 ∧ (97 ≤ BR h0 (x1).toNat ∧ BR h0 (x1).toNat ≤ 122) ∧ LEs (BR h0) (hV h0 285 4).toNat (x1).toNat ((x1).toNat + (x3).toNat) ∧ (x3 ≤ 8 → x4 = pCd 27 (BR h0) (x3).toNat (x1).toNat 0)
def Bb_214_146 (a0 x0 x1 x2 x3 x4 x6 x7 : Int) (h0 h : gH) : Prop := KEYS h0 → CIr h0 h x1 ∧ x1 < hV h0 285 4 ∧ (97 ≤ BR h0 (x1).toNat ∧ BR h0 (x1).toNat ≤ 122) ∧ pLe (BR h0) (hV h0 285 4).toNat ((hV h0 285 4).toNat - (x1).toNat) (x1).toNat = (x3).toNat ∧ x3 ≤ 7 ∧ x4 = pCd 27 (BR h0) (x3).toNat (x1).toNat 0 ∧ 0 ≤ x4 ∧ x4 < 1099511627776 ∧ 0 ≤ x7 ∧ x7 ≤ 34 ∧ KSr x4 x6 x7
def Bb_214_208 (a0 x0 x1 x2 x3 x4 : Int) (h0 h : gH) : Prop := KEYS h0 → CIr h0 h x1 ∧ x1 < hV h0 285 4 ∧ (48 ≤ BR h0 (x1).toNat ∧ BR h0 (x1).toNat ≤ 57) ∧ (¬ BR h0 (x1).toNat = 9 ∧ ¬ BR h0 (x1).toNat = 10 ∧ ¬ BR h0 (x1).toNat = 13 ∧ ¬ BR h0 (x1).toNat = 32) ∧ DIs (BR h0) (hV h0 285 4).toNat (x1).toNat ((x1).toNat + (x3).toNat) ∧ (x3 ≤ 4 → x4 = pVa (BR h0) (x3).toNat (x1).toNat 0)
def B_214 : Int → List Int → gH → gH → Prop := fun c xs h0 h => match c.toNat with
  | 7 => (match xs with
    | [a0, x0, x1] => Bb_214_7 a0 x0 x1 h0 h
    | _ => False)
  | 85 => (match xs with
    | [a0, x0, x1, x2, x3, x4] => Bb_214_85 a0 x0 x1 x2 x3 x4 h0 h
    | _ => False)
  | 146 => (match xs with
    | [a0, x0, x1, x2, x3, x4, x6, x7] => Bb_214_146 a0 x0 x1 x2 x3 x4 x6 x7 h0 h
    | _ => False)
  | 208 => (match xs with
    | [a0, x0, x1, x2, x3, x4] => Bb_214_208 a0 x0 x1 x2 x3 x4 h0 h
    | _ => False)
  | _ => True
theorem q_214w_0 {n0 n1 n2 n3 : Int} {H0 H1 : gH} (f0 : n0 = 285) (f1 : hWt T0 H0 ∧ True) (f2 : n1 = 0) (f3 : n2 = 10) (f4 : hUpd H1 H0 n0 n2 n1) (f5 : n3 = 0) : Bb_214_7 n0 n0 n3 H0 H1 := by
  unfold Bb_214_7
  intro ky
  have xc := f5
  have s4 := f1.1 285 4 _ _ rW_4
  have e : hV H1 285 10 = 0 := (uSame f4 285 10 (by rw [f0]; rfl) (by rw [f3]; rfl)).trans f2
  rw [xc]
  exact ⟨⟨PLI_0 e, [], TLR_0 e, TKL_0⟩, s4.1⟩
def g_214w_s_0 : vG := ([(0, [3], [], 0), (80, [0, 2, 1], [1, 0], 0), (0, [2], [], 10), (0, [1], [], 0), (6000, [0], [0], 0), (0, [0], [], 285)], (4000, [0, 3], [1], 7))
theorem c_214w_s_0 : vOkm T0 (eN e_214 L_214w A_214 mu_214 n_214 B_214 none) 1 g_214w_s_0 := vOk_inI fun ρ η f0 f1 f2 f3 f4 f5 => q_214w_0 (n0 := ρ 0) (n1 := ρ 1) (n2 := ρ 2) (n3 := ρ 3) (H0 := η 0) (H1 := η 1) f5 f4 f3 f2 f1 f0
def p_214w_s : List vG := [g_214w_s_0]
theorem r_214w_s : vCovBO (eR0 e_214 L_214 cs_214 2000) p_214w_s = true := by decide +kernel
theorem q_214w_1 {q0 : Nat} {n0 n1 n2 n3 n4 : Int} {H0 H1 : gH} (f0 : n0 ≤ 2000) (f1 : 0 ≤ n0) (f2 : n1 = 285) (f3 : (hLe T0 H0 H1 ∧ hFr s_214.2.2.2.2 H0 H1 ∧ hWt T0 H1) ∧ ((Ab_214_7 n2 n1 n0 H0 H1 ∧ Bb_214_7 n2 n1 n0 H0 H1) ∧ True) ∧ some q0 = some (mub_214_7 n2 n1 n0 H0 H1)) (f4 : n3 = hV H1 (n1).toNat 10) (f5 : n4 = 500) (f6 : n4 < n3) : nb_214 n2 H0 H1 := by
  unfold nb_214
  intro ky
  have ga := f3.2.1.1.2
  unfold Bb_214_7 at ga
  obtain ⟨ci, xs_⟩ := ga ky
  have ab := f3.2.1.1.1
  unfold Ab_214_7 at ab
  have d8 := rdS (q := 285) f4 f2
  have q10 := f6
  have qc9 := f5
  have s4 : (0 : Int) ≤ hV H0 285 4 ∧ hV H0 285 4 ≤ 2000 := by
    have q := f3.1.2.2 285 4 _ _ rW_4
    rw [f3.1.2.1.1 285 4 (by decide +kernel)] at q
    exact q
  have z4 : hV H1 285 4 = hV H0 285 4 := f3.1.2.1.1 285 4 (by decide +kernel)
  have z287 : hV H1 287 = hV H0 287 := fRow f3.1.2.1 287 (by decide +kernel)
  have c0 := ci.1.1
  have c5 := ci.1.2.1
  have ci0 := ci.1.2.2.1
  have rg0 := f0
  have rg1 := f1
  have e1 : hV H1 285 10 = 501 := by omega
  obtain ⟨L, w1, w2⟩ := ci.2
  exact ⟨TR_many ci.1 e1, cut_many w1 w2 e1⟩
def g_214w_7_0 : vG := ([(44, [3, 4], [], 0), (0, [4], [], 500), (20, [3, 1], [1], 10), (5000, [0, 1, 2], [0, 1], 7), (0, [1], [], 285), (90, [2], [], 0), (91, [2], [], 2000)], (3000, [], [1], 294))
theorem c_214w_7_0 {q0 : Nat} : vOkm T0 (eN e_214 L_214w A_214 mu_214 n_214 B_214 (some q0)) 1 g_214w_7_0 := vOk_inI fun ρ η f0 f1 f2 f3 f4 f5 f6 => q_214w_1 (q0 := q0) (n0 := ρ 2) (n1 := ρ 1) (n2 := ρ 0) (n3 := ρ 3) (n4 := ρ 4) (H0 := η 0) (H1 := η 1) f6 f5 f4 f3 f2 f1 f0
theorem q_214w_2 {q0 : Nat} {n0 n1 n2 n3 n4 n5 n6 n7 n8 : Int} {H0 H1 H2 : gH} (f0 : n0 ≤ 2000) (f1 : 0 ≤ n0) (f2 : n1 = 285) (f3 : (hLe T0 H0 H1 ∧ hFr s_214.2.2.2.2 H0 H1 ∧ hWt T0 H1) ∧ ((Ab_214_7 n2 n1 n0 H0 H1 ∧ Bb_214_7 n2 n1 n0 H0 H1) ∧ True) ∧ some q0 = some (mub_214_7 n2 n1 n0 H0 H1)) (f4 : n3 = hV H1 (n1).toNat 10) (f5 : n4 = 500) (f6 : n3 ≤ n4) (f7 : n5 ≤ 255) (f8 : 0 ≤ n5) (f9 : (hLe T0 H1 H2 ∧ hFr s_208.2.2.2.2 H1 H2 ∧ ((0 : Int) = 0 → H2.length = H1.length) ∧ hWt T0 H2) ∧ postb_208 n5 n1 n0 H1 H2) (f10 : n6 = hV H2 (n1).toNat 4) (f11 : n0 < n6) (f12 : n7 = 9) (f13 : n5 = n7) (f14 : n8 = w32 (n0 + 1)) : Bb_214_7 n2 n1 n8 H0 H2 := by
  unfold Bb_214_7
  intro ky
  have ga := f3.2.1.1.2
  unfold Bb_214_7 at ga
  obtain ⟨ci, xs_⟩ := ga ky
  have ab := f3.2.1.1.1
  unfold Ab_214_7 at ab
  have d8 := rdS (q := 285) f4 f2
  have d17 := rdS (q := 285) f10 f2
  have q10 := f6
  have qc9 := f5
  have q18 := f11
  have q20 := f13
  have qc19 := f12
  have q21 := f14
  unfold w32 at q21
  have s4 : (0 : Int) ≤ hV H0 285 4 ∧ hV H0 285 4 ≤ 2000 := by
    have q := f3.1.2.2 285 4 _ _ rW_4
    rw [f3.1.2.1.1 285 4 (by decide +kernel)] at q
    exact q
  have z4 : hV H1 285 4 = hV H0 285 4 := f3.1.2.1.1 285 4 (by decide +kernel)
  have z287 : hV H1 287 = hV H0 287 := fRow f3.1.2.1 287 (by decide +kernel)
  have c0 := ci.1.1
  have c5 := ci.1.2.1
  have ci0 := ci.1.2.2.1
  have rg0 := f0
  have rg1 := f1
  have a13 := f9.2
  unfold postb_208 at a13
  replace a13 := a13.1
  rw [show hV H2 287 = hV H0 287 from (fRow f9.1.2.1 287 (by decide +kernel)).trans (z287), show hV H2 285 4 = hV H0 285 4 from (f9.1.2.1.1 285 4 (by decide +kernel)).trans (z4)] at a13
  have rg11 := f7
  have rg12 := f8
  rw [show hV H2 285 4 = hV H0 285 4 from (f9.1.2.1.1 285 4 (by decide +kernel)).trans (z4)] at d17
  have s21 : n8 = n0 + 1 := by
    have q := f14
    rw [q]
    exact w32_id (by omega) (by omega)
  have ix : n0 < hV H0 285 4 := by omega
  have b := atv_B a13 ci0 ix
  have pa := pTk_at (B := BR H0) (n := (hV H0 285 4).toNat) (i := (n0).toNat) (by omega)
  rw [if_pos (by omega)] at pa
  exact ⟨CIr_skip (CIr_same (TRs_fr f9.1.2.1 (by decide +kernel)) ci) (by omega) (by omega) (by rw [pa, show (n8).toNat = (n0).toNat + 1 by omega]), by omega⟩
def g_214w_7_1 : vG := ([(10, [8, 2], [], 1), (40, [5, 7], [], 0), (0, [7], [], 9), (42, [2, 6], [], 0), (20, [6, 1], [2], 4), (1208, [5, 1, 2], [1, 2], 0), (90, [5], [], 0), (91, [5], [], 255), (45, [3, 4], [], 0), (0, [4], [], 500), (20, [3, 1], [1], 10), (5000, [0, 1, 2], [0, 1], 7), (0, [1], [], 285), (90, [2], [], 0), (91, [2], [], 2000)], (4000, [1, 8], [2], 7))
theorem c_214w_7_1 {q0 : Nat} : vOkm T0 (eN e_214 L_214w A_214 mu_214 n_214 B_214 (some q0)) 1 g_214w_7_1 := vOk_inI fun ρ η f0 f1 f2 f3 f4 f5 f6 f7 f8 f9 f10 f11 f12 f13 f14 => q_214w_2 (q0 := q0) (n0 := ρ 2) (n1 := ρ 1) (n2 := ρ 0) (n3 := ρ 3) (n4 := ρ 4) (n5 := ρ 5) (n6 := ρ 6) (n7 := ρ 7) (n8 := ρ 8) (H0 := η 0) (H1 := η 1) (H2 := η 2) f14 f13 f12 f11 f10 f9 f8 f7 f6 f5 f4 f3 f2 f1 f0
theorem q_214w_3 {q0 : Nat} {n0 n1 n2 n3 n4 n5 n6 n7 n8 n9 : Int} {H0 H1 H2 : gH} (f0 : n0 ≤ 2000) (f1 : 0 ≤ n0) (f2 : n1 = 285) (f3 : (hLe T0 H0 H1 ∧ hFr s_214.2.2.2.2 H0 H1 ∧ hWt T0 H1) ∧ ((Ab_214_7 n2 n1 n0 H0 H1 ∧ Bb_214_7 n2 n1 n0 H0 H1) ∧ True) ∧ some q0 = some (mub_214_7 n2 n1 n0 H0 H1)) (f4 : n3 = hV H1 (n1).toNat 10) (f5 : n4 = 500) (f6 : n3 ≤ n4) (f7 : n5 ≤ 255) (f8 : 0 ≤ n5) (f9 : (hLe T0 H1 H2 ∧ hFr s_208.2.2.2.2 H1 H2 ∧ ((0 : Int) = 0 → H2.length = H1.length) ∧ hWt T0 H2) ∧ postb_208 n5 n1 n0 H1 H2) (f10 : n6 = hV H2 (n1).toNat 4) (f11 : n0 < n6) (f12 : n7 = 9) (f13 : n5 ≠ n7) (f14 : n8 = 10) (f15 : n5 = n8) (f16 : n9 = w32 (n0 + 1)) : Bb_214_7 n2 n1 n9 H0 H2 := by
  unfold Bb_214_7
  intro ky
  have ga := f3.2.1.1.2
  unfold Bb_214_7 at ga
  obtain ⟨ci, xs_⟩ := ga ky
  have ab := f3.2.1.1.1
  unfold Ab_214_7 at ab
  have d8 := rdS (q := 285) f4 f2
  have d17 := rdS (q := 285) f10 f2
  have q10 := f6
  have qc9 := f5
  have q18 := f11
  have q20 := f13
  have qc19 := f12
  have q22 := f15
  have qc21 := f14
  have q23 := f16
  unfold w32 at q23
  have s4 : (0 : Int) ≤ hV H0 285 4 ∧ hV H0 285 4 ≤ 2000 := by
    have q := f3.1.2.2 285 4 _ _ rW_4
    rw [f3.1.2.1.1 285 4 (by decide +kernel)] at q
    exact q
  have z4 : hV H1 285 4 = hV H0 285 4 := f3.1.2.1.1 285 4 (by decide +kernel)
  have z287 : hV H1 287 = hV H0 287 := fRow f3.1.2.1 287 (by decide +kernel)
  have c0 := ci.1.1
  have c5 := ci.1.2.1
  have ci0 := ci.1.2.2.1
  have rg0 := f0
  have rg1 := f1
  have a13 := f9.2
  unfold postb_208 at a13
  replace a13 := a13.1
  rw [show hV H2 287 = hV H0 287 from (fRow f9.1.2.1 287 (by decide +kernel)).trans (z287), show hV H2 285 4 = hV H0 285 4 from (f9.1.2.1.1 285 4 (by decide +kernel)).trans (z4)] at a13
  have rg11 := f7
  have rg12 := f8
  rw [show hV H2 285 4 = hV H0 285 4 from (f9.1.2.1.1 285 4 (by decide +kernel)).trans (z4)] at d17
  have s23 : n9 = n0 + 1 := by
    have q := f16
    rw [q]
    exact w32_id (by omega) (by omega)
  have ix : n0 < hV H0 285 4 := by omega
  have b := atv_B a13 ci0 ix
  have pa := pTk_at (B := BR H0) (n := (hV H0 285 4).toNat) (i := (n0).toNat) (by omega)
  rw [if_pos (by omega)] at pa
  exact ⟨CIr_skip (CIr_same (TRs_fr f9.1.2.1 (by decide +kernel)) ci) (by omega) (by omega) (by rw [pa, show (n9).toNat = (n0).toNat + 1 by omega]), by omega⟩
def g_214w_7_2 : vG := ([(10, [9, 2], [], 1), (40, [5, 8], [], 0), (0, [8], [], 10), (41, [5, 7], [], 0), (0, [7], [], 9), (42, [2, 6], [], 0), (20, [6, 1], [2], 4), (1208, [5, 1, 2], [1, 2], 0), (90, [5], [], 0), (91, [5], [], 255), (45, [3, 4], [], 0), (0, [4], [], 500), (20, [3, 1], [1], 10), (5000, [0, 1, 2], [0, 1], 7), (0, [1], [], 285), (90, [2], [], 0), (91, [2], [], 2000)], (4000, [1, 9], [2], 7))
theorem c_214w_7_2 {q0 : Nat} : vOkm T0 (eN e_214 L_214w A_214 mu_214 n_214 B_214 (some q0)) 1 g_214w_7_2 := vOk_inI fun ρ η f0 f1 f2 f3 f4 f5 f6 f7 f8 f9 f10 f11 f12 f13 f14 f15 f16 => q_214w_3 (q0 := q0) (n0 := ρ 2) (n1 := ρ 1) (n2 := ρ 0) (n3 := ρ 3) (n4 := ρ 4) (n5 := ρ 5) (n6 := ρ 6) (n7 := ρ 7) (n8 := ρ 8) (n9 := ρ 9) (H0 := η 0) (H1 := η 1) (H2 := η 2) f16 f15 f14 f13 f12 f11 f10 f9 f8 f7 f6 f5 f4 f3 f2 f1 f0
theorem q_214w_4 {q0 : Nat} {n0 n1 n2 n3 n4 n5 n6 n7 n8 n9 n10 : Int} {H0 H1 H2 : gH} (f0 : n0 ≤ 2000) (f1 : 0 ≤ n0) (f2 : n1 = 285) (f3 : (hLe T0 H0 H1 ∧ hFr s_214.2.2.2.2 H0 H1 ∧ hWt T0 H1) ∧ ((Ab_214_7 n2 n1 n0 H0 H1 ∧ Bb_214_7 n2 n1 n0 H0 H1) ∧ True) ∧ some q0 = some (mub_214_7 n2 n1 n0 H0 H1)) (f4 : n3 = hV H1 (n1).toNat 10) (f5 : n4 = 500) (f6 : n3 ≤ n4) (f7 : n5 ≤ 255) (f8 : 0 ≤ n5) (f9 : (hLe T0 H1 H2 ∧ hFr s_208.2.2.2.2 H1 H2 ∧ ((0 : Int) = 0 → H2.length = H1.length) ∧ hWt T0 H2) ∧ postb_208 n5 n1 n0 H1 H2) (f10 : n6 = hV H2 (n1).toNat 4) (f11 : n0 < n6) (f12 : n7 = 9) (f13 : n5 ≠ n7) (f14 : n8 = 10) (f15 : n5 ≠ n8) (f16 : n9 = 13) (f17 : n5 = n9) (f18 : n10 = w32 (n0 + 1)) : Bb_214_7 n2 n1 n10 H0 H2 := by
  unfold Bb_214_7
  intro ky
  have ga := f3.2.1.1.2
  unfold Bb_214_7 at ga
  obtain ⟨ci, xs_⟩ := ga ky
  have ab := f3.2.1.1.1
  unfold Ab_214_7 at ab
  have d8 := rdS (q := 285) f4 f2
  have d17 := rdS (q := 285) f10 f2
  have q10 := f6
  have qc9 := f5
  have q18 := f11
  have q20 := f13
  have qc19 := f12
  have q22 := f15
  have qc21 := f14
  have q24 := f17
  have qc23 := f16
  have q25 := f18
  unfold w32 at q25
  have s4 : (0 : Int) ≤ hV H0 285 4 ∧ hV H0 285 4 ≤ 2000 := by
    have q := f3.1.2.2 285 4 _ _ rW_4
    rw [f3.1.2.1.1 285 4 (by decide +kernel)] at q
    exact q
  have z4 : hV H1 285 4 = hV H0 285 4 := f3.1.2.1.1 285 4 (by decide +kernel)
  have z287 : hV H1 287 = hV H0 287 := fRow f3.1.2.1 287 (by decide +kernel)
  have c0 := ci.1.1
  have c5 := ci.1.2.1
  have ci0 := ci.1.2.2.1
  have rg0 := f0
  have rg1 := f1
  have a13 := f9.2
  unfold postb_208 at a13
  replace a13 := a13.1
  rw [show hV H2 287 = hV H0 287 from (fRow f9.1.2.1 287 (by decide +kernel)).trans (z287), show hV H2 285 4 = hV H0 285 4 from (f9.1.2.1.1 285 4 (by decide +kernel)).trans (z4)] at a13
  have rg11 := f7
  have rg12 := f8
  rw [show hV H2 285 4 = hV H0 285 4 from (f9.1.2.1.1 285 4 (by decide +kernel)).trans (z4)] at d17
  have s25 : n10 = n0 + 1 := by
    have q := f18
    rw [q]
    exact w32_id (by omega) (by omega)
  have ix : n0 < hV H0 285 4 := by omega
  have b := atv_B a13 ci0 ix
  have pa := pTk_at (B := BR H0) (n := (hV H0 285 4).toNat) (i := (n0).toNat) (by omega)
  rw [if_pos (by omega)] at pa
  exact ⟨CIr_skip (CIr_same (TRs_fr f9.1.2.1 (by decide +kernel)) ci) (by omega) (by omega) (by rw [pa, show (n10).toNat = (n0).toNat + 1 by omega]), by omega⟩
def g_214w_7_3 : vG := ([(10, [10, 2], [], 1), (40, [5, 9], [], 0), (0, [9], [], 13), (41, [5, 8], [], 0), (0, [8], [], 10), (41, [5, 7], [], 0), (0, [7], [], 9), (42, [2, 6], [], 0), (20, [6, 1], [2], 4), (1208, [5, 1, 2], [1, 2], 0), (90, [5], [], 0), (91, [5], [], 255), (45, [3, 4], [], 0), (0, [4], [], 500), (20, [3, 1], [1], 10), (5000, [0, 1, 2], [0, 1], 7), (0, [1], [], 285), (90, [2], [], 0), (91, [2], [], 2000)], (4000, [1, 10], [2], 7))
theorem c_214w_7_3 {q0 : Nat} : vOkm T0 (eN e_214 L_214w A_214 mu_214 n_214 B_214 (some q0)) 1 g_214w_7_3 := vOk_inI fun ρ η f0 f1 f2 f3 f4 f5 f6 f7 f8 f9 f10 f11 f12 f13 f14 f15 f16 f17 f18 => q_214w_4 (q0 := q0) (n0 := ρ 2) (n1 := ρ 1) (n2 := ρ 0) (n3 := ρ 3) (n4 := ρ 4) (n5 := ρ 5) (n6 := ρ 6) (n7 := ρ 7) (n8 := ρ 8) (n9 := ρ 9) (n10 := ρ 10) (H0 := η 0) (H1 := η 1) (H2 := η 2) f18 f17 f16 f15 f14 f13 f12 f11 f10 f9 f8 f7 f6 f5 f4 f3 f2 f1 f0
theorem q_214w_5 {q0 : Nat} {n0 n1 n2 n3 n4 n5 n6 n7 n8 n9 n10 n11 n12 n13 n14 n15 n16 n17 : Int} {H0 H1 H2 H3 H4 H5 H6 : gH} (f0 : n0 ≤ 2000) (f1 : 0 ≤ n0) (f2 : n1 = 285) (f3 : (hLe T0 H0 H1 ∧ hFr s_214.2.2.2.2 H0 H1 ∧ hWt T0 H1) ∧ ((Ab_214_7 n2 n1 n0 H0 H1 ∧ Bb_214_7 n2 n1 n0 H0 H1) ∧ True) ∧ some q0 = some (mub_214_7 n2 n1 n0 H0 H1)) (f4 : n3 = hV H1 (n1).toNat 10) (f5 : n4 = 500) (f6 : n3 ≤ n4) (f7 : n5 ≤ 255) (f8 : 0 ≤ n5) (f9 : (hLe T0 H1 H2 ∧ hFr s_208.2.2.2.2 H1 H2 ∧ ((0 : Int) = 0 → H2.length = H1.length) ∧ hWt T0 H2) ∧ postb_208 n5 n1 n0 H1 H2) (f10 : n6 = hV H2 (n1).toNat 4) (f11 : n0 < n6) (f12 : n7 = 9) (f13 : n5 ≠ n7) (f14 : n8 = 10) (f15 : n5 ≠ n8) (f16 : n9 = 13) (f17 : n5 ≠ n9) (f18 : n10 = 32) (f19 : n5 ≠ n10) (f20 : (hLe T0 H2 H3 ∧ hFr s_210.2.2.2.2 H2 H3 ∧ ((0 : Int) = 0 → H3.length = H2.length) ∧ hWt T0 H3) ∧ postb_210 n11 n5 H2 H3) (f21 : n11 = 0) (f22 : (hLe T0 H3 H4 ∧ hFr s_209.2.2.2.2 H3 H4 ∧ ((0 : Int) = 0 → H4.length = H3.length) ∧ hWt T0 H4) ∧ postb_209 n12 n5 H3 H4) (f23 : n12 = 0) (f24 : n13 = 1) (f25 : n14 = w32 (n0 + n13)) (f26 : n15 ≤ 255) (f27 : 0 ≤ n15) (f28 : (hLe T0 H4 H5 ∧ hFr s_208.2.2.2.2 H4 H5 ∧ ((0 : Int) = 0 → H5.length = H4.length) ∧ hWt T0 H5) ∧ postb_208 n15 n1 n14 H4 H5) (f29 : (hLe T0 H5 H6 ∧ hFr s_215.2.2.2.2 H5 H6 ∧ ((0 : Int) = 0 → H6.length = H5.length) ∧ hWt T0 H6) ∧ (postb_215 n16 n1 n0 n5 n15 H5 H6 ∧ nb_215 n16 n1 n0 n5 n15 H5 H6)) (f30 : n17 = w32 (n0 + n16)) : Bb_214_7 n2 n1 n17 H0 H6 := by
  unfold Bb_214_7
  intro ky
  have ga := f3.2.1.1.2
  unfold Bb_214_7 at ga
  obtain ⟨ci, xs_⟩ := ga ky
  have ab := f3.2.1.1.1
  unfold Ab_214_7 at ab
  have d8 := rdS (q := 285) f4 f2
  have d17 := rdS (q := 285) f10 f2
  have q10 := f6
  have qc9 := f5
  have q18 := f11
  have q20 := f13
  have qc19 := f12
  have q22 := f15
  have qc21 := f14
  have q24 := f17
  have qc23 := f16
  have q26 := f19
  have qc25 := f18
  have q30 := f21
  have q34 := f23
  have s4 : (0 : Int) ≤ hV H0 285 4 ∧ hV H0 285 4 ≤ 2000 := by
    have q := f3.1.2.2 285 4 _ _ rW_4
    rw [f3.1.2.1.1 285 4 (by decide +kernel)] at q
    exact q
  have z4 : hV H1 285 4 = hV H0 285 4 := f3.1.2.1.1 285 4 (by decide +kernel)
  have z287 : hV H1 287 = hV H0 287 := fRow f3.1.2.1 287 (by decide +kernel)
  have c0 := ci.1.1
  have c5 := ci.1.2.1
  have ci0 := ci.1.2.2.1
  have rg0 := f0
  have rg1 := f1
  have a13 := f9.2
  unfold postb_208 at a13
  replace a13 := a13.1
  rw [show hV H2 287 = hV H0 287 from (fRow f9.1.2.1 287 (by decide +kernel)).trans (z287), show hV H2 285 4 = hV H0 285 4 from (f9.1.2.1.1 285 4 (by decide +kernel)).trans (z4)] at a13
  have rg11 := f7
  have rg12 := f8
  have a39 := f28.2
  unfold postb_208 at a39
  replace a39 := a39.1
  rw [show hV H5 287 = hV H0 287 from ((fRow f28.1.2.1 287 (by decide +kernel)).trans ((fRow f22.1.2.1 287 (by decide +kernel)).trans ((fRow f20.1.2.1 287 (by decide +kernel)).trans (fRow f9.1.2.1 287 (by decide +kernel))))).trans (z287), show hV H5 285 4 = hV H0 285 4 from ((f28.1.2.1.1 285 4 (by decide +kernel)).trans ((f22.1.2.1.1 285 4 (by decide +kernel)).trans ((f20.1.2.1.1 285 4 (by decide +kernel)).trans (f9.1.2.1.1 285 4 (by decide +kernel))))).trans (z4)] at a39
  have rg37 := f26
  have rg38 := f27
  rw [show hV H2 285 4 = hV H0 285 4 from (f9.1.2.1.1 285 4 (by decide +kernel)).trans (z4)] at d17
  have l29 := f20.2
  unfold postb_210 at l29
  have l33 := f22.2
  unfold postb_209 at l33
  have sr := f29.2.1
  unfold postb_215 at sr
  replace sr := sr.2
  have s36 : n14 = n0 + 1 := by
    have q := f25
    rw [f24] at q
    rw [q]
    exact w32_id (by omega) (by omega)
  have s43 : n17 = n0 + n16 := by
    have q := f30
    rw [q]
    exact w32_id (by omega) (by omega)
  have ix : n0 < hV H0 285 4 := by omega
  have b := atv_B a13 ci0 ix
  have pa := pTk_at (B := BR H0) (n := (hV H0 285 4).toNat) (i := (n0).toNat) (by omega)
  have n := f29.2.2
  unfold nb_215 at n
  obtain ⟨k, n1_, n2_, n3_, n4_⟩ := n
  have e10 : hV H5 285 10 = hV H1 285 10 := (f28.1.2.1.1 285 10 (by decide +kernel)).trans ((f22.1.2.1.1 285 10 (by decide +kernel)).trans ((f20.1.2.1.1 285 10 (by decide +kernel)).trans (f9.1.2.1.1 285 10 (by decide +kernel))))
  have tw : (n15 = 61 ∧ ¬ sg2 n5 = 1) ↔ ((n0).toNat + 1 < (hV H0 285 4).toNat ∧ BR H0 ((n0).toNat + 1) = 61 ∧ ¬ sg2 (BR H0 (n0).toNat) = 1) := by
    rw [← b]
    rcases Int.lt_or_le n14 (hV H0 285 4) with c | c
    · have b2 := atv_B a39 (by omega) c
      rw [show (n14).toNat = (n0).toNat + 1 by omega] at b2
      rw [b2]
      exact ⟨fun y => ⟨by omega, y.1, y.2⟩, fun y => y.2⟩
    · have b2 := atv_0 a39 c
      exact ⟨fun y => by omega, fun y => by omega⟩
  rw [if_neg (by omega), if_neg (by omega), if_neg (by omega)] at pa
  have cs := CIr_same (TRs.trans (TRs_fr f9.1.2.1 (by decide +kernel)) (TRs.trans (TRs_fr f20.1.2.1 (by decide +kernel)) (TRs.trans (TRs_fr f22.1.2.1 (by decide +kernel)) (TRs_fr f28.1.2.1 (by decide +kernel))))) ci
  rcases n2_ with ⟨y, y1, y2⟩ | ⟨y, y1, y2⟩
  · rw [if_pos (tw.mp y)] at pa
    refine ⟨CIr_add cs n1_ (by omega) (by omega) (by omega) (fun c => absurd c n3_) ?_ (by rw [pa, show (n17).toNat = (n0).toNat + 2 by omega]), by omega⟩
    rw [y1, b, if_neg n4_, if_neg n3_, Int.toNat_of_nonneg ci0]
  · rw [if_neg (fun c => y (tw.mpr c))] at pa
    refine ⟨CIr_add cs n1_ (by omega) (by omega) (by omega) (fun c => absurd c n3_) ?_ (by rw [pa, show (n17).toNat = (n0).toNat + 1 by omega]), by omega⟩
    rw [y1, b, if_neg n4_, if_neg n3_, Int.toNat_of_nonneg ci0]
def g_214w_7_4 : vG := ([(1, [17, 2, 16], [], 0), (1215, [16, 1, 2, 5, 15], [5, 6], 0), (1208, [15, 1, 14], [4, 5], 0), (90, [15], [], 0), (91, [15], [], 255), (1, [14, 2, 13], [], 0), (0, [13], [], 1), (30, [12], [], 0), (1209, [12, 5], [3, 4], 0), (30, [11], [], 0), (1210, [11, 5], [2, 3], 0), (41, [5, 10], [], 0), (0, [10], [], 32), (41, [5, 9], [], 0), (0, [9], [], 13), (41, [5, 8], [], 0), (0, [8], [], 10), (41, [5, 7], [], 0), (0, [7], [], 9), (42, [2, 6], [], 0), (20, [6, 1], [2], 4), (1208, [5, 1, 2], [1, 2], 0), (90, [5], [], 0), (91, [5], [], 255), (45, [3, 4], [], 0), (0, [4], [], 500), (20, [3, 1], [1], 10), (5000, [0, 1, 2], [0, 1], 7), (0, [1], [], 285), (90, [2], [], 0), (91, [2], [], 2000)], (4000, [1, 17], [6], 7))
theorem c_214w_7_4 {q0 : Nat} : vOkm T0 (eN e_214 L_214w A_214 mu_214 n_214 B_214 (some q0)) 1 g_214w_7_4 := vOk_inI fun ρ η f0 f1 f2 f3 f4 f5 f6 f7 f8 f9 f10 f11 f12 f13 f14 f15 f16 f17 f18 f19 f20 f21 f22 f23 f24 f25 f26 f27 f28 f29 f30 => q_214w_5 (q0 := q0) (n0 := ρ 2) (n1 := ρ 1) (n2 := ρ 0) (n3 := ρ 3) (n4 := ρ 4) (n5 := ρ 5) (n6 := ρ 6) (n7 := ρ 7) (n8 := ρ 8) (n9 := ρ 9) (n10 := ρ 10) (n11 := ρ 11) (n12 := ρ 12) (n13 := ρ 13) (n14 := ρ 14) (n15 := ρ 15) (n16 := ρ 16) (n17 := ρ 17) (H0 := η 0) (H1 := η 1) (H2 := η 2) (H3 := η 3) (H4 := η 4) (H5 := η 5) (H6 := η 6) f30 f29 f28 f27 f26 f25 f24 f23 f22 f21 f20 f19 f18 f17 f16 f15 f14 f13 f12 f11 f10 f9 f8 f7 f6 f5 f4 f3 f2 f1 f0
theorem q_214w_6 {q0 : Nat} {n0 n1 n2 n3 n4 n5 n6 n7 n8 n9 n10 n11 n12 n13 n14 : Int} {H0 H1 H2 H3 H4 : gH} (f0 : n0 ≤ 2000) (f1 : 0 ≤ n0) (f2 : n1 = 285) (f3 : (hLe T0 H0 H1 ∧ hFr s_214.2.2.2.2 H0 H1 ∧ hWt T0 H1) ∧ ((Ab_214_7 n2 n1 n0 H0 H1 ∧ Bb_214_7 n2 n1 n0 H0 H1) ∧ True) ∧ some q0 = some (mub_214_7 n2 n1 n0 H0 H1)) (f4 : n3 = hV H1 (n1).toNat 10) (f5 : n4 = 500) (f6 : n3 ≤ n4) (f7 : n5 ≤ 255) (f8 : 0 ≤ n5) (f9 : (hLe T0 H1 H2 ∧ hFr s_208.2.2.2.2 H1 H2 ∧ ((0 : Int) = 0 → H2.length = H1.length) ∧ hWt T0 H2) ∧ postb_208 n5 n1 n0 H1 H2) (f10 : n6 = hV H2 (n1).toNat 4) (f11 : n0 < n6) (f12 : n7 = 9) (f13 : n5 ≠ n7) (f14 : n8 = 10) (f15 : n5 ≠ n8) (f16 : n9 = 13) (f17 : n5 ≠ n9) (f18 : n10 = 32) (f19 : n5 ≠ n10) (f20 : (hLe T0 H2 H3 ∧ hFr s_210.2.2.2.2 H2 H3 ∧ ((0 : Int) = 0 → H3.length = H2.length) ∧ hWt T0 H3) ∧ postb_210 n11 n5 H2 H3) (f21 : n11 = 0) (f22 : (hLe T0 H3 H4 ∧ hFr s_209.2.2.2.2 H3 H4 ∧ ((0 : Int) = 0 → H4.length = H3.length) ∧ hWt T0 H4) ∧ postb_209 n12 n5 H3 H4) (f23 : n12 ≠ 0) (f24 : n13 = 0) (f25 : n14 = 0) : Bb_214_208 n2 n1 n0 n5 n13 n14 H0 H4 := by
  unfold Bb_214_208
  intro ky
  have ga := f3.2.1.1.2
  unfold Bb_214_7 at ga
  obtain ⟨ci, xs_⟩ := ga ky
  have ab := f3.2.1.1.1
  unfold Ab_214_7 at ab
  have d8 := rdS (q := 285) f4 f2
  have d17 := rdS (q := 285) f10 f2
  have q10 := f6
  have qc9 := f5
  have q18 := f11
  have q20 := f13
  have qc19 := f12
  have q22 := f15
  have qc21 := f14
  have q24 := f17
  have qc23 := f16
  have q26 := f19
  have qc25 := f18
  have q30 := f21
  have q34 := f23
  have s4 : (0 : Int) ≤ hV H0 285 4 ∧ hV H0 285 4 ≤ 2000 := by
    have q := f3.1.2.2 285 4 _ _ rW_4
    rw [f3.1.2.1.1 285 4 (by decide +kernel)] at q
    exact q
  have z4 : hV H1 285 4 = hV H0 285 4 := f3.1.2.1.1 285 4 (by decide +kernel)
  have z287 : hV H1 287 = hV H0 287 := fRow f3.1.2.1 287 (by decide +kernel)
  have c0 := ci.1.1
  have c5 := ci.1.2.1
  have ci0 := ci.1.2.2.1
  have rg0 := f0
  have rg1 := f1
  have a13 := f9.2
  unfold postb_208 at a13
  replace a13 := a13.1
  rw [show hV H2 287 = hV H0 287 from (fRow f9.1.2.1 287 (by decide +kernel)).trans (z287), show hV H2 285 4 = hV H0 285 4 from (f9.1.2.1.1 285 4 (by decide +kernel)).trans (z4)] at a13
  have rg11 := f7
  have rg12 := f8
  rw [show hV H2 285 4 = hV H0 285 4 from (f9.1.2.1.1 285 4 (by decide +kernel)).trans (z4)] at d17
  have l29 := f20.2
  unfold postb_210 at l29
  have l33 := f22.2
  unfold postb_209 at l33
  have ix : n0 < hV H0 285 4 := by omega
  have b := atv_B a13 ci0 ix
  have pa := pTk_at (B := BR H0) (n := (hV H0 285 4).toNat) (i := (n0).toNat) (by omega)
  have x3c := f24
  have x4c := f25
  rw [x3c, x4c]
  exact ⟨CIr_same (TRs.trans (TRs_fr f9.1.2.1 (by decide +kernel)) (TRs.trans (TRs_fr f20.1.2.1 (by decide +kernel)) (TRs_fr f22.1.2.1 (by decide +kernel)))) ci, ix, by omega, by omega, DIs_zero, fun _ => rfl⟩
def g_214w_7_5 : vG := ([(0, [14], [], 0), (0, [13], [], 0), (31, [12], [], 0), (1209, [12, 5], [3, 4], 0), (30, [11], [], 0), (1210, [11, 5], [2, 3], 0), (41, [5, 10], [], 0), (0, [10], [], 32), (41, [5, 9], [], 0), (0, [9], [], 13), (41, [5, 8], [], 0), (0, [8], [], 10), (41, [5, 7], [], 0), (0, [7], [], 9), (42, [2, 6], [], 0), (20, [6, 1], [2], 4), (1208, [5, 1, 2], [1, 2], 0), (90, [5], [], 0), (91, [5], [], 255), (45, [3, 4], [], 0), (0, [4], [], 500), (20, [3, 1], [1], 10), (5000, [0, 1, 2], [0, 1], 7), (0, [1], [], 285), (90, [2], [], 0), (91, [2], [], 2000)], (4000, [1, 2, 5, 13, 14], [4], 208))
theorem c_214w_7_5 {q0 : Nat} : vOkm T0 (eN e_214 L_214w A_214 mu_214 n_214 B_214 (some q0)) 1 g_214w_7_5 := vOk_inI fun ρ η f0 f1 f2 f3 f4 f5 f6 f7 f8 f9 f10 f11 f12 f13 f14 f15 f16 f17 f18 f19 f20 f21 f22 f23 f24 f25 => q_214w_6 (q0 := q0) (n0 := ρ 2) (n1 := ρ 1) (n2 := ρ 0) (n3 := ρ 3) (n4 := ρ 4) (n5 := ρ 5) (n6 := ρ 6) (n7 := ρ 7) (n8 := ρ 8) (n9 := ρ 9) (n10 := ρ 10) (n11 := ρ 11) (n12 := ρ 12) (n13 := ρ 13) (n14 := ρ 14) (H0 := η 0) (H1 := η 1) (H2 := η 2) (H3 := η 3) (H4 := η 4) f25 f24 f23 f22 f21 f20 f19 f18 f17 f16 f15 f14 f13 f12 f11 f10 f9 f8 f7 f6 f5 f4 f3 f2 f1 f0
theorem q_214w_7 {q0 : Nat} {n0 n1 n2 n3 n4 n5 n6 n7 n8 n9 n10 n11 n12 n13 : Int} {H0 H1 H2 H3 : gH} (f0 : n0 ≤ 2000) (f1 : 0 ≤ n0) (f2 : n1 = 285) (f3 : (hLe T0 H0 H1 ∧ hFr s_214.2.2.2.2 H0 H1 ∧ hWt T0 H1) ∧ ((Ab_214_7 n2 n1 n0 H0 H1 ∧ Bb_214_7 n2 n1 n0 H0 H1) ∧ True) ∧ some q0 = some (mub_214_7 n2 n1 n0 H0 H1)) (f4 : n3 = hV H1 (n1).toNat 10) (f5 : n4 = 500) (f6 : n3 ≤ n4) (f7 : n5 ≤ 255) (f8 : 0 ≤ n5) (f9 : (hLe T0 H1 H2 ∧ hFr s_208.2.2.2.2 H1 H2 ∧ ((0 : Int) = 0 → H2.length = H1.length) ∧ hWt T0 H2) ∧ postb_208 n5 n1 n0 H1 H2) (f10 : n6 = hV H2 (n1).toNat 4) (f11 : n0 < n6) (f12 : n7 = 9) (f13 : n5 ≠ n7) (f14 : n8 = 10) (f15 : n5 ≠ n8) (f16 : n9 = 13) (f17 : n5 ≠ n9) (f18 : n10 = 32) (f19 : n5 ≠ n10) (f20 : (hLe T0 H2 H3 ∧ hFr s_210.2.2.2.2 H2 H3 ∧ ((0 : Int) = 0 → H3.length = H2.length) ∧ hWt T0 H3) ∧ postb_210 n11 n5 H2 H3) (f21 : n11 ≠ 0) (f22 : n12 = 0) (f23 : n13 = 0) : Bb_214_85 n2 n1 n0 n5 n12 n13 H0 H3 := by
  unfold Bb_214_85
  intro ky
  have ga := f3.2.1.1.2
  unfold Bb_214_7 at ga
  obtain ⟨ci, xs_⟩ := ga ky
  have ab := f3.2.1.1.1
  unfold Ab_214_7 at ab
  have d8 := rdS (q := 285) f4 f2
  have d17 := rdS (q := 285) f10 f2
  have q10 := f6
  have qc9 := f5
  have q18 := f11
  have q20 := f13
  have qc19 := f12
  have q22 := f15
  have qc21 := f14
  have q24 := f17
  have qc23 := f16
  have q26 := f19
  have qc25 := f18
  have q30 := f21
  have s4 : (0 : Int) ≤ hV H0 285 4 ∧ hV H0 285 4 ≤ 2000 := by
    have q := f3.1.2.2 285 4 _ _ rW_4
    rw [f3.1.2.1.1 285 4 (by decide +kernel)] at q
    exact q
  have z4 : hV H1 285 4 = hV H0 285 4 := f3.1.2.1.1 285 4 (by decide +kernel)
  have z287 : hV H1 287 = hV H0 287 := fRow f3.1.2.1 287 (by decide +kernel)
  have c0 := ci.1.1
  have c5 := ci.1.2.1
  have ci0 := ci.1.2.2.1
  have rg0 := f0
  have rg1 := f1
  have a13 := f9.2
  unfold postb_208 at a13
  replace a13 := a13.1
  rw [show hV H2 287 = hV H0 287 from (fRow f9.1.2.1 287 (by decide +kernel)).trans (z287), show hV H2 285 4 = hV H0 285 4 from (f9.1.2.1.1 285 4 (by decide +kernel)).trans (z4)] at a13
  have rg11 := f7
  have rg12 := f8
  rw [show hV H2 285 4 = hV H0 285 4 from (f9.1.2.1.1 285 4 (by decide +kernel)).trans (z4)] at d17
  have l29 := f20.2
  unfold postb_210 at l29
  have ix : n0 < hV H0 285 4 := by omega
  have b := atv_B a13 ci0 ix
  have pa := pTk_at (B := BR H0) (n := (hV H0 285 4).toNat) (i := (n0).toNat) (by omega)
  have x3c := f22
  have x4c := f23
  rw [x3c, x4c]
  exact ⟨CIr_same (TRs.trans (TRs_fr f9.1.2.1 (by decide +kernel)) (TRs_fr f20.1.2.1 (by decide +kernel))) ci, ix, by omega, LEs_zero, fun _ => rfl⟩
def g_214w_7_6 : vG := ([(0, [13], [], 0), (0, [12], [], 0), (31, [11], [], 0), (1210, [11, 5], [2, 3], 0), (41, [5, 10], [], 0), (0, [10], [], 32), (41, [5, 9], [], 0), (0, [9], [], 13), (41, [5, 8], [], 0), (0, [8], [], 10), (41, [5, 7], [], 0), (0, [7], [], 9), (42, [2, 6], [], 0), (20, [6, 1], [2], 4), (1208, [5, 1, 2], [1, 2], 0), (90, [5], [], 0), (91, [5], [], 255), (45, [3, 4], [], 0), (0, [4], [], 500), (20, [3, 1], [1], 10), (5000, [0, 1, 2], [0, 1], 7), (0, [1], [], 285), (90, [2], [], 0), (91, [2], [], 2000)], (4000, [1, 2, 5, 12, 13], [3], 85))
theorem c_214w_7_6 {q0 : Nat} : vOkm T0 (eN e_214 L_214w A_214 mu_214 n_214 B_214 (some q0)) 1 g_214w_7_6 := vOk_inI fun ρ η f0 f1 f2 f3 f4 f5 f6 f7 f8 f9 f10 f11 f12 f13 f14 f15 f16 f17 f18 f19 f20 f21 f22 f23 => q_214w_7 (q0 := q0) (n0 := ρ 2) (n1 := ρ 1) (n2 := ρ 0) (n3 := ρ 3) (n4 := ρ 4) (n5 := ρ 5) (n6 := ρ 6) (n7 := ρ 7) (n8 := ρ 8) (n9 := ρ 9) (n10 := ρ 10) (n11 := ρ 11) (n12 := ρ 12) (n13 := ρ 13) (H0 := η 0) (H1 := η 1) (H2 := η 2) (H3 := η 3) f23 f22 f21 f20 f19 f18 f17 f16 f15 f14 f13 f12 f11 f10 f9 f8 f7 f6 f5 f4 f3 f2 f1 f0
theorem q_214w_8 {q0 : Nat} {n0 n1 n2 n3 n4 n5 n6 n7 n8 n9 n10 n11 : Int} {H0 H1 H2 : gH} (f0 : n0 ≤ 2000) (f1 : 0 ≤ n0) (f2 : n1 = 285) (f3 : (hLe T0 H0 H1 ∧ hFr s_214.2.2.2.2 H0 H1 ∧ hWt T0 H1) ∧ ((Ab_214_7 n2 n1 n0 H0 H1 ∧ Bb_214_7 n2 n1 n0 H0 H1) ∧ True) ∧ some q0 = some (mub_214_7 n2 n1 n0 H0 H1)) (f4 : n3 = hV H1 (n1).toNat 10) (f5 : n4 = 500) (f6 : n3 ≤ n4) (f7 : n5 ≤ 255) (f8 : 0 ≤ n5) (f9 : (hLe T0 H1 H2 ∧ hFr s_208.2.2.2.2 H1 H2 ∧ ((0 : Int) = 0 → H2.length = H1.length) ∧ hWt T0 H2) ∧ postb_208 n5 n1 n0 H1 H2) (f10 : n6 = hV H2 (n1).toNat 4) (f11 : n0 < n6) (f12 : n7 = 9) (f13 : n5 ≠ n7) (f14 : n8 = 10) (f15 : n5 ≠ n8) (f16 : n9 = 13) (f17 : n5 ≠ n9) (f18 : n10 = 32) (f19 : n5 = n10) (f20 : n11 = w32 (n0 + 1)) : Bb_214_7 n2 n1 n11 H0 H2 := by
  unfold Bb_214_7
  intro ky
  have ga := f3.2.1.1.2
  unfold Bb_214_7 at ga
  obtain ⟨ci, xs_⟩ := ga ky
  have ab := f3.2.1.1.1
  unfold Ab_214_7 at ab
  have d8 := rdS (q := 285) f4 f2
  have d17 := rdS (q := 285) f10 f2
  have q10 := f6
  have qc9 := f5
  have q18 := f11
  have q20 := f13
  have qc19 := f12
  have q22 := f15
  have qc21 := f14
  have q24 := f17
  have qc23 := f16
  have q26 := f19
  have qc25 := f18
  have q27 := f20
  unfold w32 at q27
  have s4 : (0 : Int) ≤ hV H0 285 4 ∧ hV H0 285 4 ≤ 2000 := by
    have q := f3.1.2.2 285 4 _ _ rW_4
    rw [f3.1.2.1.1 285 4 (by decide +kernel)] at q
    exact q
  have z4 : hV H1 285 4 = hV H0 285 4 := f3.1.2.1.1 285 4 (by decide +kernel)
  have z287 : hV H1 287 = hV H0 287 := fRow f3.1.2.1 287 (by decide +kernel)
  have c0 := ci.1.1
  have c5 := ci.1.2.1
  have ci0 := ci.1.2.2.1
  have rg0 := f0
  have rg1 := f1
  have a13 := f9.2
  unfold postb_208 at a13
  replace a13 := a13.1
  rw [show hV H2 287 = hV H0 287 from (fRow f9.1.2.1 287 (by decide +kernel)).trans (z287), show hV H2 285 4 = hV H0 285 4 from (f9.1.2.1.1 285 4 (by decide +kernel)).trans (z4)] at a13
  have rg11 := f7
  have rg12 := f8
  rw [show hV H2 285 4 = hV H0 285 4 from (f9.1.2.1.1 285 4 (by decide +kernel)).trans (z4)] at d17
  have s27 : n11 = n0 + 1 := by
    have q := f20
    rw [q]
    exact w32_id (by omega) (by omega)
  have ix : n0 < hV H0 285 4 := by omega
  have b := atv_B a13 ci0 ix
  have pa := pTk_at (B := BR H0) (n := (hV H0 285 4).toNat) (i := (n0).toNat) (by omega)
  rw [if_pos (by omega)] at pa
  exact ⟨CIr_skip (CIr_same (TRs_fr f9.1.2.1 (by decide +kernel)) ci) (by omega) (by omega) (by rw [pa, show (n11).toNat = (n0).toNat + 1 by omega]), by omega⟩
def g_214w_7_7 : vG := ([(10, [11, 2], [], 1), (40, [5, 10], [], 0), (0, [10], [], 32), (41, [5, 9], [], 0), (0, [9], [], 13), (41, [5, 8], [], 0), (0, [8], [], 10), (41, [5, 7], [], 0), (0, [7], [], 9), (42, [2, 6], [], 0), (20, [6, 1], [2], 4), (1208, [5, 1, 2], [1, 2], 0), (90, [5], [], 0), (91, [5], [], 255), (45, [3, 4], [], 0), (0, [4], [], 500), (20, [3, 1], [1], 10), (5000, [0, 1, 2], [0, 1], 7), (0, [1], [], 285), (90, [2], [], 0), (91, [2], [], 2000)], (4000, [1, 11], [2], 7))
theorem c_214w_7_7 {q0 : Nat} : vOkm T0 (eN e_214 L_214w A_214 mu_214 n_214 B_214 (some q0)) 1 g_214w_7_7 := vOk_inI fun ρ η f0 f1 f2 f3 f4 f5 f6 f7 f8 f9 f10 f11 f12 f13 f14 f15 f16 f17 f18 f19 f20 => q_214w_8 (q0 := q0) (n0 := ρ 2) (n1 := ρ 1) (n2 := ρ 0) (n3 := ρ 3) (n4 := ρ 4) (n5 := ρ 5) (n6 := ρ 6) (n7 := ρ 7) (n8 := ρ 8) (n9 := ρ 9) (n10 := ρ 10) (n11 := ρ 11) (H0 := η 0) (H1 := η 1) (H2 := η 2) f20 f19 f18 f17 f16 f15 f14 f13 f12 f11 f10 f9 f8 f7 f6 f5 f4 f3 f2 f1 f0
theorem q_214w_9 {q0 : Nat} {n0 n1 n2 n3 n4 n5 n6 n7 n8 n9 n10 : Int} {H0 H1 H2 H3 : gH} (f0 : n0 ≤ 2000) (f1 : 0 ≤ n0) (f2 : n1 = 285) (f3 : (hLe T0 H0 H1 ∧ hFr s_214.2.2.2.2 H0 H1 ∧ hWt T0 H1) ∧ ((Ab_214_7 n2 n1 n0 H0 H1 ∧ Bb_214_7 n2 n1 n0 H0 H1) ∧ True) ∧ some q0 = some (mub_214_7 n2 n1 n0 H0 H1)) (f4 : n3 = hV H1 (n1).toNat 10) (f5 : n4 = 500) (f6 : n3 ≤ n4) (f7 : n5 ≤ 255) (f8 : 0 ≤ n5) (f9 : (hLe T0 H1 H2 ∧ hFr s_208.2.2.2.2 H1 H2 ∧ ((0 : Int) = 0 → H2.length = H1.length) ∧ hWt T0 H2) ∧ postb_208 n5 n1 n0 H1 H2) (f10 : n6 = hV H2 (n1).toNat 4) (f11 : n6 ≤ n0) (f12 : n7 = 0) (f13 : n8 = hV H2 (n1).toNat 4) (f14 : n9 = 0) (f15 : n10 = 0) (f16 : (hLe T0 H2 H3 ∧ hFr s_213.2.2.2.2 H2 H3 ∧ ((0 : Int) = 0 → H3.length = H2.length) ∧ hWt T0 H3) ∧ (postb_213 n1 n7 n8 n9 n10 H2 H3 ∧ nb_213 n1 n7 n8 n9 n10 H2 H3)) : nb_214 n2 H0 H3 := by
  unfold nb_214
  intro ky
  have ga := f3.2.1.1.2
  unfold Bb_214_7 at ga
  obtain ⟨ci, xs_⟩ := ga ky
  have ab := f3.2.1.1.1
  unfold Ab_214_7 at ab
  have d8 := rdS (q := 285) f4 f2
  have d17 := rdS (q := 285) f10 f2
  have d23 := rdS (q := 285) f13 f2
  have q10 := f6
  have qc9 := f5
  have q18 := f11
  have s4 : (0 : Int) ≤ hV H0 285 4 ∧ hV H0 285 4 ≤ 2000 := by
    have q := f3.1.2.2 285 4 _ _ rW_4
    rw [f3.1.2.1.1 285 4 (by decide +kernel)] at q
    exact q
  have z4 : hV H1 285 4 = hV H0 285 4 := f3.1.2.1.1 285 4 (by decide +kernel)
  have z287 : hV H1 287 = hV H0 287 := fRow f3.1.2.1 287 (by decide +kernel)
  have c0 := ci.1.1
  have c5 := ci.1.2.1
  have ci0 := ci.1.2.2.1
  have rg0 := f0
  have rg1 := f1
  have a13 := f9.2
  unfold postb_208 at a13
  replace a13 := a13.1
  rw [show hV H2 287 = hV H0 287 from (fRow f9.1.2.1 287 (by decide +kernel)).trans (z287), show hV H2 285 4 = hV H0 285 4 from (f9.1.2.1.1 285 4 (by decide +kernel)).trans (z4)] at a13
  have rg11 := f7
  have rg12 := f8
  rw [show hV H2 285 4 = hV H0 285 4 from (f9.1.2.1.1 285 4 (by decide +kernel)).trans (z4)] at d17
  rw [show hV H2 285 4 = hV H0 285 4 from (f9.1.2.1.1 285 4 (by decide +kernel)).trans (z4)] at d23
  have n := f16.2.2
  unfold nb_213 at n
  try rw [f12] at n
  try rw [f14] at n
  try rw [f15] at n
  rw [d23] at n
  have cs := CIr_same (TRs_fr f9.1.2.1 (by decide +kernel)) ci
  have r10 := d8
  have e10 : hV H2 285 10 = hV H1 285 10 := f9.1.2.1.1 285 10 (by decide +kernel)
  obtain ⟨L, w1, w2⟩ := cs.2
  have al := TKL_end w2 (by omega)
  have ll := w1.1
  refine ⟨TR_all cs.1 (by omega) n (by omega) s4.2, ?_⟩
  exact cut_all (TLR_add w1 n rfl) al (by omega)
def g_214w_7_8 : vG := ([(1213, [1, 7, 8, 9, 10], [2, 3], 0), (0, [10], [], 0), (0, [9], [], 0), (20, [8, 1], [2], 4), (0, [7], [], 0), (43, [2, 6], [], 0), (20, [6, 1], [2], 4), (1208, [5, 1, 2], [1, 2], 0), (90, [5], [], 0), (91, [5], [], 255), (45, [3, 4], [], 0), (0, [4], [], 500), (20, [3, 1], [1], 10), (5000, [0, 1, 2], [0, 1], 7), (0, [1], [], 285), (90, [2], [], 0), (91, [2], [], 2000)], (3000, [], [3], 42))
theorem c_214w_7_8 {q0 : Nat} : vOkm T0 (eN e_214 L_214w A_214 mu_214 n_214 B_214 (some q0)) 1 g_214w_7_8 := vOk_inI fun ρ η f0 f1 f2 f3 f4 f5 f6 f7 f8 f9 f10 f11 f12 f13 f14 f15 f16 => q_214w_9 (q0 := q0) (n0 := ρ 2) (n1 := ρ 1) (n2 := ρ 0) (n3 := ρ 3) (n4 := ρ 4) (n5 := ρ 5) (n6 := ρ 6) (n7 := ρ 7) (n8 := ρ 8) (n9 := ρ 9) (n10 := ρ 10) (H0 := η 0) (H1 := η 1) (H2 := η 2) (H3 := η 3) f16 f15 f14 f13 f12 f11 f10 f9 f8 f7 f6 f5 f4 f3 f2 f1 f0
def p_214w_7 : List vG := [g_214w_7_0,
  g_214w_7_1,
  g_214w_7_2,
  g_214w_7_3,
  g_214w_7_4,
  g_214w_7_5,
  g_214w_7_6,
  g_214w_7_7,
  g_214w_7_8]
theorem r_214w_7 : vCovBO (eRc e_214 L_214 cs_214 2000 (7, [(0, (3, 12, 285, 0)), (1, (0, 0, 2000, 0))])) p_214w_7 = true := by decide +kernel
theorem q_214w_10 {q0 : Nat} {n0 n1 n2 n3 n4 n5 n6 n7 n8 n9 n10 n11 n12 n13 : Int} {H0 H1 H2 H3 H4 : gH} (f0 : n0 ≤ 2000) (f1 : 0 ≤ n0) (f2 : n1 ≤ 2147483647) (f3 : (-2147483648) ≤ n1) (f4 : n2 ≤ 2000) (f5 : 0 ≤ n2) (f6 : (hLe T0 H0 H1 ∧ hFr s_214.2.2.2.2 H0 H1 ∧ hWt T0 H1) ∧ ((Ab_214_85 n4 n3 n2 n1 n0 n5 H0 H1 ∧ Bb_214_85 n4 n3 n2 n1 n0 n5 H0 H1) ∧ True) ∧ some q0 = some (mub_214_85 n4 n3 n2 n1 n0 n5 H0 H1)) (f7 : n6 = w32 (n2 + n0)) (f8 : n7 ≤ 255) (f9 : 0 ≤ n7) (f10 : (hLe T0 H1 H2 ∧ hFr s_208.2.2.2.2 H1 H2 ∧ ((0 : Int) = 0 → H2.length = H1.length) ∧ hWt T0 H2) ∧ postb_208 n7 n3 n6 H1 H2) (f11 : (hLe T0 H2 H3 ∧ hFr s_210.2.2.2.2 H2 H3 ∧ ((0 : Int) = 0 → H3.length = H2.length) ∧ hWt T0 H3) ∧ postb_210 n8 n7 H2 H3) (f12 : n8 = 0) (f13 : n9 = 8) (f14 : n0 ≤ n9) (f15 : n10 = 1) (f16 : n11 = 7) (f17 : n11 < n0) (f18 : n12 = 0) (f19 : (hLe T0 H3 H4 ∧ hFr s_213.2.2.2.2 H3 H4 ∧ ((0 : Int) = 0 → H4.length = H3.length) ∧ hWt T0 H4) ∧ (postb_213 n3 n10 n2 n12 n5 H3 H4 ∧ nb_213 n3 n10 n2 n12 n5 H3 H4)) (f20 : n13 = w32 (n2 + n0)) : Bb_214_7 n4 n3 n13 H0 H4 := by
  unfold Bb_214_7
  intro ky
  have ga := f6.2.1.1.2
  unfold Bb_214_85 at ga
  obtain ⟨ci, xs_, lt, le, nv⟩ := ga ky
  have ab := f6.2.1.1.1
  unfold Ab_214_85 at ab
  have q16 := f12
  have q18 := f14
  have qc17 := f13
  have q21 := f17
  have qc20 := f16
  have s4 : (0 : Int) ≤ hV H0 285 4 ∧ hV H0 285 4 ≤ 2000 := by
    have q := f6.1.2.2 285 4 _ _ rW_4
    rw [f6.1.2.1.1 285 4 (by decide +kernel)] at q
    exact q
  have z4 : hV H1 285 4 = hV H0 285 4 := f6.1.2.1.1 285 4 (by decide +kernel)
  have z287 : hV H1 287 = hV H0 287 := fRow f6.1.2.1 287 (by decide +kernel)
  have c0 := ci.1.1
  have c5 := ci.1.2.1
  have ci0 := ci.1.2.2.1
  rw [z4] at ab
  have rg0 := f0
  have rg1 := f1
  have rg2 := f2
  have rg3 := f3
  have rg4 := f4
  have rg5 := f5
  have a12 := f10.2
  unfold postb_208 at a12
  replace a12 := a12.1
  rw [show hV H2 287 = hV H0 287 from (fRow f10.1.2.1 287 (by decide +kernel)).trans (z287), show hV H2 285 4 = hV H0 285 4 from (f10.1.2.1.1 285 4 (by decide +kernel)).trans (z4)] at a12
  have rg10 := f8
  have rg11 := f9
  have l15 := f11.2
  unfold postb_210 at l15
  have s9 : n6 = n2 + n0 := by
    have q := f7
    rw [q]
    exact w32_id (by omega) (by omega)
  have s24 : n13 = n2 + n0 := by
    have q := f20
    rw [q]
    exact w32_id (by omega) (by omega)
  have in_ := le.1
  have en : (hV H0 285 4).toNat ≤ (n2).toNat + (n0).toNat ∨ BR H0 ((n2).toNat + (n0).toNat) < 97 ∨ 122 < BR H0 ((n2).toNat + (n0).toNat) := by
    rcases Int.lt_or_le n6 (hV H0 285 4) with c | c
    · have b := atv_B a12 (by omega) c
      rw [show (n6).toNat = (n2).toNat + (n0).toNat by omega] at b
      omega
    · exact .inl (by omega)
  have pl := LEs_end le en
  rw [show (n2).toNat + (n0).toNat - (n2).toNat = (n0).toNat by omega] at pl
  have n := f19.2.2
  unfold nb_213 at n
  try rw [f15] at n
  try rw [f18] at n
  have e10 : hV H3 285 10 = hV H1 285 10 := (f11.1.2.1.1 285 10 (by decide +kernel)).trans (f10.1.2.1.1 285 10 (by decide +kernel))
  have m1_ : 1 ≤ (n0).toNat := by
    have := pLe_1 (B := BR H0) (n := (hV H0 285 4).toNat) (i := (n2).toNat) (by omega) lt.1 lt.2
    omega
  have pa := pTk_at (B := BR H0) (n := (hV H0 285 4).toNat) (i := (n2).toNat) (by omega)
  rw [if_neg (by omega), if_pos lt, pl, show (n2).toNat + (n0).toNat = (n13).toNat by omega] at pa
  have cs := CIr_same (TRs.trans (TRs_fr f10.1.2.1 (by decide +kernel)) (TRs_fr f11.1.2.1 (by decide +kernel))) ci
  have nn_ := nv (by omega)
  have rn := pCd27_in (B := BR H0) (i := (n2).toNat) (m := (n0).toNat) (fun q h1 h2 => le.2.2.1 q h1 h2)
  have p27 := pow27 (n0).toNat (by omega)
  have kk : kwK (pCd 27 (BR H0) (n0).toNat (n2).toNat 0) = 2 := kwL_none (fun y hy c => by
    obtain ⟨j, a, b⟩ := kwR_all y hy
    have q := kwR_in ⟨j, a⟩
    have q2 : kwR.getD j 0 < 10460353203 := q.2.2
    have := rn.2.2 (by omega)
    omega)
  refine ⟨CIr_add cs n (by omega) (by omega) (by omega) (fun _ => ⟨by omega, by omega⟩) ?_ pa, by omega⟩
  unfold tkL
  rw [if_neg (by omega), pl, kk, if_pos rfl, if_neg (by decide), if_pos rfl, Int.toNat_of_nonneg ci0, nn_]
  rfl
def g_214w_85_0 : vG := ([(1, [13, 2, 4], [], 0), (1213, [1, 10, 2, 12, 5], [3, 4], 0), (0, [12], [], 0), (44, [4, 11], [], 0), (0, [11], [], 7), (0, [10], [], 1), (45, [4, 9], [], 0), (0, [9], [], 8), (30, [8], [], 0), (1210, [8, 7], [2, 3], 0), (1208, [7, 1, 6], [1, 2], 0), (90, [7], [], 0), (91, [7], [], 255), (1, [6, 2, 4], [], 0), (5000, [0, 1, 2, 3, 4, 5], [0, 1], 85), (90, [2], [], 0), (91, [2], [], 2000), (90, [3], [], -2147483648), (91, [3], [], 2147483647), (90, [4], [], 0), (91, [4], [], 2000)], (4000, [1, 13], [4], 7))
theorem c_214w_85_0 {q0 : Nat} : vOkm T0 (eN e_214 L_214w A_214 mu_214 n_214 B_214 (some q0)) 1 g_214w_85_0 := vOk_inI fun ρ η f0 f1 f2 f3 f4 f5 f6 f7 f8 f9 f10 f11 f12 f13 f14 f15 f16 f17 f18 f19 f20 => q_214w_10 (q0 := q0) (n0 := ρ 4) (n1 := ρ 3) (n2 := ρ 2) (n3 := ρ 1) (n4 := ρ 0) (n5 := ρ 5) (n6 := ρ 6) (n7 := ρ 7) (n8 := ρ 8) (n9 := ρ 9) (n10 := ρ 10) (n11 := ρ 11) (n12 := ρ 12) (n13 := ρ 13) (H0 := η 0) (H1 := η 1) (H2 := η 2) (H3 := η 3) (H4 := η 4) f20 f19 f18 f17 f16 f15 f14 f13 f12 f11 f10 f9 f8 f7 f6 f5 f4 f3 f2 f1 f0
theorem q_214w_11 {q0 : Nat} {n0 n1 n2 n3 n4 n5 n6 n7 n8 n9 n10 n11 n12 : Int} {H0 H1 H2 H3 : gH} (f0 : n0 ≤ 2000) (f1 : 0 ≤ n0) (f2 : n1 ≤ 2147483647) (f3 : (-2147483648) ≤ n1) (f4 : n2 ≤ 2000) (f5 : 0 ≤ n2) (f6 : (hLe T0 H0 H1 ∧ hFr s_214.2.2.2.2 H0 H1 ∧ hWt T0 H1) ∧ ((Ab_214_85 n4 n3 n2 n1 n0 n5 H0 H1 ∧ Bb_214_85 n4 n3 n2 n1 n0 n5 H0 H1) ∧ True) ∧ some q0 = some (mub_214_85 n4 n3 n2 n1 n0 n5 H0 H1)) (f7 : n6 = w32 (n2 + n0)) (f8 : n7 ≤ 255) (f9 : 0 ≤ n7) (f10 : (hLe T0 H1 H2 ∧ hFr s_208.2.2.2.2 H1 H2 ∧ ((0 : Int) = 0 → H2.length = H1.length) ∧ hWt T0 H2) ∧ postb_208 n7 n3 n6 H1 H2) (f11 : (hLe T0 H2 H3 ∧ hFr s_210.2.2.2.2 H2 H3 ∧ ((0 : Int) = 0 → H3.length = H2.length) ∧ hWt T0 H3) ∧ postb_210 n8 n7 H2 H3) (f12 : n8 = 0) (f13 : n9 = 8) (f14 : n0 ≤ n9) (f15 : n10 = 1) (f16 : n11 = 7) (f17 : n0 ≤ n11) (f18 : n12 = 0) : Bb_214_146 n4 n3 n2 n1 n0 n5 n10 n12 H0 H3 := by
  unfold Bb_214_146
  intro ky
  have ga := f6.2.1.1.2
  unfold Bb_214_85 at ga
  obtain ⟨ci, xs_, lt, le, nv⟩ := ga ky
  have ab := f6.2.1.1.1
  unfold Ab_214_85 at ab
  have q16 := f12
  have q18 := f14
  have qc17 := f13
  have q21 := f17
  have qc20 := f16
  have s4 : (0 : Int) ≤ hV H0 285 4 ∧ hV H0 285 4 ≤ 2000 := by
    have q := f6.1.2.2 285 4 _ _ rW_4
    rw [f6.1.2.1.1 285 4 (by decide +kernel)] at q
    exact q
  have z4 : hV H1 285 4 = hV H0 285 4 := f6.1.2.1.1 285 4 (by decide +kernel)
  have z287 : hV H1 287 = hV H0 287 := fRow f6.1.2.1 287 (by decide +kernel)
  have c0 := ci.1.1
  have c5 := ci.1.2.1
  have ci0 := ci.1.2.2.1
  rw [z4] at ab
  have rg0 := f0
  have rg1 := f1
  have rg2 := f2
  have rg3 := f3
  have rg4 := f4
  have rg5 := f5
  have a12 := f10.2
  unfold postb_208 at a12
  replace a12 := a12.1
  rw [show hV H2 287 = hV H0 287 from (fRow f10.1.2.1 287 (by decide +kernel)).trans (z287), show hV H2 285 4 = hV H0 285 4 from (f10.1.2.1.1 285 4 (by decide +kernel)).trans (z4)] at a12
  have rg10 := f8
  have rg11 := f9
  have l15 := f11.2
  unfold postb_210 at l15
  have s9 : n6 = n2 + n0 := by
    have q := f7
    rw [q]
    exact w32_id (by omega) (by omega)
  have in_ := le.1
  have en : (hV H0 285 4).toNat ≤ (n2).toNat + (n0).toNat ∨ BR H0 ((n2).toNat + (n0).toNat) < 97 ∨ 122 < BR H0 ((n2).toNat + (n0).toNat) := by
    rcases Int.lt_or_le n6 (hV H0 285 4) with c | c
    · have b := atv_B a12 (by omega) c
      rw [show (n6).toNat = (n2).toNat + (n0).toNat by omega] at b
      omega
    · exact .inl (by omega)
  have pl := LEs_end le en
  rw [show (n2).toNat + (n0).toNat - (n2).toNat = (n0).toNat by omega] at pl
  have x6c := f15
  have x7c := f18
  have nn_ := nv (by omega)
  have rn := pCd27_in (B := BR H0) (i := (n2).toNat) (m := (n0).toNat) (fun q h1 h2 => le.2.2.1 q h1 h2)
  have p27 := pow27 (n0).toNat (by omega)
  rw [x6c, x7c]
  exact ⟨CIr_same (TRs.trans (TRs_fr f10.1.2.1 (by decide +kernel)) (TRs_fr f11.1.2.1 (by decide +kernel))) ci, xs_, lt, pl, by omega, nn_, by omega, by omega, by decide, by decide, KSr_0⟩
def g_214w_85_1 : vG := ([(0, [12], [], 0), (45, [4, 11], [], 0), (0, [11], [], 7), (0, [10], [], 1), (45, [4, 9], [], 0), (0, [9], [], 8), (30, [8], [], 0), (1210, [8, 7], [2, 3], 0), (1208, [7, 1, 6], [1, 2], 0), (90, [7], [], 0), (91, [7], [], 255), (1, [6, 2, 4], [], 0), (5000, [0, 1, 2, 3, 4, 5], [0, 1], 85), (90, [2], [], 0), (91, [2], [], 2000), (90, [3], [], -2147483648), (91, [3], [], 2147483647), (90, [4], [], 0), (91, [4], [], 2000)], (4000, [1, 2, 3, 4, 5, 10, 12], [3], 146))
theorem c_214w_85_1 {q0 : Nat} : vOkm T0 (eN e_214 L_214w A_214 mu_214 n_214 B_214 (some q0)) 1 g_214w_85_1 := vOk_inI fun ρ η f0 f1 f2 f3 f4 f5 f6 f7 f8 f9 f10 f11 f12 f13 f14 f15 f16 f17 f18 => q_214w_11 (q0 := q0) (n0 := ρ 4) (n1 := ρ 3) (n2 := ρ 2) (n3 := ρ 1) (n4 := ρ 0) (n5 := ρ 5) (n6 := ρ 6) (n7 := ρ 7) (n8 := ρ 8) (n9 := ρ 9) (n10 := ρ 10) (n11 := ρ 11) (n12 := ρ 12) (H0 := η 0) (H1 := η 1) (H2 := η 2) (H3 := η 3) f18 f17 f16 f15 f14 f13 f12 f11 f10 f9 f8 f7 f6 f5 f4 f3 f2 f1 f0
theorem q_214w_12 {q0 : Nat} {n0 n1 n2 n3 n4 n5 n6 n7 n8 n9 n10 n11 n12 n13 : Int} {H0 H1 H2 H3 H4 : gH} (f0 : n0 ≤ 2000) (f1 : 0 ≤ n0) (f2 : n1 ≤ 2147483647) (f3 : (-2147483648) ≤ n1) (f4 : n2 ≤ 2000) (f5 : 0 ≤ n2) (f6 : (hLe T0 H0 H1 ∧ hFr s_214.2.2.2.2 H0 H1 ∧ hWt T0 H1) ∧ ((Ab_214_85 n4 n3 n2 n1 n0 n5 H0 H1 ∧ Bb_214_85 n4 n3 n2 n1 n0 n5 H0 H1) ∧ True) ∧ some q0 = some (mub_214_85 n4 n3 n2 n1 n0 n5 H0 H1)) (f7 : n6 = w32 (n2 + n0)) (f8 : n7 ≤ 255) (f9 : 0 ≤ n7) (f10 : (hLe T0 H1 H2 ∧ hFr s_208.2.2.2.2 H1 H2 ∧ ((0 : Int) = 0 → H2.length = H1.length) ∧ hWt T0 H2) ∧ postb_208 n7 n3 n6 H1 H2) (f11 : (hLe T0 H2 H3 ∧ hFr s_210.2.2.2.2 H2 H3 ∧ ((0 : Int) = 0 → H3.length = H2.length) ∧ hWt T0 H3) ∧ postb_210 n8 n7 H2 H3) (f12 : n8 = 0) (f13 : n9 = 8) (f14 : n9 < n0) (f15 : n10 = 3) (f16 : n11 = 7) (f17 : n11 < n0) (f18 : n12 = 0) (f19 : (hLe T0 H3 H4 ∧ hFr s_213.2.2.2.2 H3 H4 ∧ ((0 : Int) = 0 → H4.length = H3.length) ∧ hWt T0 H4) ∧ (postb_213 n3 n10 n2 n12 n5 H3 H4 ∧ nb_213 n3 n10 n2 n12 n5 H3 H4)) (f20 : n13 = w32 (n2 + n0)) : Bb_214_7 n4 n3 n13 H0 H4 := by
  unfold Bb_214_7
  intro ky
  have ga := f6.2.1.1.2
  unfold Bb_214_85 at ga
  obtain ⟨ci, xs_, lt, le, nv⟩ := ga ky
  have ab := f6.2.1.1.1
  unfold Ab_214_85 at ab
  have q16 := f12
  have q18 := f14
  have qc17 := f13
  have q21 := f17
  have qc20 := f16
  have s4 : (0 : Int) ≤ hV H0 285 4 ∧ hV H0 285 4 ≤ 2000 := by
    have q := f6.1.2.2 285 4 _ _ rW_4
    rw [f6.1.2.1.1 285 4 (by decide +kernel)] at q
    exact q
  have z4 : hV H1 285 4 = hV H0 285 4 := f6.1.2.1.1 285 4 (by decide +kernel)
  have z287 : hV H1 287 = hV H0 287 := fRow f6.1.2.1 287 (by decide +kernel)
  have c0 := ci.1.1
  have c5 := ci.1.2.1
  have ci0 := ci.1.2.2.1
  rw [z4] at ab
  have rg0 := f0
  have rg1 := f1
  have rg2 := f2
  have rg3 := f3
  have rg4 := f4
  have rg5 := f5
  have a12 := f10.2
  unfold postb_208 at a12
  replace a12 := a12.1
  rw [show hV H2 287 = hV H0 287 from (fRow f10.1.2.1 287 (by decide +kernel)).trans (z287), show hV H2 285 4 = hV H0 285 4 from (f10.1.2.1.1 285 4 (by decide +kernel)).trans (z4)] at a12
  have rg10 := f8
  have rg11 := f9
  have l15 := f11.2
  unfold postb_210 at l15
  have s9 : n6 = n2 + n0 := by
    have q := f7
    rw [q]
    exact w32_id (by omega) (by omega)
  have s24 : n13 = n2 + n0 := by
    have q := f20
    rw [q]
    exact w32_id (by omega) (by omega)
  have in_ := le.1
  have en : (hV H0 285 4).toNat ≤ (n2).toNat + (n0).toNat ∨ BR H0 ((n2).toNat + (n0).toNat) < 97 ∨ 122 < BR H0 ((n2).toNat + (n0).toNat) := by
    rcases Int.lt_or_le n6 (hV H0 285 4) with c | c
    · have b := atv_B a12 (by omega) c
      rw [show (n6).toNat = (n2).toNat + (n0).toNat by omega] at b
      omega
    · exact .inl (by omega)
  have pl := LEs_end le en
  rw [show (n2).toNat + (n0).toNat - (n2).toNat = (n0).toNat by omega] at pl
  have n := f19.2.2
  unfold nb_213 at n
  try rw [f15] at n
  try rw [f18] at n
  have e10 : hV H3 285 10 = hV H1 285 10 := (f11.1.2.1.1 285 10 (by decide +kernel)).trans (f10.1.2.1.1 285 10 (by decide +kernel))
  have m1_ : 1 ≤ (n0).toNat := by
    have := pLe_1 (B := BR H0) (n := (hV H0 285 4).toNat) (i := (n2).toNat) (by omega) lt.1 lt.2
    omega
  have pa := pTk_at (B := BR H0) (n := (hV H0 285 4).toNat) (i := (n2).toNat) (by omega)
  rw [if_neg (by omega), if_pos lt, pl, show (n2).toNat + (n0).toNat = (n13).toNat by omega] at pa
  have cs := CIr_same (TRs.trans (TRs_fr f10.1.2.1 (by decide +kernel)) (TRs_fr f11.1.2.1 (by decide +kernel))) ci
  refine ⟨CIr_add cs n (by omega) (by omega) (by omega) (fun c => absurd c (by decide)) ?_ pa, by omega⟩
  unfold tkL
  rw [if_pos (by omega), if_neg (by decide), if_neg (by decide), Int.toNat_of_nonneg ci0]
  rfl
def g_214w_85_2 : vG := ([(1, [13, 2, 4], [], 0), (1213, [1, 10, 2, 12, 5], [3, 4], 0), (0, [12], [], 0), (44, [4, 11], [], 0), (0, [11], [], 7), (0, [10], [], 3), (44, [4, 9], [], 0), (0, [9], [], 8), (30, [8], [], 0), (1210, [8, 7], [2, 3], 0), (1208, [7, 1, 6], [1, 2], 0), (90, [7], [], 0), (91, [7], [], 255), (1, [6, 2, 4], [], 0), (5000, [0, 1, 2, 3, 4, 5], [0, 1], 85), (90, [2], [], 0), (91, [2], [], 2000), (90, [3], [], -2147483648), (91, [3], [], 2147483647), (90, [4], [], 0), (91, [4], [], 2000)], (4000, [1, 13], [4], 7))
theorem c_214w_85_2 {q0 : Nat} : vOkm T0 (eN e_214 L_214w A_214 mu_214 n_214 B_214 (some q0)) 1 g_214w_85_2 := vOk_inI fun ρ η f0 f1 f2 f3 f4 f5 f6 f7 f8 f9 f10 f11 f12 f13 f14 f15 f16 f17 f18 f19 f20 => q_214w_12 (q0 := q0) (n0 := ρ 4) (n1 := ρ 3) (n2 := ρ 2) (n3 := ρ 1) (n4 := ρ 0) (n5 := ρ 5) (n6 := ρ 6) (n7 := ρ 7) (n8 := ρ 8) (n9 := ρ 9) (n10 := ρ 10) (n11 := ρ 11) (n12 := ρ 12) (n13 := ρ 13) (H0 := η 0) (H1 := η 1) (H2 := η 2) (H3 := η 3) (H4 := η 4) f20 f19 f18 f17 f16 f15 f14 f13 f12 f11 f10 f9 f8 f7 f6 f5 f4 f3 f2 f1 f0
theorem q_214w_13 {q0 : Nat} {n0 n1 n2 n3 n4 n5 n6 n7 n8 n9 n10 n11 n12 : Int} {H0 H1 H2 H3 : gH} (f0 : n0 ≤ 2000) (f1 : 0 ≤ n0) (f2 : n1 ≤ 2147483647) (f3 : (-2147483648) ≤ n1) (f4 : n2 ≤ 2000) (f5 : 0 ≤ n2) (f6 : (hLe T0 H0 H1 ∧ hFr s_214.2.2.2.2 H0 H1 ∧ hWt T0 H1) ∧ ((Ab_214_85 n4 n3 n2 n1 n0 n5 H0 H1 ∧ Bb_214_85 n4 n3 n2 n1 n0 n5 H0 H1) ∧ True) ∧ some q0 = some (mub_214_85 n4 n3 n2 n1 n0 n5 H0 H1)) (f7 : n6 = w32 (n2 + n0)) (f8 : n7 ≤ 255) (f9 : 0 ≤ n7) (f10 : (hLe T0 H1 H2 ∧ hFr s_208.2.2.2.2 H1 H2 ∧ ((0 : Int) = 0 → H2.length = H1.length) ∧ hWt T0 H2) ∧ postb_208 n7 n3 n6 H1 H2) (f11 : (hLe T0 H2 H3 ∧ hFr s_210.2.2.2.2 H2 H3 ∧ ((0 : Int) = 0 → H3.length = H2.length) ∧ hWt T0 H3) ∧ postb_210 n8 n7 H2 H3) (f12 : n8 = 0) (f13 : n9 = 8) (f14 : n9 < n0) (f15 : n11 = 7) (f16 : n0 ≤ n11) : Bb_214_146 n4 n3 n2 n1 n0 n5 n10 n12 H0 H3 := by
  exfalso
  clear f0 f1 f2 f3 f4 f5 f6 f7 f8 f9 f10 f11 f12
  omega
def g_214w_85_3 : vG := ([(45, [4, 11], [], 0), (0, [11], [], 7), (44, [4, 9], [], 0), (0, [9], [], 8), (30, [8], [], 0), (1210, [8, 7], [2, 3], 0), (1208, [7, 1, 6], [1, 2], 0), (90, [7], [], 0), (91, [7], [], 255), (1, [6, 2, 4], [], 0), (5000, [0, 1, 2, 3, 4, 5], [0, 1], 85), (90, [2], [], 0), (91, [2], [], 2000), (90, [3], [], -2147483648), (91, [3], [], 2147483647), (90, [4], [], 0), (91, [4], [], 2000)], (4000, [1, 2, 3, 4, 5, 10, 12], [3], 146))
theorem c_214w_85_3 {q0 : Nat} : vOkm T0 (eN e_214 L_214w A_214 mu_214 n_214 B_214 (some q0)) 1 g_214w_85_3 := vOk_inI fun ρ η f0 f1 f2 f3 f4 f5 f6 f7 f8 f9 f10 f11 f12 f13 f14 f15 f16 => q_214w_13 (q0 := q0) (n0 := ρ 4) (n1 := ρ 3) (n2 := ρ 2) (n3 := ρ 1) (n4 := ρ 0) (n5 := ρ 5) (n6 := ρ 6) (n7 := ρ 7) (n8 := ρ 8) (n9 := ρ 9) (n10 := ρ 10) (n11 := ρ 11) (n12 := ρ 12) (H0 := η 0) (H1 := η 1) (H2 := η 2) (H3 := η 3) f16 f15 f14 f13 f12 f11 f10 f9 f8 f7 f6 f5 f4 f3 f2 f1 f0
theorem q_214w_14 {q0 : Nat} {n0 n1 n2 n3 n4 n5 n6 n7 n8 n9 n10 : Int} {H0 H1 H2 H3 : gH} (f0 : n0 ≤ 2000) (f1 : 0 ≤ n0) (f2 : n1 ≤ 2147483647) (f3 : (-2147483648) ≤ n1) (f4 : n2 ≤ 2000) (f5 : 0 ≤ n2) (f6 : (hLe T0 H0 H1 ∧ hFr s_214.2.2.2.2 H0 H1 ∧ hWt T0 H1) ∧ ((Ab_214_85 n4 n3 n2 n1 n0 n5 H0 H1 ∧ Bb_214_85 n4 n3 n2 n1 n0 n5 H0 H1) ∧ True) ∧ some q0 = some (mub_214_85 n4 n3 n2 n1 n0 n5 H0 H1)) (f7 : n6 = w32 (n2 + n0)) (f8 : n7 ≤ 255) (f9 : 0 ≤ n7) (f10 : (hLe T0 H1 H2 ∧ hFr s_208.2.2.2.2 H1 H2 ∧ ((0 : Int) = 0 → H2.length = H1.length) ∧ hWt T0 H2) ∧ postb_208 n7 n3 n6 H1 H2) (f11 : (hLe T0 H2 H3 ∧ hFr s_210.2.2.2.2 H2 H3 ∧ ((0 : Int) = 0 → H3.length = H2.length) ∧ hWt T0 H3) ∧ postb_210 n8 n7 H2 H3) (f12 : n8 ≠ 0) (f13 : n9 = 8) (f14 : n9 ≤ n0) (f15 : n10 = w32 (n0 + 1)) : Bb_214_85 n4 n3 n2 n1 n10 n5 H0 H3 := by
  unfold Bb_214_85
  intro ky
  have ga := f6.2.1.1.2
  unfold Bb_214_85 at ga
  obtain ⟨ci, xs_, lt, le, nv⟩ := ga ky
  have ab := f6.2.1.1.1
  unfold Ab_214_85 at ab
  have q16 := f12
  have q18 := f14
  have qc17 := f13
  have q19 := f15
  unfold w32 at q19
  have s4 : (0 : Int) ≤ hV H0 285 4 ∧ hV H0 285 4 ≤ 2000 := by
    have q := f6.1.2.2 285 4 _ _ rW_4
    rw [f6.1.2.1.1 285 4 (by decide +kernel)] at q
    exact q
  have z4 : hV H1 285 4 = hV H0 285 4 := f6.1.2.1.1 285 4 (by decide +kernel)
  have z287 : hV H1 287 = hV H0 287 := fRow f6.1.2.1 287 (by decide +kernel)
  have c0 := ci.1.1
  have c5 := ci.1.2.1
  have ci0 := ci.1.2.2.1
  rw [z4] at ab
  have rg0 := f0
  have rg1 := f1
  have rg2 := f2
  have rg3 := f3
  have rg4 := f4
  have rg5 := f5
  have a12 := f10.2
  unfold postb_208 at a12
  replace a12 := a12.1
  rw [show hV H2 287 = hV H0 287 from (fRow f10.1.2.1 287 (by decide +kernel)).trans (z287), show hV H2 285 4 = hV H0 285 4 from (f10.1.2.1.1 285 4 (by decide +kernel)).trans (z4)] at a12
  have rg10 := f8
  have rg11 := f9
  have l15 := f11.2
  unfold postb_210 at l15
  have s9 : n6 = n2 + n0 := by
    have q := f7
    rw [q]
    exact w32_id (by omega) (by omega)
  have s19 : n10 = n0 + 1 := by
    have q := f15
    rw [q]
    exact w32_id (by omega) (by omega)
  have in_ := le.1
  have ix : n6 < hV H0 285 4 := by
    rcases Int.lt_or_le n6 (hV H0 285 4) with c | c
    · exact c
    · have := atv_0 a12 c
      omega
  have b := atv_B a12 (by omega) ix
  rw [show (n6).toNat = (n2).toNat + (n0).toNat by omega] at b
  have st := LEs_step le (by omega) (by omega) (by omega)
  rw [show (n2).toNat + (n0).toNat + 1 = (n2).toNat + (n10).toNat by omega] at st
  exact ⟨CIr_same (TRs.trans (TRs_fr f10.1.2.1 (by decide +kernel)) (TRs_fr f11.1.2.1 (by decide +kernel))) ci, xs_, lt, st, fun c => by omega⟩
def g_214w_85_4 : vG := ([(10, [10, 4], [], 1), (43, [4, 9], [], 0), (0, [9], [], 8), (31, [8], [], 0), (1210, [8, 7], [2, 3], 0), (1208, [7, 1, 6], [1, 2], 0), (90, [7], [], 0), (91, [7], [], 255), (1, [6, 2, 4], [], 0), (5000, [0, 1, 2, 3, 4, 5], [0, 1], 85), (90, [2], [], 0), (91, [2], [], 2000), (90, [3], [], -2147483648), (91, [3], [], 2147483647), (90, [4], [], 0), (91, [4], [], 2000)], (4000, [1, 2, 3, 10, 5], [3], 85))
theorem c_214w_85_4 {q0 : Nat} : vOkm T0 (eN e_214 L_214w A_214 mu_214 n_214 B_214 (some q0)) 1 g_214w_85_4 := vOk_inI fun ρ η f0 f1 f2 f3 f4 f5 f6 f7 f8 f9 f10 f11 f12 f13 f14 f15 => q_214w_14 (q0 := q0) (n0 := ρ 4) (n1 := ρ 3) (n2 := ρ 2) (n3 := ρ 1) (n4 := ρ 0) (n5 := ρ 5) (n6 := ρ 6) (n7 := ρ 7) (n8 := ρ 8) (n9 := ρ 9) (n10 := ρ 10) (H0 := η 0) (H1 := η 1) (H2 := η 2) (H3 := η 3) f15 f14 f13 f12 f11 f10 f9 f8 f7 f6 f5 f4 f3 f2 f1 f0
theorem q_214w_15 {q0 : Nat} {n0 n1 n2 n3 n4 n5 n6 n7 n8 n9 n10 n11 n12 n13 : Int} {H0 H1 H2 H3 H4 H5 : gH} (f0 : n0 ≤ 2000) (f1 : 0 ≤ n0) (f2 : n1 ≤ 2147483647) (f3 : (-2147483648) ≤ n1) (f4 : n2 ≤ 2000) (f5 : 0 ≤ n2) (f6 : (hLe T0 H0 H1 ∧ hFr s_214.2.2.2.2 H0 H1 ∧ hWt T0 H1) ∧ ((Ab_214_85 n4 n3 n2 n1 n0 n5 H0 H1 ∧ Bb_214_85 n4 n3 n2 n1 n0 n5 H0 H1) ∧ True) ∧ some q0 = some (mub_214_85 n4 n3 n2 n1 n0 n5 H0 H1)) (f7 : n6 = w32 (n2 + n0)) (f8 : n7 ≤ 255) (f9 : 0 ≤ n7) (f10 : (hLe T0 H1 H2 ∧ hFr s_208.2.2.2.2 H1 H2 ∧ ((0 : Int) = 0 → H2.length = H1.length) ∧ hWt T0 H2) ∧ postb_208 n7 n3 n6 H1 H2) (f11 : (hLe T0 H2 H3 ∧ hFr s_210.2.2.2.2 H2 H3 ∧ ((0 : Int) = 0 → H3.length = H2.length) ∧ hWt T0 H3) ∧ postb_210 n8 n7 H2 H3) (f12 : n8 ≠ 0) (f13 : n9 = 8) (f14 : n0 < n9) (f15 : n10 = w32 (n2 + n0)) (f16 : n11 ≤ 255) (f17 : 0 ≤ n11) (f18 : (hLe T0 H3 H4 ∧ hFr s_208.2.2.2.2 H3 H4 ∧ ((0 : Int) = 0 → H4.length = H3.length) ∧ hWt T0 H4) ∧ postb_208 n11 n3 n10 H3 H4) (f19 : (hLe T0 H4 H5 ∧ hFr s_211.2.2.2.2 H4 H5 ∧ ((0 : Int) = 0 → H5.length = H4.length) ∧ hWt T0 H5) ∧ (True ∧ nb_211 n12 n5 n11 H4 H5)) (f20 : n13 = w32 (n0 + 1)) : Bb_214_85 n4 n3 n2 n1 n13 n12 H0 H5 := by
  unfold Bb_214_85
  intro ky
  have ga := f6.2.1.1.2
  unfold Bb_214_85 at ga
  obtain ⟨ci, xs_, lt, le, nv⟩ := ga ky
  have ab := f6.2.1.1.1
  unfold Ab_214_85 at ab
  have q16 := f12
  have q18 := f14
  have qc17 := f13
  have q24 := f20
  unfold w32 at q24
  have s4 : (0 : Int) ≤ hV H0 285 4 ∧ hV H0 285 4 ≤ 2000 := by
    have q := f6.1.2.2 285 4 _ _ rW_4
    rw [f6.1.2.1.1 285 4 (by decide +kernel)] at q
    exact q
  have z4 : hV H1 285 4 = hV H0 285 4 := f6.1.2.1.1 285 4 (by decide +kernel)
  have z287 : hV H1 287 = hV H0 287 := fRow f6.1.2.1 287 (by decide +kernel)
  have c0 := ci.1.1
  have c5 := ci.1.2.1
  have ci0 := ci.1.2.2.1
  rw [z4] at ab
  have rg0 := f0
  have rg1 := f1
  have rg2 := f2
  have rg3 := f3
  have rg4 := f4
  have rg5 := f5
  have a12 := f10.2
  unfold postb_208 at a12
  replace a12 := a12.1
  rw [show hV H2 287 = hV H0 287 from (fRow f10.1.2.1 287 (by decide +kernel)).trans (z287), show hV H2 285 4 = hV H0 285 4 from (f10.1.2.1.1 285 4 (by decide +kernel)).trans (z4)] at a12
  have rg10 := f8
  have rg11 := f9
  have a22 := f18.2
  unfold postb_208 at a22
  replace a22 := a22.1
  rw [show hV H4 287 = hV H0 287 from ((fRow f18.1.2.1 287 (by decide +kernel)).trans ((fRow f11.1.2.1 287 (by decide +kernel)).trans (fRow f10.1.2.1 287 (by decide +kernel)))).trans (z287), show hV H4 285 4 = hV H0 285 4 from ((f18.1.2.1.1 285 4 (by decide +kernel)).trans ((f11.1.2.1.1 285 4 (by decide +kernel)).trans (f10.1.2.1.1 285 4 (by decide +kernel)))).trans (z4)] at a22
  have rg20 := f16
  have rg21 := f17
  have l15 := f11.2
  unfold postb_210 at l15
  have s9 : n6 = n2 + n0 := by
    have q := f7
    rw [q]
    exact w32_id (by omega) (by omega)
  have s19 : n10 = n2 + n0 := by
    have q := f15
    rw [q]
    exact w32_id (by omega) (by omega)
  have s24 : n13 = n0 + 1 := by
    have q := f20
    rw [q]
    exact w32_id (by omega) (by omega)
  have in_ := le.1
  have ix : n6 < hV H0 285 4 := by
    rcases Int.lt_or_le n6 (hV H0 285 4) with c | c
    · exact c
    · have := atv_0 a12 c
      omega
  have b := atv_B a12 (by omega) ix
  rw [show (n6).toNat = (n2).toNat + (n0).toNat by omega] at b
  have st := LEs_step le (by omega) (by omega) (by omega)
  rw [show (n2).toNat + (n0).toNat + 1 = (n2).toNat + (n13).toNat by omega] at st
  have b2 := atv_B a22 (by omega) (by omega)
  rw [show (n10).toNat = (n2).toNat + (n0).toNat by omega] at b2
  have nn_ := nv (by omega)
  have rn := pCd27_in (B := BR H0) (i := (n2).toNat) (m := (n0).toNat) (fun q h1 h2 => le.2.2.1 q h1 h2)
  have p27 := pow27 (n0).toNat (by omega)
  have mm := f19.2.2
  unfold nb_211 at mm
  have mv := mm.2 (by omega) (by omega) (by omega) (by omega) (by omega)
  refine ⟨CIr_same (TRs.trans (TRs_fr f10.1.2.1 (by decide +kernel)) (TRs.trans (TRs_fr f11.1.2.1 (by decide +kernel)) (TRs.trans (TRs_fr f18.1.2.1 (by decide +kernel)) (TRs_fr f19.1.2.1 (by decide +kernel))))) ci, xs_, lt, st, fun _ => ?_⟩
  rw [mv, b2, nn_, show (n13).toNat = (n0).toNat + 1 by omega, pCd_add]
def g_214w_85_5 : vG := ([(10, [13, 4], [], 1), (1211, [12, 5, 11], [4, 5], 0), (1208, [11, 1, 10], [3, 4], 0), (90, [11], [], 0), (91, [11], [], 255), (1, [10, 2, 4], [], 0), (42, [4, 9], [], 0), (0, [9], [], 8), (31, [8], [], 0), (1210, [8, 7], [2, 3], 0), (1208, [7, 1, 6], [1, 2], 0), (90, [7], [], 0), (91, [7], [], 255), (1, [6, 2, 4], [], 0), (5000, [0, 1, 2, 3, 4, 5], [0, 1], 85), (90, [2], [], 0), (91, [2], [], 2000), (90, [3], [], -2147483648), (91, [3], [], 2147483647), (90, [4], [], 0), (91, [4], [], 2000)], (4000, [1, 2, 3, 13, 12], [5], 85))
theorem c_214w_85_5 {q0 : Nat} : vOkm T0 (eN e_214 L_214w A_214 mu_214 n_214 B_214 (some q0)) 1 g_214w_85_5 := vOk_inI fun ρ η f0 f1 f2 f3 f4 f5 f6 f7 f8 f9 f10 f11 f12 f13 f14 f15 f16 f17 f18 f19 f20 => q_214w_15 (q0 := q0) (n0 := ρ 4) (n1 := ρ 3) (n2 := ρ 2) (n3 := ρ 1) (n4 := ρ 0) (n5 := ρ 5) (n6 := ρ 6) (n7 := ρ 7) (n8 := ρ 8) (n9 := ρ 9) (n10 := ρ 10) (n11 := ρ 11) (n12 := ρ 12) (n13 := ρ 13) (H0 := η 0) (H1 := η 1) (H2 := η 2) (H3 := η 3) (H4 := η 4) (H5 := η 5) f20 f19 f18 f17 f16 f15 f14 f13 f12 f11 f10 f9 f8 f7 f6 f5 f4 f3 f2 f1 f0
def p_214w_85 : List vG := [g_214w_85_0,
  g_214w_85_1,
  g_214w_85_2,
  g_214w_85_3,
  g_214w_85_4,
  g_214w_85_5]
theorem r_214w_85 : vCovBO (eRc e_214 L_214 cs_214 2000 (85, [(0, (3, 12, 285, 0)), (1, (0, 0, 2000, 0)), (2, (0, -2147483648, 2147483647, 0)), (3, (0, 0, 2000, 0)), (4, (1, 0, 0, 0))])) p_214w_85 = true := by decide +kernel
theorem q_214w_16 {q0 : Nat} {n0 n1 n2 n3 n4 n5 n6 n7 n8 n9 n10 : Int} {H0 H1 H2 : gH} (f0 : n0 ≤ 100) (f1 : 0 ≤ n0) (f2 : n1 ≤ 53) (f3 : 0 ≤ n1) (f4 : n2 ≤ 2000) (f5 : 0 ≤ n2) (f6 : n3 ≤ 2147483647) (f7 : (-2147483648) ≤ n3) (f8 : n4 ≤ 2000) (f9 : 0 ≤ n4) (f10 : (hLe T0 H0 H1 ∧ hFr s_214.2.2.2.2 H0 H1 ∧ hWt T0 H1) ∧ ((Ab_214_146 n6 n5 n4 n3 n2 n7 n1 n0 H0 H1 ∧ Bb_214_146 n6 n5 n4 n3 n2 n7 n1 n0 H0 H1) ∧ True) ∧ some q0 = some (mub_214_146 n6 n5 n4 n3 n2 n7 n1 n0 H0 H1)) (f11 : n8 = 34) (f12 : n8 ≤ n0) (f13 : n9 = 0) (f14 : (hLe T0 H1 H2 ∧ hFr s_213.2.2.2.2 H1 H2 ∧ ((0 : Int) = 0 → H2.length = H1.length) ∧ hWt T0 H2) ∧ (postb_213 n5 n1 n4 n9 n7 H1 H2 ∧ nb_213 n5 n1 n4 n9 n7 H1 H2)) (f15 : n10 = w32 (n4 + n2)) : Bb_214_7 n6 n5 n10 H0 H2 := by
  unfold Bb_214_7
  intro ky
  have ga := f10.2.1.1.2
  unfold Bb_214_146 at ga
  obtain ⟨ci, xs_, lt, pl, x7_, nv, nv0, nv1, q0_, q34, ks⟩ := ga ky
  have ab := f10.2.1.1.1
  unfold Ab_214_146 at ab
  have q14 := f12
  have qc13 := f11
  have s4 : (0 : Int) ≤ hV H0 285 4 ∧ hV H0 285 4 ≤ 2000 := by
    have q := f10.1.2.2 285 4 _ _ rW_4
    rw [f10.1.2.1.1 285 4 (by decide +kernel)] at q
    exact q
  have z4 : hV H1 285 4 = hV H0 285 4 := f10.1.2.1.1 285 4 (by decide +kernel)
  have z287 : hV H1 287 = hV H0 287 := fRow f10.1.2.1 287 (by decide +kernel)
  have c0 := ci.1.1
  have c5 := ci.1.2.1
  have ci0 := ci.1.2.2.1
  rw [z4] at ab
  have rg0 := f0
  have rg1 := f1
  have rg2 := f2
  have rg3 := f3
  have rg4 := f4
  have rg5 := f5
  have rg6 := f6
  have rg7 := f7
  have rg8 := f8
  have rg9 := f9
  have s17 : n10 = n4 + n2 := by
    have q := f15
    rw [q]
    exact w32_id (by omega) (by omega)
  have n := f14.2.2
  unfold nb_213 at n
  try rw [f13] at n
  have e10 : hV H1 285 10 = hV H1 285 10 := rfl
  have m1_ : 1 ≤ (n2).toNat := by
    have := pLe_1 (B := BR H0) (n := (hV H0 285 4).toNat) (i := (n4).toNat) (by omega) lt.1 lt.2
    omega
  have pa := pTk_at (B := BR H0) (n := (hV H0 285 4).toNat) (i := (n4).toNat) (by omega)
  rw [if_neg (by omega), if_pos lt, pl, show (n4).toNat + (n2).toNat = (n10).toNat by omega] at pa
  have cs := CIr_same (TRs.refl _) ci
  rw [show n0 = 34 by omega] at ks
  have ke := KSr_end ks
  refine ⟨CIr_add cs n (by omega) (by omega) (by omega) (fun _ => ⟨nv0, nv1⟩) ?_ pa, by omega⟩
  unfold tkL
  rw [if_neg (by omega), pl, ← nv, Int.toNat_of_nonneg ci0]
  by_cases c : n1 = 1
  · rw [if_pos (ke.2.1 c), c, if_neg (by decide), if_pos rfl]
    rfl
  · have w := ke.2.2 c
    rw [if_neg w.1, if_neg w.2.1, if_neg c, ke.1]
def g_214w_146_0 : vG := ([(1, [10, 2, 4], [], 0), (1213, [1, 6, 2, 9, 5], [1, 2], 0), (0, [9], [], 0), (43, [7, 8], [], 0), (0, [8], [], 34), (5000, [0, 1, 2, 3, 4, 5, 6, 7], [0, 1], 146), (90, [2], [], 0), (91, [2], [], 2000), (90, [3], [], -2147483648), (91, [3], [], 2147483647), (90, [4], [], 0), (91, [4], [], 2000), (90, [6], [], 0), (91, [6], [], 53), (90, [7], [], 0), (91, [7], [], 100)], (4000, [1, 10], [2], 7))
theorem c_214w_146_0 {q0 : Nat} : vOkm T0 (eN e_214 L_214w A_214 mu_214 n_214 B_214 (some q0)) 1 g_214w_146_0 := vOk_inI fun ρ η f0 f1 f2 f3 f4 f5 f6 f7 f8 f9 f10 f11 f12 f13 f14 f15 => q_214w_16 (q0 := q0) (n0 := ρ 7) (n1 := ρ 6) (n2 := ρ 4) (n3 := ρ 3) (n4 := ρ 2) (n5 := ρ 1) (n6 := ρ 0) (n7 := ρ 5) (n8 := ρ 8) (n9 := ρ 9) (n10 := ρ 10) (H0 := η 0) (H1 := η 1) (H2 := η 2) f15 f14 f13 f12 f11 f10 f9 f8 f7 f6 f5 f4 f3 f2 f1 f0
theorem q_214w_17 {q0 : Nat} {n0 n1 n2 n3 n4 n5 n6 n7 n8 n9 n10 n11 n12 : Int} {H0 H1 : gH} (f0 : n0 ≤ 100) (f1 : 0 ≤ n0) (f2 : n1 ≤ 53) (f3 : 0 ≤ n1) (f4 : n2 ≤ 2000) (f5 : 0 ≤ n2) (f6 : n3 ≤ 2147483647) (f7 : (-2147483648) ≤ n3) (f8 : n4 ≤ 2000) (f9 : 0 ≤ n4) (f10 : (hLe T0 H0 H1 ∧ hFr s_214.2.2.2.2 H0 H1 ∧ hWt T0 H1) ∧ ((Ab_214_146 n6 n5 n4 n3 n2 n7 n1 n0 H0 H1 ∧ Bb_214_146 n6 n5 n4 n3 n2 n7 n1 n0 H0 H1) ∧ True) ∧ some q0 = some (mub_214_146 n6 n5 n4 n3 n2 n7 n1 n0 H0 H1)) (f11 : n8 = 34) (f12 : n0 < n8) (f13 : n9 = 292) (f14 : n10 = hV H1 (n9).toNat (n0).toNat) (f15 : n11 = (lg_cmp (Int64.ofInt n10) (Int64.ofInt n7)).toInt) (f16 : n11 ≠ 0) (f17 : n12 = w32 (n0 + 1)) : Bb_214_146 n6 n5 n4 n3 n2 n7 n1 n12 H0 H1 := by
  unfold Bb_214_146
  intro ky
  have ga := f10.2.1.1.2
  unfold Bb_214_146 at ga
  obtain ⟨ci, xs_, lt, pl, x7_, nv, nv0, nv1, q0_, q34, ks⟩ := ga ky
  have ab := f10.2.1.1.1
  unfold Ab_214_146 at ab
  have d18 := rdW (q := 292) f14 f13
  have q14 := f12
  have qc13 := f11
  have q20 := f16
  have q21 := f17
  unfold w32 at q21
  have s4 : (0 : Int) ≤ hV H0 285 4 ∧ hV H0 285 4 ≤ 2000 := by
    have q := f10.1.2.2 285 4 _ _ rW_4
    rw [f10.1.2.1.1 285 4 (by decide +kernel)] at q
    exact q
  have z4 : hV H1 285 4 = hV H0 285 4 := f10.1.2.1.1 285 4 (by decide +kernel)
  have z287 : hV H1 287 = hV H0 287 := fRow f10.1.2.1 287 (by decide +kernel)
  have c0 := ci.1.1
  have c5 := ci.1.2.1
  have ci0 := ci.1.2.2.1
  rw [z4] at ab
  have rg0 := f0
  have rg1 := f1
  have rg2 := f2
  have rg3 := f3
  have rg4 := f4
  have rg5 := f5
  have rg6 := f6
  have rg7 := f7
  have rg8 := f8
  have rg9 := f9
  have s21 : n12 = n0 + 1 := by
    have q := f17
    rw [q]
    exact w32_id (by omega) (by omega)
  have z292 : hV H1 292 = hV H0 292 := fRow f10.1.2.1 292 (by decide +kernel)
  have ke := d18
  rw [z292, ky _ (by omega)] at ke
  have ki := kwR_in ⟨(n0).toNat, by omega⟩
  have ki1 : 0 ≤ kwR.getD (n0).toNat 0 ∧ kwR.getD (n0).toNat 0 < 1099511627776 := ⟨ki.1, ki.2.1⟩
  have lq := lcR f15 (by rw [ke]; exact ki1) ⟨nv0, nv1⟩
  rw [ke] at lq
  refine ⟨CIr_same (TRs.refl _) ci, xs_, lt, pl, x7_, nv, nv0, nv1, by omega, by omega, ?_⟩
  rw [show n12 = n0 + 1 by omega]
  exact KSr_no ks (by omega) (fun c => absurd (lq.mpr c) (by omega))
def g_214w_146_1 : vG := ([(10, [12, 7], [], 1), (31, [11], [], 0), (65, [11, 10, 5], [], 0), (22, [10, 9, 7], [1], 0), (0, [9], [], 292), (42, [7, 8], [], 0), (0, [8], [], 34), (5000, [0, 1, 2, 3, 4, 5, 6, 7], [0, 1], 146), (90, [2], [], 0), (91, [2], [], 2000), (90, [3], [], -2147483648), (91, [3], [], 2147483647), (90, [4], [], 0), (91, [4], [], 2000), (90, [6], [], 0), (91, [6], [], 53), (90, [7], [], 0), (91, [7], [], 100)], (4000, [1, 2, 3, 4, 5, 6, 12], [1], 146))
theorem c_214w_146_1 {q0 : Nat} : vOkm T0 (eN e_214 L_214w A_214 mu_214 n_214 B_214 (some q0)) 1 g_214w_146_1 := vOk_inI fun ρ η f0 f1 f2 f3 f4 f5 f6 f7 f8 f9 f10 f11 f12 f13 f14 f15 f16 f17 => q_214w_17 (q0 := q0) (n0 := ρ 7) (n1 := ρ 6) (n2 := ρ 4) (n3 := ρ 3) (n4 := ρ 2) (n5 := ρ 1) (n6 := ρ 0) (n7 := ρ 5) (n8 := ρ 8) (n9 := ρ 9) (n10 := ρ 10) (n11 := ρ 11) (n12 := ρ 12) (H0 := η 0) (H1 := η 1) f17 f16 f15 f14 f13 f12 f11 f10 f9 f8 f7 f6 f5 f4 f3 f2 f1 f0
theorem q_214w_18 {q0 : Nat} {n0 n1 n2 n3 n4 n5 n6 n7 n8 n9 n10 n11 n12 n13 n14 : Int} {H0 H1 : gH} (f0 : n0 ≤ 100) (f1 : 0 ≤ n0) (f2 : n1 ≤ 53) (f3 : 0 ≤ n1) (f4 : n2 ≤ 2000) (f5 : 0 ≤ n2) (f6 : n3 ≤ 2147483647) (f7 : (-2147483648) ≤ n3) (f8 : n4 ≤ 2000) (f9 : 0 ≤ n4) (f10 : (hLe T0 H0 H1 ∧ hFr s_214.2.2.2.2 H0 H1 ∧ hWt T0 H1) ∧ ((Ab_214_146 n6 n5 n4 n3 n2 n7 n1 n0 H0 H1 ∧ Bb_214_146 n6 n5 n4 n3 n2 n7 n1 n0 H0 H1) ∧ True) ∧ some q0 = some (mub_214_146 n6 n5 n4 n3 n2 n7 n1 n0 H0 H1)) (f11 : n8 = 34) (f12 : n0 < n8) (f13 : n9 = 292) (f14 : n10 = hV H1 (n9).toNat (n0).toNat) (f15 : n11 = (lg_cmp (Int64.ofInt n10) (Int64.ofInt n7)).toInt) (f16 : n11 = 0) (f17 : n12 = 20) (f18 : n13 = w32 (n12 + n0)) (f19 : n14 = w32 (n0 + 1)) : Bb_214_146 n6 n5 n4 n3 n2 n7 n13 n14 H0 H1 := by
  unfold Bb_214_146
  intro ky
  have ga := f10.2.1.1.2
  unfold Bb_214_146 at ga
  obtain ⟨ci, xs_, lt, pl, x7_, nv, nv0, nv1, q0_, q34, ks⟩ := ga ky
  have ab := f10.2.1.1.1
  unfold Ab_214_146 at ab
  have d18 := rdW (q := 292) f14 f13
  have q14 := f12
  have qc13 := f11
  have q20 := f16
  have q23 := f19
  unfold w32 at q23
  have s4 : (0 : Int) ≤ hV H0 285 4 ∧ hV H0 285 4 ≤ 2000 := by
    have q := f10.1.2.2 285 4 _ _ rW_4
    rw [f10.1.2.1.1 285 4 (by decide +kernel)] at q
    exact q
  have z4 : hV H1 285 4 = hV H0 285 4 := f10.1.2.1.1 285 4 (by decide +kernel)
  have z287 : hV H1 287 = hV H0 287 := fRow f10.1.2.1 287 (by decide +kernel)
  have c0 := ci.1.1
  have c5 := ci.1.2.1
  have ci0 := ci.1.2.2.1
  rw [z4] at ab
  have rg0 := f0
  have rg1 := f1
  have rg2 := f2
  have rg3 := f3
  have rg4 := f4
  have rg5 := f5
  have rg6 := f6
  have rg7 := f7
  have rg8 := f8
  have rg9 := f9
  have s22 : n13 = 20 + n0 := by
    have q := f18
    rw [f17] at q
    rw [q]
    exact w32_id (by omega) (by omega)
  have s23 : n14 = n0 + 1 := by
    have q := f19
    rw [q]
    exact w32_id (by omega) (by omega)
  have z292 : hV H1 292 = hV H0 292 := fRow f10.1.2.1 292 (by decide +kernel)
  have ke := d18
  rw [z292, ky _ (by omega)] at ke
  have ki := kwR_in ⟨(n0).toNat, by omega⟩
  have ki1 : 0 ≤ kwR.getD (n0).toNat 0 ∧ kwR.getD (n0).toNat 0 < 1099511627776 := ⟨ki.1, ki.2.1⟩
  have lq := lcR f15 (by rw [ke]; exact ki1) ⟨nv0, nv1⟩
  rw [ke] at lq
  refine ⟨CIr_same (TRs.refl _) ci, xs_, lt, pl, x7_, nv, nv0, nv1, by omega, by omega, ?_⟩
  rw [show n13 = 20 + n0 by omega]
  exact KSr_hit (by omega) (by omega) (lq.mp (by omega))
def g_214w_146_2 : vG := ([(10, [14, 7], [], 1), (1, [13, 12, 7], [], 0), (0, [12], [], 20), (30, [11], [], 0), (65, [11, 10, 5], [], 0), (22, [10, 9, 7], [1], 0), (0, [9], [], 292), (42, [7, 8], [], 0), (0, [8], [], 34), (5000, [0, 1, 2, 3, 4, 5, 6, 7], [0, 1], 146), (90, [2], [], 0), (91, [2], [], 2000), (90, [3], [], -2147483648), (91, [3], [], 2147483647), (90, [4], [], 0), (91, [4], [], 2000), (90, [6], [], 0), (91, [6], [], 53), (90, [7], [], 0), (91, [7], [], 100)], (4000, [1, 2, 3, 4, 5, 13, 14], [1], 146))
theorem c_214w_146_2 {q0 : Nat} : vOkm T0 (eN e_214 L_214w A_214 mu_214 n_214 B_214 (some q0)) 1 g_214w_146_2 := vOk_inI fun ρ η f0 f1 f2 f3 f4 f5 f6 f7 f8 f9 f10 f11 f12 f13 f14 f15 f16 f17 f18 f19 => q_214w_18 (q0 := q0) (n0 := ρ 7) (n1 := ρ 6) (n2 := ρ 4) (n3 := ρ 3) (n4 := ρ 2) (n5 := ρ 1) (n6 := ρ 0) (n7 := ρ 5) (n8 := ρ 8) (n9 := ρ 9) (n10 := ρ 10) (n11 := ρ 11) (n12 := ρ 12) (n13 := ρ 13) (n14 := ρ 14) (H0 := η 0) (H1 := η 1) f19 f18 f17 f16 f15 f14 f13 f12 f11 f10 f9 f8 f7 f6 f5 f4 f3 f2 f1 f0
def p_214w_146 : List vG := [g_214w_146_0,
  g_214w_146_1,
  g_214w_146_2]
theorem r_214w_146 : vCovBO (eRc e_214 L_214 cs_214 2000 (146, [(0, (3, 12, 285, 0)), (1, (0, 0, 2000, 0)), (2, (0, -2147483648, 2147483647, 0)), (3, (0, 0, 2000, 0)), (4, (1, 0, 0, 0)), (6, (0, 0, 53, 0)), (7, (0, 0, 100, 0))])) p_214w_146 = true := by decide +kernel
theorem q_214w_19 {q0 : Nat} {n0 n1 n2 n3 n4 n5 n6 n7 n8 n9 n10 n11 n12 : Int} {H0 H1 H2 H3 H4 : gH} (f0 : n0 ≤ 9999) (f1 : 0 ≤ n0) (f2 : n1 ≤ 2000) (f3 : 0 ≤ n1) (f4 : n2 ≤ 2147483647) (f5 : (-2147483648) ≤ n2) (f6 : n3 ≤ 2000) (f7 : 0 ≤ n3) (f8 : (hLe T0 H0 H1 ∧ hFr s_214.2.2.2.2 H0 H1 ∧ hWt T0 H1) ∧ ((Ab_214_208 n5 n4 n3 n2 n1 n0 H0 H1 ∧ Bb_214_208 n5 n4 n3 n2 n1 n0 H0 H1) ∧ True) ∧ some q0 = some (mub_214_208 n5 n4 n3 n2 n1 n0 H0 H1)) (f9 : n6 = w32 (n3 + n1)) (f10 : n7 ≤ 255) (f11 : 0 ≤ n7) (f12 : (hLe T0 H1 H2 ∧ hFr s_208.2.2.2.2 H1 H2 ∧ ((0 : Int) = 0 → H2.length = H1.length) ∧ hWt T0 H2) ∧ postb_208 n7 n4 n6 H1 H2) (f13 : (hLe T0 H2 H3 ∧ hFr s_209.2.2.2.2 H2 H3 ∧ ((0 : Int) = 0 → H3.length = H2.length) ∧ hWt T0 H3) ∧ postb_209 n8 n7 H2 H3) (f14 : n8 = 0) (f15 : n9 = 4) (f16 : n1 ≤ n9) (f17 : n10 = 2) (f18 : n11 = 0) (f19 : (hLe T0 H3 H4 ∧ hFr s_213.2.2.2.2 H3 H4 ∧ ((0 : Int) = 0 → H4.length = H3.length) ∧ hWt T0 H4) ∧ (postb_213 n4 n10 n3 n0 n11 H3 H4 ∧ nb_213 n4 n10 n3 n0 n11 H3 H4)) (f20 : n12 = w32 (n3 + n1)) : Bb_214_7 n5 n4 n12 H0 H4 := by
  unfold Bb_214_7
  intro ky
  have ga := f8.2.1.1.2
  unfold Bb_214_208 at ga
  obtain ⟨ci, xs_, dg, nb_, di, vv⟩ := ga ky
  have ab := f8.2.1.1.1
  unfold Ab_214_208 at ab
  have q18 := f14
  have q20 := f16
  have qc19 := f15
  have s4 : (0 : Int) ≤ hV H0 285 4 ∧ hV H0 285 4 ≤ 2000 := by
    have q := f8.1.2.2 285 4 _ _ rW_4
    rw [f8.1.2.1.1 285 4 (by decide +kernel)] at q
    exact q
  have z4 : hV H1 285 4 = hV H0 285 4 := f8.1.2.1.1 285 4 (by decide +kernel)
  have z287 : hV H1 287 = hV H0 287 := fRow f8.1.2.1 287 (by decide +kernel)
  have c0 := ci.1.1
  have c5 := ci.1.2.1
  have ci0 := ci.1.2.2.1
  rw [z4] at ab
  have rg0 := f0
  have rg1 := f1
  have rg2 := f2
  have rg3 := f3
  have rg4 := f4
  have rg5 := f5
  have rg6 := f6
  have rg7 := f7
  have a14 := f12.2
  unfold postb_208 at a14
  replace a14 := a14.1
  rw [show hV H2 287 = hV H0 287 from (fRow f12.1.2.1 287 (by decide +kernel)).trans (z287), show hV H2 285 4 = hV H0 285 4 from (f12.1.2.1.1 285 4 (by decide +kernel)).trans (z4)] at a14
  have rg12 := f10
  have rg13 := f11
  have l17 := f13.2
  unfold postb_209 at l17
  have s11 : n6 = n3 + n1 := by
    have q := f9
    rw [q]
    exact w32_id (by omega) (by omega)
  have s24 : n12 = n3 + n1 := by
    have q := f20
    rw [q]
    exact w32_id (by omega) (by omega)
  have en : (hV H0 285 4).toNat ≤ (n3).toNat + (n1).toNat ∨ BR H0 ((n3).toNat + (n1).toNat) < 48 ∨ 57 < BR H0 ((n3).toNat + (n1).toNat) := by
    rcases Int.lt_or_le n6 (hV H0 285 4) with c | c
    · have b := atv_B a14 (by omega) c
      rw [show (n6).toNat = (n3).toNat + (n1).toNat by omega] at b
      omega
    · exact .inl (by omega)
  have pl := DIs_end di en
  rw [show (n3).toNat + (n1).toNat - (n3).toNat = (n1).toNat by omega] at pl
  have n := f19.2.2
  unfold nb_213 at n
  try rw [f17] at n
  try rw [f18] at n
  have e10 : hV H3 285 10 = hV H1 285 10 := (f13.1.2.1.1 285 10 (by decide +kernel)).trans (f12.1.2.1.1 285 10 (by decide +kernel))
  have m1_ : 1 ≤ (n1).toNat := by
    have := pDi_1 (B := BR H0) (n := (hV H0 285 4).toNat) (i := (n3).toNat) (by omega) dg.1 dg.2
    omega
  have pa := pTk_at (B := BR H0) (n := (hV H0 285 4).toNat) (i := (n3).toNat) (by omega)
  rw [if_neg (by omega), if_neg (by omega), if_pos dg, pl, show (n3).toNat + (n1).toNat = (n12).toNat by omega] at pa
  have cs := CIr_same (TRs.trans (TRs_fr f12.1.2.1 (by decide +kernel)) (TRs_fr f13.1.2.1 (by decide +kernel))) ci
  refine ⟨CIr_add cs n (by omega) (by omega) (by omega) (fun c => absurd c (by decide)) ?_ pa, by omega⟩
  unfold tkD
  rw [if_neg (by omega), pl, if_pos rfl, if_neg (by decide), Int.toNat_of_nonneg ci0, ← vv (by omega)]
  rfl
def g_214w_208_0 : vG := ([(1, [12, 2, 4], [], 0), (1213, [1, 10, 2, 5, 11], [3, 4], 0), (0, [11], [], 0), (0, [10], [], 2), (45, [4, 9], [], 0), (0, [9], [], 4), (30, [8], [], 0), (1209, [8, 7], [2, 3], 0), (1208, [7, 1, 6], [1, 2], 0), (90, [7], [], 0), (91, [7], [], 255), (1, [6, 2, 4], [], 0), (5000, [0, 1, 2, 3, 4, 5], [0, 1], 208), (90, [2], [], 0), (91, [2], [], 2000), (90, [3], [], -2147483648), (91, [3], [], 2147483647), (90, [4], [], 0), (91, [4], [], 2000), (90, [5], [], 0), (91, [5], [], 9999)], (4000, [1, 12], [4], 7))
theorem c_214w_208_0 {q0 : Nat} : vOkm T0 (eN e_214 L_214w A_214 mu_214 n_214 B_214 (some q0)) 1 g_214w_208_0 := vOk_inI fun ρ η f0 f1 f2 f3 f4 f5 f6 f7 f8 f9 f10 f11 f12 f13 f14 f15 f16 f17 f18 f19 f20 => q_214w_19 (q0 := q0) (n0 := ρ 5) (n1 := ρ 4) (n2 := ρ 3) (n3 := ρ 2) (n4 := ρ 1) (n5 := ρ 0) (n6 := ρ 6) (n7 := ρ 7) (n8 := ρ 8) (n9 := ρ 9) (n10 := ρ 10) (n11 := ρ 11) (n12 := ρ 12) (H0 := η 0) (H1 := η 1) (H2 := η 2) (H3 := η 3) (H4 := η 4) f20 f19 f18 f17 f16 f15 f14 f13 f12 f11 f10 f9 f8 f7 f6 f5 f4 f3 f2 f1 f0
theorem q_214w_20 {q0 : Nat} {n0 n1 n2 n3 n4 n5 n6 n7 n8 n9 n10 n11 n12 : Int} {H0 H1 H2 H3 H4 : gH} (f0 : n0 ≤ 9999) (f1 : 0 ≤ n0) (f2 : n1 ≤ 2000) (f3 : 0 ≤ n1) (f4 : n2 ≤ 2147483647) (f5 : (-2147483648) ≤ n2) (f6 : n3 ≤ 2000) (f7 : 0 ≤ n3) (f8 : (hLe T0 H0 H1 ∧ hFr s_214.2.2.2.2 H0 H1 ∧ hWt T0 H1) ∧ ((Ab_214_208 n5 n4 n3 n2 n1 n0 H0 H1 ∧ Bb_214_208 n5 n4 n3 n2 n1 n0 H0 H1) ∧ True) ∧ some q0 = some (mub_214_208 n5 n4 n3 n2 n1 n0 H0 H1)) (f9 : n6 = w32 (n3 + n1)) (f10 : n7 ≤ 255) (f11 : 0 ≤ n7) (f12 : (hLe T0 H1 H2 ∧ hFr s_208.2.2.2.2 H1 H2 ∧ ((0 : Int) = 0 → H2.length = H1.length) ∧ hWt T0 H2) ∧ postb_208 n7 n4 n6 H1 H2) (f13 : (hLe T0 H2 H3 ∧ hFr s_209.2.2.2.2 H2 H3 ∧ ((0 : Int) = 0 → H3.length = H2.length) ∧ hWt T0 H3) ∧ postb_209 n8 n7 H2 H3) (f14 : n8 = 0) (f15 : n9 = 4) (f16 : n9 < n1) (f17 : n10 = 3) (f18 : n11 = 0) (f19 : (hLe T0 H3 H4 ∧ hFr s_213.2.2.2.2 H3 H4 ∧ ((0 : Int) = 0 → H4.length = H3.length) ∧ hWt T0 H4) ∧ (postb_213 n4 n10 n3 n0 n11 H3 H4 ∧ nb_213 n4 n10 n3 n0 n11 H3 H4)) (f20 : n12 = w32 (n3 + n1)) : Bb_214_7 n5 n4 n12 H0 H4 := by
  unfold Bb_214_7
  intro ky
  have ga := f8.2.1.1.2
  unfold Bb_214_208 at ga
  obtain ⟨ci, xs_, dg, nb_, di, vv⟩ := ga ky
  have ab := f8.2.1.1.1
  unfold Ab_214_208 at ab
  have q18 := f14
  have q20 := f16
  have qc19 := f15
  have s4 : (0 : Int) ≤ hV H0 285 4 ∧ hV H0 285 4 ≤ 2000 := by
    have q := f8.1.2.2 285 4 _ _ rW_4
    rw [f8.1.2.1.1 285 4 (by decide +kernel)] at q
    exact q
  have z4 : hV H1 285 4 = hV H0 285 4 := f8.1.2.1.1 285 4 (by decide +kernel)
  have z287 : hV H1 287 = hV H0 287 := fRow f8.1.2.1 287 (by decide +kernel)
  have c0 := ci.1.1
  have c5 := ci.1.2.1
  have ci0 := ci.1.2.2.1
  rw [z4] at ab
  have rg0 := f0
  have rg1 := f1
  have rg2 := f2
  have rg3 := f3
  have rg4 := f4
  have rg5 := f5
  have rg6 := f6
  have rg7 := f7
  have a14 := f12.2
  unfold postb_208 at a14
  replace a14 := a14.1
  rw [show hV H2 287 = hV H0 287 from (fRow f12.1.2.1 287 (by decide +kernel)).trans (z287), show hV H2 285 4 = hV H0 285 4 from (f12.1.2.1.1 285 4 (by decide +kernel)).trans (z4)] at a14
  have rg12 := f10
  have rg13 := f11
  have l17 := f13.2
  unfold postb_209 at l17
  have s11 : n6 = n3 + n1 := by
    have q := f9
    rw [q]
    exact w32_id (by omega) (by omega)
  have s24 : n12 = n3 + n1 := by
    have q := f20
    rw [q]
    exact w32_id (by omega) (by omega)
  have en : (hV H0 285 4).toNat ≤ (n3).toNat + (n1).toNat ∨ BR H0 ((n3).toNat + (n1).toNat) < 48 ∨ 57 < BR H0 ((n3).toNat + (n1).toNat) := by
    rcases Int.lt_or_le n6 (hV H0 285 4) with c | c
    · have b := atv_B a14 (by omega) c
      rw [show (n6).toNat = (n3).toNat + (n1).toNat by omega] at b
      omega
    · exact .inl (by omega)
  have pl := DIs_end di en
  rw [show (n3).toNat + (n1).toNat - (n3).toNat = (n1).toNat by omega] at pl
  have n := f19.2.2
  unfold nb_213 at n
  try rw [f17] at n
  try rw [f18] at n
  have e10 : hV H3 285 10 = hV H1 285 10 := (f13.1.2.1.1 285 10 (by decide +kernel)).trans (f12.1.2.1.1 285 10 (by decide +kernel))
  have m1_ : 1 ≤ (n1).toNat := by
    have := pDi_1 (B := BR H0) (n := (hV H0 285 4).toNat) (i := (n3).toNat) (by omega) dg.1 dg.2
    omega
  have pa := pTk_at (B := BR H0) (n := (hV H0 285 4).toNat) (i := (n3).toNat) (by omega)
  rw [if_neg (by omega), if_neg (by omega), if_pos dg, pl, show (n3).toNat + (n1).toNat = (n12).toNat by omega] at pa
  have cs := CIr_same (TRs.trans (TRs_fr f12.1.2.1 (by decide +kernel)) (TRs_fr f13.1.2.1 (by decide +kernel))) ci
  refine ⟨CIr_add cs n (by omega) (by omega) (by omega) (fun c => absurd c (by decide)) ?_ pa, by omega⟩
  unfold tkD
  rw [if_pos (by omega), if_neg (by decide), if_neg (by decide), Int.toNat_of_nonneg ci0]
  rfl
def g_214w_208_1 : vG := ([(1, [12, 2, 4], [], 0), (1213, [1, 10, 2, 5, 11], [3, 4], 0), (0, [11], [], 0), (0, [10], [], 3), (44, [4, 9], [], 0), (0, [9], [], 4), (30, [8], [], 0), (1209, [8, 7], [2, 3], 0), (1208, [7, 1, 6], [1, 2], 0), (90, [7], [], 0), (91, [7], [], 255), (1, [6, 2, 4], [], 0), (5000, [0, 1, 2, 3, 4, 5], [0, 1], 208), (90, [2], [], 0), (91, [2], [], 2000), (90, [3], [], -2147483648), (91, [3], [], 2147483647), (90, [4], [], 0), (91, [4], [], 2000), (90, [5], [], 0), (91, [5], [], 9999)], (4000, [1, 12], [4], 7))
theorem c_214w_208_1 {q0 : Nat} : vOkm T0 (eN e_214 L_214w A_214 mu_214 n_214 B_214 (some q0)) 1 g_214w_208_1 := vOk_inI fun ρ η f0 f1 f2 f3 f4 f5 f6 f7 f8 f9 f10 f11 f12 f13 f14 f15 f16 f17 f18 f19 f20 => q_214w_20 (q0 := q0) (n0 := ρ 5) (n1 := ρ 4) (n2 := ρ 3) (n3 := ρ 2) (n4 := ρ 1) (n5 := ρ 0) (n6 := ρ 6) (n7 := ρ 7) (n8 := ρ 8) (n9 := ρ 9) (n10 := ρ 10) (n11 := ρ 11) (n12 := ρ 12) (H0 := η 0) (H1 := η 1) (H2 := η 2) (H3 := η 3) (H4 := η 4) f20 f19 f18 f17 f16 f15 f14 f13 f12 f11 f10 f9 f8 f7 f6 f5 f4 f3 f2 f1 f0
theorem q_214w_21 {q0 : Nat} {n0 n1 n2 n3 n4 n5 n6 n7 n8 n9 n10 : Int} {H0 H1 H2 H3 : gH} (f0 : n0 ≤ 9999) (f1 : 0 ≤ n0) (f2 : n1 ≤ 2000) (f3 : 0 ≤ n1) (f4 : n2 ≤ 2147483647) (f5 : (-2147483648) ≤ n2) (f6 : n3 ≤ 2000) (f7 : 0 ≤ n3) (f8 : (hLe T0 H0 H1 ∧ hFr s_214.2.2.2.2 H0 H1 ∧ hWt T0 H1) ∧ ((Ab_214_208 n5 n4 n3 n2 n1 n0 H0 H1 ∧ Bb_214_208 n5 n4 n3 n2 n1 n0 H0 H1) ∧ True) ∧ some q0 = some (mub_214_208 n5 n4 n3 n2 n1 n0 H0 H1)) (f9 : n6 = w32 (n3 + n1)) (f10 : n7 ≤ 255) (f11 : 0 ≤ n7) (f12 : (hLe T0 H1 H2 ∧ hFr s_208.2.2.2.2 H1 H2 ∧ ((0 : Int) = 0 → H2.length = H1.length) ∧ hWt T0 H2) ∧ postb_208 n7 n4 n6 H1 H2) (f13 : (hLe T0 H2 H3 ∧ hFr s_209.2.2.2.2 H2 H3 ∧ ((0 : Int) = 0 → H3.length = H2.length) ∧ hWt T0 H3) ∧ postb_209 n8 n7 H2 H3) (f14 : n8 ≠ 0) (f15 : n9 = 4) (f16 : n9 ≤ n1) (f17 : n10 = w32 (n1 + 1)) : Bb_214_208 n5 n4 n3 n2 n10 n0 H0 H3 := by
  unfold Bb_214_208
  intro ky
  have ga := f8.2.1.1.2
  unfold Bb_214_208 at ga
  obtain ⟨ci, xs_, dg, nb_, di, vv⟩ := ga ky
  have ab := f8.2.1.1.1
  unfold Ab_214_208 at ab
  have q18 := f14
  have q20 := f16
  have qc19 := f15
  have q21 := f17
  unfold w32 at q21
  have s4 : (0 : Int) ≤ hV H0 285 4 ∧ hV H0 285 4 ≤ 2000 := by
    have q := f8.1.2.2 285 4 _ _ rW_4
    rw [f8.1.2.1.1 285 4 (by decide +kernel)] at q
    exact q
  have z4 : hV H1 285 4 = hV H0 285 4 := f8.1.2.1.1 285 4 (by decide +kernel)
  have z287 : hV H1 287 = hV H0 287 := fRow f8.1.2.1 287 (by decide +kernel)
  have c0 := ci.1.1
  have c5 := ci.1.2.1
  have ci0 := ci.1.2.2.1
  rw [z4] at ab
  have rg0 := f0
  have rg1 := f1
  have rg2 := f2
  have rg3 := f3
  have rg4 := f4
  have rg5 := f5
  have rg6 := f6
  have rg7 := f7
  have a14 := f12.2
  unfold postb_208 at a14
  replace a14 := a14.1
  rw [show hV H2 287 = hV H0 287 from (fRow f12.1.2.1 287 (by decide +kernel)).trans (z287), show hV H2 285 4 = hV H0 285 4 from (f12.1.2.1.1 285 4 (by decide +kernel)).trans (z4)] at a14
  have rg12 := f10
  have rg13 := f11
  have l17 := f13.2
  unfold postb_209 at l17
  have s11 : n6 = n3 + n1 := by
    have q := f9
    rw [q]
    exact w32_id (by omega) (by omega)
  have s21 : n10 = n1 + 1 := by
    have q := f17
    rw [q]
    exact w32_id (by omega) (by omega)
  have ix : n6 < hV H0 285 4 := by
    rcases Int.lt_or_le n6 (hV H0 285 4) with c | c
    · exact c
    · have := atv_0 a14 c
      omega
  have b := atv_B a14 (by omega) ix
  rw [show (n6).toNat = (n3).toNat + (n1).toNat by omega] at b
  have st := DIs_step di (by omega) (by omega) (by omega)
  rw [show (n3).toNat + (n1).toNat + 1 = (n3).toNat + (n10).toNat by omega] at st
  exact ⟨CIr_same (TRs.trans (TRs_fr f12.1.2.1 (by decide +kernel)) (TRs_fr f13.1.2.1 (by decide +kernel))) ci, xs_, dg, nb_, st, fun c => by omega⟩
def g_214w_208_2 : vG := ([(10, [10, 4], [], 1), (43, [4, 9], [], 0), (0, [9], [], 4), (31, [8], [], 0), (1209, [8, 7], [2, 3], 0), (1208, [7, 1, 6], [1, 2], 0), (90, [7], [], 0), (91, [7], [], 255), (1, [6, 2, 4], [], 0), (5000, [0, 1, 2, 3, 4, 5], [0, 1], 208), (90, [2], [], 0), (91, [2], [], 2000), (90, [3], [], -2147483648), (91, [3], [], 2147483647), (90, [4], [], 0), (91, [4], [], 2000), (90, [5], [], 0), (91, [5], [], 9999)], (4000, [1, 2, 3, 10, 5], [3], 208))
theorem c_214w_208_2 {q0 : Nat} : vOkm T0 (eN e_214 L_214w A_214 mu_214 n_214 B_214 (some q0)) 1 g_214w_208_2 := vOk_inI fun ρ η f0 f1 f2 f3 f4 f5 f6 f7 f8 f9 f10 f11 f12 f13 f14 f15 f16 f17 => q_214w_21 (q0 := q0) (n0 := ρ 5) (n1 := ρ 4) (n2 := ρ 3) (n3 := ρ 2) (n4 := ρ 1) (n5 := ρ 0) (n6 := ρ 6) (n7 := ρ 7) (n8 := ρ 8) (n9 := ρ 9) (n10 := ρ 10) (H0 := η 0) (H1 := η 1) (H2 := η 2) (H3 := η 3) f17 f16 f15 f14 f13 f12 f11 f10 f9 f8 f7 f6 f5 f4 f3 f2 f1 f0
theorem q_214w_22 {q0 : Nat} {n0 n1 n2 n3 n4 n5 n6 n7 n8 n9 n10 n11 n12 n13 n14 n15 n16 n17 : Int} {H0 H1 H2 H3 H4 : gH} (f0 : n0 ≤ 9999) (f1 : 0 ≤ n0) (f2 : n1 ≤ 2000) (f3 : 0 ≤ n1) (f4 : n2 ≤ 2147483647) (f5 : (-2147483648) ≤ n2) (f6 : n3 ≤ 2000) (f7 : 0 ≤ n3) (f8 : (hLe T0 H0 H1 ∧ hFr s_214.2.2.2.2 H0 H1 ∧ hWt T0 H1) ∧ ((Ab_214_208 n5 n4 n3 n2 n1 n0 H0 H1 ∧ Bb_214_208 n5 n4 n3 n2 n1 n0 H0 H1) ∧ True) ∧ some q0 = some (mub_214_208 n5 n4 n3 n2 n1 n0 H0 H1)) (f9 : n6 = w32 (n3 + n1)) (f10 : n7 ≤ 255) (f11 : 0 ≤ n7) (f12 : (hLe T0 H1 H2 ∧ hFr s_208.2.2.2.2 H1 H2 ∧ ((0 : Int) = 0 → H2.length = H1.length) ∧ hWt T0 H2) ∧ postb_208 n7 n4 n6 H1 H2) (f13 : (hLe T0 H2 H3 ∧ hFr s_209.2.2.2.2 H2 H3 ∧ ((0 : Int) = 0 → H3.length = H2.length) ∧ hWt T0 H3) ∧ postb_209 n8 n7 H2 H3) (f14 : n8 ≠ 0) (f15 : n9 = 4) (f16 : n1 < n9) (f17 : n10 = 10) (f18 : n11 = w32 (n10 * n0)) (f19 : n12 = w32 (n3 + n1)) (f20 : n13 ≤ 255) (f21 : 0 ≤ n13) (f22 : (hLe T0 H3 H4 ∧ hFr s_208.2.2.2.2 H3 H4 ∧ ((0 : Int) = 0 → H4.length = H3.length) ∧ hWt T0 H4) ∧ postb_208 n13 n4 n12 H3 H4) (f23 : n14 = w32 (n11 + n13)) (f24 : n15 = 48) (f25 : n16 = w32 (n14 - n15)) (f26 : n17 = w32 (n1 + 1)) : Bb_214_208 n5 n4 n3 n2 n17 n16 H0 H4 := by
  unfold Bb_214_208
  intro ky
  have ga := f8.2.1.1.2
  unfold Bb_214_208 at ga
  obtain ⟨ci, xs_, dg, nb_, di, vv⟩ := ga ky
  have ab := f8.2.1.1.1
  unfold Ab_214_208 at ab
  have q18 := f14
  have q20 := f16
  have qc19 := f15
  have q30 := f26
  unfold w32 at q30
  have s4 : (0 : Int) ≤ hV H0 285 4 ∧ hV H0 285 4 ≤ 2000 := by
    have q := f8.1.2.2 285 4 _ _ rW_4
    rw [f8.1.2.1.1 285 4 (by decide +kernel)] at q
    exact q
  have z4 : hV H1 285 4 = hV H0 285 4 := f8.1.2.1.1 285 4 (by decide +kernel)
  have z287 : hV H1 287 = hV H0 287 := fRow f8.1.2.1 287 (by decide +kernel)
  have c0 := ci.1.1
  have c5 := ci.1.2.1
  have ci0 := ci.1.2.2.1
  rw [z4] at ab
  have rg0 := f0
  have rg1 := f1
  have rg2 := f2
  have rg3 := f3
  have rg4 := f4
  have rg5 := f5
  have rg6 := f6
  have rg7 := f7
  have a14 := f12.2
  unfold postb_208 at a14
  replace a14 := a14.1
  rw [show hV H2 287 = hV H0 287 from (fRow f12.1.2.1 287 (by decide +kernel)).trans (z287), show hV H2 285 4 = hV H0 285 4 from (f12.1.2.1.1 285 4 (by decide +kernel)).trans (z4)] at a14
  have rg12 := f10
  have rg13 := f11
  have a26 := f22.2
  unfold postb_208 at a26
  replace a26 := a26.1
  rw [show hV H4 287 = hV H0 287 from ((fRow f22.1.2.1 287 (by decide +kernel)).trans ((fRow f13.1.2.1 287 (by decide +kernel)).trans (fRow f12.1.2.1 287 (by decide +kernel)))).trans (z287), show hV H4 285 4 = hV H0 285 4 from ((f22.1.2.1.1 285 4 (by decide +kernel)).trans ((f13.1.2.1.1 285 4 (by decide +kernel)).trans (f12.1.2.1.1 285 4 (by decide +kernel)))).trans (z4)] at a26
  have rg24 := f20
  have rg25 := f21
  have l17 := f13.2
  unfold postb_209 at l17
  have s11 : n6 = n3 + n1 := by
    have q := f9
    rw [q]
    exact w32_id (by omega) (by omega)
  have s22 : n11 = 10 * n0 := by
    have q := f18
    rw [f17] at q
    rw [q]
    exact w32_id (by omega) (by omega)
  have s23 : n12 = n3 + n1 := by
    have q := f19
    rw [q]
    exact w32_id (by omega) (by omega)
  have s27 : n14 = n11 + n13 := by
    have q := f23
    rw [q]
    exact w32_id (by omega) (by omega)
  have s29 : n16 = n14 - 48 := by
    have q := f25
    rw [f24] at q
    rw [q]
    exact w32_id (by omega) (by omega)
  have s30 : n17 = n1 + 1 := by
    have q := f26
    rw [q]
    exact w32_id (by omega) (by omega)
  have ix : n6 < hV H0 285 4 := by
    rcases Int.lt_or_le n6 (hV H0 285 4) with c | c
    · exact c
    · have := atv_0 a14 c
      omega
  have b := atv_B a14 (by omega) ix
  rw [show (n6).toNat = (n3).toNat + (n1).toNat by omega] at b
  have st := DIs_step di (by omega) (by omega) (by omega)
  rw [show (n3).toNat + (n1).toNat + 1 = (n3).toNat + (n17).toNat by omega] at st
  have b2 := atv_B a26 (by omega) (by omega)
  rw [show (n12).toNat = (n3).toNat + (n1).toNat by omega] at b2
  refine ⟨CIr_same (TRs.trans (TRs_fr f12.1.2.1 (by decide +kernel)) (TRs.trans (TRs_fr f13.1.2.1 (by decide +kernel)) (TRs_fr f22.1.2.1 (by decide +kernel)))) ci, xs_, dg, nb_, st, fun _ => ?_⟩
  rw [show (n17).toNat = (n1).toNat + 1 by omega, pVa_add, ← b2, ← vv (by omega)]
  omega
def g_214w_208_3 : vG := ([(10, [17, 4], [], 1), (2, [16, 14, 15], [], 0), (0, [15], [], 48), (1, [14, 11, 13], [], 0), (1208, [13, 1, 12], [3, 4], 0), (90, [13], [], 0), (91, [13], [], 255), (1, [12, 2, 4], [], 0), (3, [11, 10, 5], [], 0), (0, [10], [], 10), (42, [4, 9], [], 0), (0, [9], [], 4), (31, [8], [], 0), (1209, [8, 7], [2, 3], 0), (1208, [7, 1, 6], [1, 2], 0), (90, [7], [], 0), (91, [7], [], 255), (1, [6, 2, 4], [], 0), (5000, [0, 1, 2, 3, 4, 5], [0, 1], 208), (90, [2], [], 0), (91, [2], [], 2000), (90, [3], [], -2147483648), (91, [3], [], 2147483647), (90, [4], [], 0), (91, [4], [], 2000), (90, [5], [], 0), (91, [5], [], 9999)], (4000, [1, 2, 3, 17, 16], [4], 208))
theorem c_214w_208_3 {q0 : Nat} : vOkm T0 (eN e_214 L_214w A_214 mu_214 n_214 B_214 (some q0)) 1 g_214w_208_3 := vOk_inI fun ρ η f0 f1 f2 f3 f4 f5 f6 f7 f8 f9 f10 f11 f12 f13 f14 f15 f16 f17 f18 f19 f20 f21 f22 f23 f24 f25 f26 => q_214w_22 (q0 := q0) (n0 := ρ 5) (n1 := ρ 4) (n2 := ρ 3) (n3 := ρ 2) (n4 := ρ 1) (n5 := ρ 0) (n6 := ρ 6) (n7 := ρ 7) (n8 := ρ 8) (n9 := ρ 9) (n10 := ρ 10) (n11 := ρ 11) (n12 := ρ 12) (n13 := ρ 13) (n14 := ρ 14) (n15 := ρ 15) (n16 := ρ 16) (n17 := ρ 17) (H0 := η 0) (H1 := η 1) (H2 := η 2) (H3 := η 3) (H4 := η 4) f26 f25 f24 f23 f22 f21 f20 f19 f18 f17 f16 f15 f14 f13 f12 f11 f10 f9 f8 f7 f6 f5 f4 f3 f2 f1 f0
def p_214w_208 : List vG := [g_214w_208_0,
  g_214w_208_1,
  g_214w_208_2,
  g_214w_208_3]
theorem r_214w_208 : vCovBO (eRc e_214 L_214 cs_214 2000 (208, [(0, (3, 12, 285, 0)), (1, (0, 0, 2000, 0)), (2, (0, -2147483648, 2147483647, 0)), (3, (0, 0, 2000, 0)), (4, (0, 0, 9999, 0))])) p_214w_208 = true := by decide +kernel
theorem m_214w (d : Nat) : eC e_214w (d + 3) := eC_ref (e := e_214) (L := L_214) (L' := L_214w) (cs := cs_214) (n := 2000) (d := d + 2) (A := A_214) (μ := mu_214) (tp := true) (p0 := p_214_s) (p1 := p_214w_s) (N := n_214) (B := B_214) rfl ⟨m_208 (d + 1), ⟨m_209 (d + 1), ⟨m_210 (d + 1), ⟨m_211w (d + 1), ⟨m_213w (d + 1), ⟨m_215w d, trivial⟩⟩⟩⟩⟩⟩ rfl (.inr pre0_ok) (by decide +kernel) (fun _ => post0_ok) r_214_s (allC c_214_s_0 allN) (allC (.inl ⟨p_214_7, r_214_7, fun q0 => (allC c_214_7_0 (allC c_214_7_1 (allC c_214_7_2 (allC c_214_7_3 (allC c_214_7_4 (allC c_214_7_5 (allC c_214_7_6 (allC c_214_7_7 (allC c_214_7_8 (allC c_214_7_9 (allC c_214_7_10 (allC c_214_7_11 (allC c_214_7_12 (allC c_214_7_13 (allC c_214_7_14 (allC c_214_7_15 (allC c_214_7_16 (allC c_214_7_17 (allC c_214_7_18 (allC c_214_7_19 (allC c_214_7_20 allN)))))))))))))))))))))⟩) (allC (.inl ⟨p_214_85, r_214_85, fun q0 => (allC c_214_85_0 (allC c_214_85_1 (allC c_214_85_2 (allC c_214_85_3 (allC c_214_85_4 (allC c_214_85_5 (allC c_214_85_6 (allC c_214_85_7 (allC c_214_85_8 (allC c_214_85_9 (allC c_214_85_10 (allC c_214_85_11 (allC c_214_85_12 (allC c_214_85_13 (allC c_214_85_14 (allC c_214_85_15 (allC c_214_85_16 (allC c_214_85_17 allN))))))))))))))))))⟩) (allC (.inl ⟨p_214_146, r_214_146, fun q0 => (allC c_214_146_0 (allC c_214_146_1 (allC c_214_146_2 (allC c_214_146_3 (allC c_214_146_4 (allC c_214_146_5 (allC c_214_146_6 (allC c_214_146_7 (allC c_214_146_8 (allC c_214_146_9 (allC c_214_146_10 (allC c_214_146_11 (allC c_214_146_12 allN)))))))))))))⟩) (allC (.inl ⟨p_214_208, r_214_208, fun q0 => (allC c_214_208_0 (allC c_214_208_1 (allC c_214_208_2 (allC c_214_208_3 (allC c_214_208_4 (allC c_214_208_5 (allC c_214_208_6 (allC c_214_208_7 (allC c_214_208_8 (allC c_214_208_9 (allC c_214_208_10 (allC c_214_208_11 (allC c_214_208_12 (allC c_214_208_13 (allC c_214_208_14 (allC c_214_208_15 (allC c_214_208_16 (allC c_214_208_17 allN))))))))))))))))))⟩) allN)))) (sub0 (sub0 (sub0 (sub1 (sub1 (sub1 trivial)))))) r_214w_s (allC c_214w_s_0 allN) (allC ⟨p_214w_7, r_214w_7, fun q0 => (allC c_214w_7_0 (allC c_214w_7_1 (allC c_214w_7_2 (allC c_214w_7_3 (allC c_214w_7_4 (allC c_214w_7_5 (allC c_214w_7_6 (allC c_214w_7_7 (allC c_214w_7_8 allN)))))))))⟩ (allC ⟨p_214w_85, r_214w_85, fun q0 => (allC c_214w_85_0 (allC c_214w_85_1 (allC c_214w_85_2 (allC c_214w_85_3 (allC c_214w_85_4 (allC c_214w_85_5 allN))))))⟩ (allC ⟨p_214w_146, r_214w_146, fun q0 => (allC c_214w_146_0 (allC c_214w_146_1 (allC c_214w_146_2 allN)))⟩ (allC ⟨p_214w_208, r_214w_208, fun q0 => (allC c_214w_208_0 (allC c_214w_208_1 (allC c_214w_208_2 (allC c_214w_208_3 allN))))⟩ allN))))
