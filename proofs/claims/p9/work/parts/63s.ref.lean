/- MixStageModel.read ()I, more fully -/
def nb_221 (r a0 : Int) (h0 h : gH) : Prop := KEYS h0 → (hV h0 285 18 = 8 ∧ r = -2 ∧ hV h 285 2 = hV h0 285 2 ∧ hV h 285 17 = hV h0 285 17 ∧ hV h 285 18 = hV h0 285 18 ∧ (hV h 293) = (hV h0 293)) ∨ (¬ hV h0 285 18 = 8 ∧ r = pRes (pRead (pTx (BT h0) (hV h0 285 2))) ∧ hV h 285 17 = pPlc (pRead (pTx (BT h0) (hV h0 285 2))) ∧ hV h 285 2 = 0 ∧ ((r = 0 ∧ ¬ (pTx (BT h0) (hV h0 285 2)).1 0 = 19 ∧ hV h 285 18 = hV h0 285 18 + 1 ∧ (hV h 293) = uF (hV h0 293) (hV h0 285 18) (hV h0 285 60 - 1)) ∨ (¬ (r = 0 ∧ ¬ (pTx (BT h0) (hV h0 285 2)).1 0 = 19) ∧ hV h 285 18 = hV h0 285 18 ∧ (hV h 293) = (hV h0 293))))
def n_221 : List Int → gH → gH → Prop := fun xs h0 h => match xs with
  | [r, a0] => nb_221 r a0 h0 h
  | _ => True
noncomputable def e_221w : vE := eV e_221 n_221
noncomputable def L_221w : List vE := [e_214w, e_216, e_217w, e_224w, e_231w]
def Bb_221_22 (a0 x0 x1 : Int) (h0 h : gH) : Prop := KEYS h0 → hV h 285 4 = hV h0 285 2 ∧ hV h 285 2 = hV h0 285 2 ∧ x1 ≤ hV h0 285 2 ∧ hV h 285 18 = hV h0 285 18 ∧ ¬ hV h0 285 18 = 8 ∧ (hV h 293) = (hV h0 293) ∧ (∀ k : Nat, (k : Int) < x1 → hV h 287 (k) = hV h0 286 (k))
def Bb_221_117 (a0 x0 x1 : Int) (h0 h : gH) : Prop := KEYS h0 → RI h ∧ vwR h = (pTx (BT h0) (hV h0 285 2)) ∧ absR h = (if (pTx (BT h0) (hV h0 285 2)).1 0 = 19 then pRules (pTx (BT h0) (hV h0 285 2)) (0, 0) else pSheet (pTx (BT h0) (hV h0 285 2)) (0, 0)) ∧ ((x1 = 1 ∧ (pTx (BT h0) (hV h0 285 2)).1 0 = 19) ∨ (x1 = 0 ∧ ¬ (pTx (BT h0) (hV h0 285 2)).1 0 = 19)) ∧ hV h 285 2 = 0 ∧ hV h 285 18 = hV h0 285 18 ∧ ¬ hV h0 285 18 = 8 ∧ (hV h 293) = (hV h0 293)
def Bb_221_170 (a0 x0 x1 : Int) (h0 h : gH) : Prop := KEYS h0 → RI h ∧ absR h = pRead (pTx (BT h0) (hV h0 285 2)) ∧ hV h 285 17 = pPlc (pRead (pTx (BT h0) (hV h0 285 2))) ∧ ((x1 = 1 ∧ (pTx (BT h0) (hV h0 285 2)).1 0 = 19) ∨ (x1 = 0 ∧ ¬ (pTx (BT h0) (hV h0 285 2)).1 0 = 19)) ∧ hV h 285 2 = 0 ∧ hV h 285 18 = hV h0 285 18 ∧ ¬ hV h0 285 18 = 8 ∧ (hV h 293) = (hV h0 293)
def B_221 : Int → List Int → gH → gH → Prop := fun c xs h0 h => match c.toNat with
  | 22 => (match xs with
    | [a0, x0, x1] => Bb_221_22 a0 x0 x1 h0 h
    | _ => False)
  | 117 => (match xs with
    | [a0, x0, x1] => Bb_221_117 a0 x0 x1 h0 h
    | _ => False)
  | 170 => (match xs with
    | [a0, x0, x1] => Bb_221_170 a0 x0 x1 h0 h
    | _ => False)
  | _ => True
theorem q_221w_0 {n0 n1 n2 n3 n4 n5 : Int} {H0 H1 : gH} (f0 : n0 = 285) (f1 : hWt T0 H0 ∧ preb_221 n0 H0) (f2 : n1 = hV H0 (n0).toNat 18) (f3 : n2 = 8) (f4 : n1 ≠ n2) (f5 : n3 = hV H0 (n0).toNat 2) (f6 : n4 = 4) (f7 : hUpd H1 H0 n0 n4 n3) (f8 : n5 = 0) : Bb_221_22 n0 n0 n5 H0 H1 := by
  unfold Bb_221_22
  intro ky
  have d5 := rdS (q := 285) f2 f0
  have d11 := rdS (q := 285) f5 f0
  have q7 := f4
  have qc6 := f3
  have xc := f8
  have b2 := f1.1 285 2 _ _ rW_2
  have s4_ : hV H1 285 4 = n3 := uSame f7 285 4 (by rw [f0]; rfl) (by rw [f6]; rfl)
  have s2_ : hV H1 285 2 = hV H0 285 2 := uSlot f7 285 2 (by rw [f6]; decide)
  have s18_ : hV H1 285 18 = hV H0 285 18 := uSlot f7 285 18 (by rw [f6]; decide)
  have r293 : hV H1 293 = hV H0 293 := uRowNe f7 293 (by rw [f0]; decide)
  exact ⟨by omega, by omega, by omega, by omega, by omega, r293, fun k hk => by omega⟩
def g_221w_s_0 : vG := ([(0, [5], [], 0), (80, [0, 4, 3], [1, 0], 0), (0, [4], [], 4), (20, [3, 0], [0], 2), (41, [1, 2], [], 0), (0, [2], [], 8), (20, [1, 0], [0], 18), (6000, [0], [0], 0), (0, [0], [], 285)], (4000, [0, 5], [1], 22))
theorem c_221w_s_0 : vOkm T0 (eN e_221 L_221w A_221 mu_221 n_221 B_221 none) 1 g_221w_s_0 := vOk_inI fun ρ η f0 f1 f2 f3 f4 f5 f6 f7 f8 => q_221w_0 (n0 := ρ 0) (n1 := ρ 1) (n2 := ρ 2) (n3 := ρ 3) (n4 := ρ 4) (n5 := ρ 5) (H0 := η 0) (H1 := η 1) f8 f7 f6 f5 f4 f3 f2 f1 f0
theorem q_221w_1 {n0 n1 n2 n3 : Int} {H0 : gH} (f0 : n0 = 285) (f1 : n1 = hV H0 (n0).toNat 18) (f2 : n2 = 8) (f3 : n1 = n2) (f4 : n3 = (-2)) : nb_221 n3 n0 H0 H0 := by
  unfold nb_221
  intro ky
  have d5 := rdS (q := 285) f1 f0
  have q7 := f3
  have qc6 := f2
  exact .inl ⟨by omega, f4, rfl, rfl, rfl, rfl⟩
def g_221w_s_1 : vG := ([(0, [3], [], -2), (40, [1, 2], [], 0), (0, [2], [], 8), (20, [1, 0], [0], 18), (0, [0], [], 285)], (3000, [3], [0], 11))
theorem c_221w_s_1 : vOkm T0 (eN e_221 L_221w A_221 mu_221 n_221 B_221 none) 1 g_221w_s_1 := vOk_inI fun ρ η f0 f1 f2 f3 f4 => q_221w_1 (n0 := ρ 0) (n1 := ρ 1) (n2 := ρ 2) (n3 := ρ 3) (H0 := η 0) f4 f3 f2 f1 f0
def p_221w_s : List vG := [g_221w_s_0,
  g_221w_s_1]
theorem r_221w_s : vCovBO (eR0 e_221 L_221 cs_221 2000) p_221w_s = true := by decide +kernel
theorem q_221w_2 {q0 : Nat} {n0 n1 n2 n3 n4 n5 n6 n7 n8 n9 n10 n11 n12 n13 n14 n15 n17 n18 n19 n20 n21 : Int} {H0 H1 H2 H3 H4 H5 H6 H7 H8 H9 H10 H11 : gH} (f0 : n1 = 285) (f1 : (hLe T0 H0 H1 ∧ hFr s_221.2.2.2.2 H0 H1 ∧ hWt T0 H1) ∧ ((Ab_221_22 n2 n1 n0 H0 H1 ∧ Bb_221_22 n2 n1 n0 H0 H1) ∧ preb_221 n2 H0) ∧ some q0 = some (mub_221_22 n2 n1 n0 H0 H1)) (f2 : n3 = hV H1 (n1).toNat 4) (f3 : n3 ≤ n0) (f4 : n4 = 0) (f5 : n5 = 2) (f6 : hUpd H2 H1 n1 n5 n4) (f7 : (hLe T0 H2 H3 ∧ hFr s_214.2.2.2.2 H2 H3 ∧ ((0 : Int) = 0 → H3.length = H2.length) ∧ hWt T0 H3) ∧ (True ∧ nb_214 n1 H2 H3)) (f8 : n6 = 0) (f9 : n7 = 11) (f10 : hUpd H4 H3 n1 n7 n6) (f11 : n9 = 12) (f12 : hUpd H5 H4 n1 n9 n8) (f13 : n10 = 0) (f14 : n11 = 13) (f15 : hUpd H6 H5 n1 n11 n10) (f16 : n12 = 0) (f17 : n13 = 15) (f18 : hUpd H7 H6 n1 n13 n12) (f19 : n14 = hV H7 (n1).toNat 18) (f20 : n15 = 32) (f21 : hUpd H8 H7 n1 n15 n14) (f22 : n17 = hV H8 (n1).toNat 34) (f23 : n19 = 35) (f24 : hUpd H9 H8 n1 n19 n18) (f25 : n20 = 23) (f26 : (hLe T0 H9 H10 ∧ hFr s_216.2.2.2.2 H9 H10 ∧ ((0 : Int) = 0 → H10.length = H9.length) ∧ hWt T0 H10) ∧ postb_216 n21 n1 n20 H9 H10) (f27 : n21 = 0) (f28 : (hLe T0 H10 H11 ∧ hFr s_224.2.2.2.2 H10 H11 ∧ ((0 : Int) = 0 → H11.length = H10.length) ∧ hWt T0 H11) ∧ (postb_224 n1 H10 H11 ∧ nb_224 n1 H10 H11)) : Bb_221_117 n2 n1 n21 H0 H11 := by
  unfold Bb_221_117
  intro ky
  have ga := f1.2.1.1.2
  unfold Bb_221_22 at ga
  obtain ⟨sz, tp, xh, s18, h8, r293, cp⟩ := ga ky
  have d8 := rdS (q := 285) f2 f0
  have d34 := rdS (q := 285) f19 f0
  have d42 := rdS (q := 285) f22 f0
  have q9 := f3
  have q51 := f27
  have b2 : (0 : Int) ≤ hV H1 285 18 ∧ hV H1 285 18 ≤ 8 := f1.1.2.2 285 18 _ _ rW_18
  have k292 : hV H2 292 = hV H0 292 := (uRowNe f6 292 (by rw [f0]; decide)).trans (fRow f1.1.2.1 292 (by decide +kernel))
  have k287 : hV H2 287 = hV H1 287 := uRowNe f6 287 (by rw [f0]; decide)
  have k4 : hV H2 285 4 = hV H1 285 4 := uSlot f6 285 4 (by rw [f5]; decide)
  have c := f7.2.2 (fun q hq => by rw [k292]; exact ky q hq)
  have vw : pTx (BR H2) (hV H2 285 4) = (pTx (BT H0) (hV H0 285 2)) := by
    rw [k4, sz]
    refine pTx_congr (fun q hq => ?_)
    unfold BR BT
    rw [k287, cp q (by omega)]
  rw [vw] at c
  have tr := (TRs.trans (TRs_slot (s := 11) f10 f0 f9 (by decide)) (TRs.trans (TRs_slot (s := 12) f12 f0 f11 (by decide)) (TRs.trans (TRs_slot (s := 13) f15 f0 f14 (by decide)) (TRs.trans (TRs_slot (s := 15) f18 f0 f17 (by decide)) (TRs.trans (TRs_slot (s := 32) f21 f0 f20 (by decide)) (TRs_slot (s := 35) f24 f0 f23 (by decide)))))))
  have s11_ : hV H9 285 11 = 0 := ((uSlot f24 285 11 (by rw [f23]; decide)).trans ((uSlot f21 285 11 (by rw [f20]; decide)).trans ((uSlot f18 285 11 (by rw [f17]; decide)).trans ((uSlot f15 285 11 (by rw [f14]; decide)).trans ((uSlot f12 285 11 (by rw [f11]; decide)).trans (uSame f10 285 11 (by rw [f0]; rfl) (by rw [f9]; rfl))))))).trans f8
  have s13_ : hV H9 285 13 = 0 := ((uSlot f24 285 13 (by rw [f23]; decide)).trans ((uSlot f21 285 13 (by rw [f20]; decide)).trans ((uSlot f18 285 13 (by rw [f17]; decide)).trans (uSame f15 285 13 (by rw [f0]; rfl) (by rw [f14]; rfl))))).trans f13
  have s15_ : hV H9 285 15 = 0 := ((uSlot f24 285 15 (by rw [f23]; decide)).trans ((uSlot f21 285 15 (by rw [f20]; decide)).trans (uSame f18 285 15 (by rw [f0]; rfl) (by rw [f17]; rfl)))).trans f16
  have s14_ : hV H9 285 14 = hV H3 285 14 := (uSlot f24 285 14 (by rw [f23]; decide)).trans ((uSlot f21 285 14 (by rw [f20]; decide)).trans ((uSlot f18 285 14 (by rw [f17]; decide)).trans ((uSlot f15 285 14 (by rw [f14]; decide)).trans ((uSlot f12 285 14 (by rw [f11]; decide)).trans (uSlot f10 285 14 (by rw [f9]; decide))))))
  have b14_ := f7.1.2.2.2 285 14 _ _ rW_14
  have s16_ : hV H9 285 16 = hV H3 285 16 := (uSlot f24 285 16 (by rw [f23]; decide)).trans ((uSlot f21 285 16 (by rw [f20]; decide)).trans ((uSlot f18 285 16 (by rw [f17]; decide)).trans ((uSlot f15 285 16 (by rw [f14]; decide)).trans ((uSlot f12 285 16 (by rw [f11]; decide)).trans (uSlot f10 285 16 (by rw [f9]; decide))))))
  have b16_ := f7.1.2.2.2 285 16 _ _ rW_16
  have rn := RI_new (TR_of tr c.1) s11_ s13_ s15_ (by omega) (by omega)
  have vi : vwR H9 = (pTx (BT H0) (hV H0 285 2)) := (TRs_v tr).trans c.2
  have pp := PR_fr f26.1.2.1 (by decide +kernel) rn.1
  have ii := f26.2
  unfold postb_216 at ii
  rw [f25] at ii
  have io := isR_or (k := 23) pp.2.2.1 (by decide) ii
  rw [pp.2.1, pp.1, vi, rn.2, kmc_23] at io
  have ic := f27
  have y2 : hV H11 285 2 = n4 := (f28.1.2.1.1 285 2 (by decide +kernel)).trans ((f26.1.2.1.1 285 2 (by decide +kernel)).trans ((uSlot f24 285 2 (by rw [f23]; decide)).trans ((uSlot f21 285 2 (by rw [f20]; decide)).trans ((uSlot f18 285 2 (by rw [f17]; decide)).trans ((uSlot f15 285 2 (by rw [f14]; decide)).trans ((uSlot f12 285 2 (by rw [f11]; decide)).trans ((uSlot f10 285 2 (by rw [f9]; decide)).trans ((f7.1.2.1.1 285 2 (by decide +kernel)).trans (uSame f6 285 2 (by rw [f0]; rfl) (by rw [f5]; rfl))))))))))
  have y18 : hV H11 285 18 = hV H1 285 18 := (f28.1.2.1.1 285 18 (by decide +kernel)).trans ((f26.1.2.1.1 285 18 (by decide +kernel)).trans ((uSlot f24 285 18 (by rw [f23]; decide)).trans ((uSlot f21 285 18 (by rw [f20]; decide)).trans ((uSlot f18 285 18 (by rw [f17]; decide)).trans ((uSlot f15 285 18 (by rw [f14]; decide)).trans ((uSlot f12 285 18 (by rw [f11]; decide)).trans ((uSlot f10 285 18 (by rw [f9]; decide)).trans ((f7.1.2.1.1 285 18 (by decide +kernel)).trans (uSlot f6 285 18 (by rw [f5]; decide))))))))))
  have v2 := f4
  have q293 : hV H11 293 = hV H1 293 := (fRow f28.1.2.1 293 (by decide +kernel)).trans ((fRow f26.1.2.1 293 (by decide +kernel)).trans ((uRowNe f24 293 (by rw [f0]; decide)).trans ((uRowNe f21 293 (by rw [f0]; decide)).trans ((uRowNe f18 293 (by rw [f0]; decide)).trans ((uRowNe f15 293 (by rw [f0]; decide)).trans ((uRowNe f12 293 (by rw [f0]; decide)).trans ((uRowNe f10 293 (by rw [f0]; decide)).trans ((fRow f7.1.2.1 293 (by decide +kernel)).trans (uRowNe f6 293 (by rw [f0]; decide))))))))))
  have kd := io.resolve_left (fun w => absurd (w.1.symm.trans ic) (by decide))
  have n := f28.2.2 pp.2.2.1
  rw [pp.2.1, pp.1, vi, rn.2] at n
  have ve : vwR H11 = (pTx (BT H0) (hV H0 285 2)) := (vwR_fr f28.1.2.1 (by decide +kernel)).trans (pp.2.1.trans vi)
  refine ⟨n.1, ve, ?_, .inr kd, by omega, by omega, h8, q293.trans r293⟩
  rw [if_neg kd.2]
  exact n.2
def g_221w_22_0 : vG := ([(1224, [1], [10, 11], 0), (30, [21], [], 0), (1216, [21, 1, 20], [9, 10], 0), (0, [20], [], 23), (80, [1, 19, 18], [9, 8], 0), (0, [19], [], 35), (20, [17, 1], [8], 34), (80, [1, 15, 14], [8, 7], 0), (0, [15], [], 32), (20, [14, 1], [7], 18), (80, [1, 13, 12], [7, 6], 0), (0, [13], [], 15), (0, [12], [], 0), (80, [1, 11, 10], [6, 5], 0), (0, [11], [], 13), (0, [10], [], 0), (80, [1, 9, 8], [5, 4], 0), (0, [9], [], 12), (80, [1, 7, 6], [4, 3], 0), (0, [7], [], 11), (0, [6], [], 0), (1214, [1], [2, 3], 0), (80, [1, 5, 4], [2, 1], 0), (0, [5], [], 2), (0, [4], [], 0), (43, [2, 3], [], 0), (20, [3, 1], [1], 4), (5000, [0, 1, 2], [0, 1], 22), (0, [1], [], 285)], (4000, [1, 21], [11], 117))
theorem c_221w_22_0 {q0 : Nat} : vOkm T0 (eN e_221 L_221w A_221 mu_221 n_221 B_221 (some q0)) 1 g_221w_22_0 := vOk_inI fun ρ η f0 f1 f2 f3 f4 f5 f6 f7 f8 f9 f10 f11 f12 f13 f14 f15 f16 f17 f18 f19 f20 f21 f22 f23 f24 f25 f26 f27 f28 => q_221w_2 (q0 := q0) (n0 := ρ 2) (n1 := ρ 1) (n2 := ρ 0) (n3 := ρ 3) (n4 := ρ 4) (n5 := ρ 5) (n6 := ρ 6) (n7 := ρ 7) (n8 := ρ 8) (n9 := ρ 9) (n10 := ρ 10) (n11 := ρ 11) (n12 := ρ 12) (n13 := ρ 13) (n14 := ρ 14) (n15 := ρ 15) (n17 := ρ 17) (n18 := ρ 18) (n19 := ρ 19) (n20 := ρ 20) (n21 := ρ 21) (H0 := η 0) (H1 := η 1) (H2 := η 2) (H3 := η 3) (H4 := η 4) (H5 := η 5) (H6 := η 6) (H7 := η 7) (H8 := η 8) (H9 := η 9) (H10 := η 10) (H11 := η 11) f28 f27 f26 f25 f24 f23 f22 f21 f20 f19 f18 f17 f16 f15 f14 f13 f12 f11 f10 f9 f8 f7 f6 f5 f4 f3 f2 f1 f0
theorem q_221w_3 {q0 : Nat} {n0 n1 n2 n3 n4 n5 n6 n7 n8 n9 n10 n11 n12 n13 n14 n15 n17 n18 n19 n20 n21 : Int} {H0 H1 H2 H3 H4 H5 H6 H7 H8 H9 H10 H11 : gH} (f0 : n1 = 285) (f1 : (hLe T0 H0 H1 ∧ hFr s_221.2.2.2.2 H0 H1 ∧ hWt T0 H1) ∧ ((Ab_221_22 n2 n1 n0 H0 H1 ∧ Bb_221_22 n2 n1 n0 H0 H1) ∧ preb_221 n2 H0) ∧ some q0 = some (mub_221_22 n2 n1 n0 H0 H1)) (f2 : n3 = hV H1 (n1).toNat 4) (f3 : n3 ≤ n0) (f4 : n4 = 0) (f5 : n5 = 2) (f6 : hUpd H2 H1 n1 n5 n4) (f7 : (hLe T0 H2 H3 ∧ hFr s_214.2.2.2.2 H2 H3 ∧ ((0 : Int) = 0 → H3.length = H2.length) ∧ hWt T0 H3) ∧ (True ∧ nb_214 n1 H2 H3)) (f8 : n6 = 0) (f9 : n7 = 11) (f10 : hUpd H4 H3 n1 n7 n6) (f11 : n9 = 12) (f12 : hUpd H5 H4 n1 n9 n8) (f13 : n10 = 0) (f14 : n11 = 13) (f15 : hUpd H6 H5 n1 n11 n10) (f16 : n12 = 0) (f17 : n13 = 15) (f18 : hUpd H7 H6 n1 n13 n12) (f19 : n14 = hV H7 (n1).toNat 18) (f20 : n15 = 32) (f21 : hUpd H8 H7 n1 n15 n14) (f22 : n17 = hV H8 (n1).toNat 34) (f23 : n19 = 35) (f24 : hUpd H9 H8 n1 n19 n18) (f25 : n20 = 23) (f26 : (hLe T0 H9 H10 ∧ hFr s_216.2.2.2.2 H9 H10 ∧ ((0 : Int) = 0 → H10.length = H9.length) ∧ hWt T0 H10) ∧ postb_216 n21 n1 n20 H9 H10) (f27 : n21 ≠ 0) (f28 : (hLe T0 H10 H11 ∧ hFr s_231.2.2.2.2 H10 H11 ∧ ((0 : Int) = 0 → H11.length = H10.length) ∧ hWt T0 H11) ∧ (postb_231 n1 H10 H11 ∧ nb_231 n1 H10 H11)) : Bb_221_117 n2 n1 n21 H0 H11 := by
  unfold Bb_221_117
  intro ky
  have ga := f1.2.1.1.2
  unfold Bb_221_22 at ga
  obtain ⟨sz, tp, xh, s18, h8, r293, cp⟩ := ga ky
  have d8 := rdS (q := 285) f2 f0
  have d34 := rdS (q := 285) f19 f0
  have d42 := rdS (q := 285) f22 f0
  have q9 := f3
  have q51 := f27
  have b2 : (0 : Int) ≤ hV H1 285 18 ∧ hV H1 285 18 ≤ 8 := f1.1.2.2 285 18 _ _ rW_18
  have k292 : hV H2 292 = hV H0 292 := (uRowNe f6 292 (by rw [f0]; decide)).trans (fRow f1.1.2.1 292 (by decide +kernel))
  have k287 : hV H2 287 = hV H1 287 := uRowNe f6 287 (by rw [f0]; decide)
  have k4 : hV H2 285 4 = hV H1 285 4 := uSlot f6 285 4 (by rw [f5]; decide)
  have c := f7.2.2 (fun q hq => by rw [k292]; exact ky q hq)
  have vw : pTx (BR H2) (hV H2 285 4) = (pTx (BT H0) (hV H0 285 2)) := by
    rw [k4, sz]
    refine pTx_congr (fun q hq => ?_)
    unfold BR BT
    rw [k287, cp q (by omega)]
  rw [vw] at c
  have tr := (TRs.trans (TRs_slot (s := 11) f10 f0 f9 (by decide)) (TRs.trans (TRs_slot (s := 12) f12 f0 f11 (by decide)) (TRs.trans (TRs_slot (s := 13) f15 f0 f14 (by decide)) (TRs.trans (TRs_slot (s := 15) f18 f0 f17 (by decide)) (TRs.trans (TRs_slot (s := 32) f21 f0 f20 (by decide)) (TRs_slot (s := 35) f24 f0 f23 (by decide)))))))
  have s11_ : hV H9 285 11 = 0 := ((uSlot f24 285 11 (by rw [f23]; decide)).trans ((uSlot f21 285 11 (by rw [f20]; decide)).trans ((uSlot f18 285 11 (by rw [f17]; decide)).trans ((uSlot f15 285 11 (by rw [f14]; decide)).trans ((uSlot f12 285 11 (by rw [f11]; decide)).trans (uSame f10 285 11 (by rw [f0]; rfl) (by rw [f9]; rfl))))))).trans f8
  have s13_ : hV H9 285 13 = 0 := ((uSlot f24 285 13 (by rw [f23]; decide)).trans ((uSlot f21 285 13 (by rw [f20]; decide)).trans ((uSlot f18 285 13 (by rw [f17]; decide)).trans (uSame f15 285 13 (by rw [f0]; rfl) (by rw [f14]; rfl))))).trans f13
  have s15_ : hV H9 285 15 = 0 := ((uSlot f24 285 15 (by rw [f23]; decide)).trans ((uSlot f21 285 15 (by rw [f20]; decide)).trans (uSame f18 285 15 (by rw [f0]; rfl) (by rw [f17]; rfl)))).trans f16
  have s14_ : hV H9 285 14 = hV H3 285 14 := (uSlot f24 285 14 (by rw [f23]; decide)).trans ((uSlot f21 285 14 (by rw [f20]; decide)).trans ((uSlot f18 285 14 (by rw [f17]; decide)).trans ((uSlot f15 285 14 (by rw [f14]; decide)).trans ((uSlot f12 285 14 (by rw [f11]; decide)).trans (uSlot f10 285 14 (by rw [f9]; decide))))))
  have b14_ := f7.1.2.2.2 285 14 _ _ rW_14
  have s16_ : hV H9 285 16 = hV H3 285 16 := (uSlot f24 285 16 (by rw [f23]; decide)).trans ((uSlot f21 285 16 (by rw [f20]; decide)).trans ((uSlot f18 285 16 (by rw [f17]; decide)).trans ((uSlot f15 285 16 (by rw [f14]; decide)).trans ((uSlot f12 285 16 (by rw [f11]; decide)).trans (uSlot f10 285 16 (by rw [f9]; decide))))))
  have b16_ := f7.1.2.2.2 285 16 _ _ rW_16
  have rn := RI_new (TR_of tr c.1) s11_ s13_ s15_ (by omega) (by omega)
  have vi : vwR H9 = (pTx (BT H0) (hV H0 285 2)) := (TRs_v tr).trans c.2
  have pp := PR_fr f26.1.2.1 (by decide +kernel) rn.1
  have ii := f26.2
  unfold postb_216 at ii
  rw [f25] at ii
  have io := isR_or (k := 23) pp.2.2.1 (by decide) ii
  rw [pp.2.1, pp.1, vi, rn.2, kmc_23] at io
  have ic := f27
  have y2 : hV H11 285 2 = n4 := (f28.1.2.1.1 285 2 (by decide +kernel)).trans ((f26.1.2.1.1 285 2 (by decide +kernel)).trans ((uSlot f24 285 2 (by rw [f23]; decide)).trans ((uSlot f21 285 2 (by rw [f20]; decide)).trans ((uSlot f18 285 2 (by rw [f17]; decide)).trans ((uSlot f15 285 2 (by rw [f14]; decide)).trans ((uSlot f12 285 2 (by rw [f11]; decide)).trans ((uSlot f10 285 2 (by rw [f9]; decide)).trans ((f7.1.2.1.1 285 2 (by decide +kernel)).trans (uSame f6 285 2 (by rw [f0]; rfl) (by rw [f5]; rfl))))))))))
  have y18 : hV H11 285 18 = hV H1 285 18 := (f28.1.2.1.1 285 18 (by decide +kernel)).trans ((f26.1.2.1.1 285 18 (by decide +kernel)).trans ((uSlot f24 285 18 (by rw [f23]; decide)).trans ((uSlot f21 285 18 (by rw [f20]; decide)).trans ((uSlot f18 285 18 (by rw [f17]; decide)).trans ((uSlot f15 285 18 (by rw [f14]; decide)).trans ((uSlot f12 285 18 (by rw [f11]; decide)).trans ((uSlot f10 285 18 (by rw [f9]; decide)).trans ((f7.1.2.1.1 285 18 (by decide +kernel)).trans (uSlot f6 285 18 (by rw [f5]; decide))))))))))
  have v2 := f4
  have q293 : hV H11 293 = hV H1 293 := (fRow f28.1.2.1 293 (by decide +kernel)).trans ((fRow f26.1.2.1 293 (by decide +kernel)).trans ((uRowNe f24 293 (by rw [f0]; decide)).trans ((uRowNe f21 293 (by rw [f0]; decide)).trans ((uRowNe f18 293 (by rw [f0]; decide)).trans ((uRowNe f15 293 (by rw [f0]; decide)).trans ((uRowNe f12 293 (by rw [f0]; decide)).trans ((uRowNe f10 293 (by rw [f0]; decide)).trans ((fRow f7.1.2.1 293 (by decide +kernel)).trans (uRowNe f6 293 (by rw [f0]; decide))))))))))
  have kd := io.resolve_right (fun w => ic w.1)
  have n := f28.2.2 pp.2.2.1 (by rw [pp.2.1, pp.1, vi, rn.2]; exact kd.2)
  rw [pp.2.1, pp.1, vi, rn.2] at n
  have ve : vwR H11 = (pTx (BT H0) (hV H0 285 2)) := (vwR_fr f28.1.2.1 (by decide +kernel)).trans (pp.2.1.trans vi)
  refine ⟨n.1, ve, ?_, .inl kd, by omega, by omega, h8, q293.trans r293⟩
  rw [if_pos kd.2]
  exact n.2
def g_221w_22_1 : vG := ([(1231, [1], [10, 11], 0), (31, [21], [], 0), (1216, [21, 1, 20], [9, 10], 0), (0, [20], [], 23), (80, [1, 19, 18], [9, 8], 0), (0, [19], [], 35), (20, [17, 1], [8], 34), (80, [1, 15, 14], [8, 7], 0), (0, [15], [], 32), (20, [14, 1], [7], 18), (80, [1, 13, 12], [7, 6], 0), (0, [13], [], 15), (0, [12], [], 0), (80, [1, 11, 10], [6, 5], 0), (0, [11], [], 13), (0, [10], [], 0), (80, [1, 9, 8], [5, 4], 0), (0, [9], [], 12), (80, [1, 7, 6], [4, 3], 0), (0, [7], [], 11), (0, [6], [], 0), (1214, [1], [2, 3], 0), (80, [1, 5, 4], [2, 1], 0), (0, [5], [], 2), (0, [4], [], 0), (43, [2, 3], [], 0), (20, [3, 1], [1], 4), (5000, [0, 1, 2], [0, 1], 22), (0, [1], [], 285)], (4000, [1, 21], [11], 117))
theorem c_221w_22_1 {q0 : Nat} : vOkm T0 (eN e_221 L_221w A_221 mu_221 n_221 B_221 (some q0)) 1 g_221w_22_1 := vOk_inI fun ρ η f0 f1 f2 f3 f4 f5 f6 f7 f8 f9 f10 f11 f12 f13 f14 f15 f16 f17 f18 f19 f20 f21 f22 f23 f24 f25 f26 f27 f28 => q_221w_3 (q0 := q0) (n0 := ρ 2) (n1 := ρ 1) (n2 := ρ 0) (n3 := ρ 3) (n4 := ρ 4) (n5 := ρ 5) (n6 := ρ 6) (n7 := ρ 7) (n8 := ρ 8) (n9 := ρ 9) (n10 := ρ 10) (n11 := ρ 11) (n12 := ρ 12) (n13 := ρ 13) (n14 := ρ 14) (n15 := ρ 15) (n17 := ρ 17) (n18 := ρ 18) (n19 := ρ 19) (n20 := ρ 20) (n21 := ρ 21) (H0 := η 0) (H1 := η 1) (H2 := η 2) (H3 := η 3) (H4 := η 4) (H5 := η 5) (H6 := η 6) (H7 := η 7) (H8 := η 8) (H9 := η 9) (H10 := η 10) (H11 := η 11) f28 f27 f26 f25 f24 f23 f22 f21 f20 f19 f18 f17 f16 f15 f14 f13 f12 f11 f10 f9 f8 f7 f6 f5 f4 f3 f2 f1 f0
theorem q_221w_4 {q0 : Nat} {n0 n1 n2 n3 n4 n5 n6 n7 n8 : Int} {H0 H1 H2 : gH} (f0 : n0 ≤ 2000) (f1 : 0 ≤ n0) (f2 : n1 = 285) (f3 : (hLe T0 H0 H1 ∧ hFr s_221.2.2.2.2 H0 H1 ∧ hWt T0 H1) ∧ ((Ab_221_22 n2 n1 n0 H0 H1 ∧ Bb_221_22 n2 n1 n0 H0 H1) ∧ preb_221 n2 H0) ∧ some q0 = some (mub_221_22 n2 n1 n0 H0 H1)) (f4 : n3 = hV H1 (n1).toNat 4) (f5 : n0 < n3) (f6 : n4 = 287) (f7 : n5 = 286) (f8 : n6 ≤ 127) (f9 : (-128) ≤ n6) (f10 : n6 = hV H1 (n5).toNat (n0).toNat) (f11 : n7 = o32 (fun x _ => x.toInt8.toInt32) n6 0) (f12 : hUpd H2 H1 n4 n0 n7) (f13 : n8 = w32 (n0 + 1)) : Bb_221_22 n2 n1 n8 H0 H2 := by
  unfold Bb_221_22
  intro ky
  have ga := f3.2.1.1.2
  unfold Bb_221_22 at ga
  obtain ⟨sz, tp, xh, s18, h8, r293, cp⟩ := ga ky
  have d8 := rdS (q := 285) f4 f2
  have d18 := rdW (q := 286) f10 f7
  have q9 := f5
  have q22 := f13
  unfold w32 at q22
  have b2 : (0 : Int) ≤ hV H1 285 18 ∧ hV H1 285 18 ≤ 8 := f3.1.2.2 285 18 _ _ rW_18
  have rg0 := f0
  have rg1 := f1
  have s22 : n8 = n0 + 1 := by
    have q := f13
    rw [q]
    exact w32_id (by omega) (by omega)
  have s4_ : hV H2 285 4 = hV H1 285 4 := uPlace f12 285 4 (by rw [f6]; decide)
  have s2_ : hV H2 285 2 = hV H1 285 2 := uPlace f12 285 2 (by rw [f6]; decide)
  have s18_ : hV H2 285 18 = hV H1 285 18 := uPlace f12 285 18 (by rw [f6]; decide)
  have q293 : hV H2 293 = hV H1 293 := uRowNe f12 293 (by rw [f6]; decide)
  have u : hV H2 287 = uF (hV H1 287) n0 n7 := uRow f12 287 f6.symm
  have z286 : hV H1 286 = hV H0 286 := fRow f3.1.2.1 286 (by decide +kernel)
  have rr := d18
  rw [z286] at rr
  have rg16 := f8
  have rg17 := f9
  have vv : n7 = n6 := by
    rw [f11]
    exact o32_byte (by omega) (by omega)
  refine ⟨by omega, by omega, by omega, by omega, h8, q293.trans r293, fun k hk => ?_⟩
  rw [u, uF_at]
  by_cases c : (k : Int) = n0
  · rw [if_pos c, vv, rr, show (n0).toNat = k by omega]
  · rw [if_neg c]
    exact cp k (by omega)
def g_221w_22_2 : vG := ([(10, [8, 2], [], 1), (80, [4, 2, 7], [2, 1], 0), (15, [7, 6], [], 0), (22, [6, 5, 2], [1], 0), (90, [6], [], -128), (91, [6], [], 127), (0, [5], [], 286), (0, [4], [], 287), (42, [2, 3], [], 0), (20, [3, 1], [1], 4), (5000, [0, 1, 2], [0, 1], 22), (0, [1], [], 285), (90, [2], [], 0), (91, [2], [], 2000)], (4000, [1, 8], [2], 22))
theorem c_221w_22_2 {q0 : Nat} : vOkm T0 (eN e_221 L_221w A_221 mu_221 n_221 B_221 (some q0)) 1 g_221w_22_2 := vOk_inI fun ρ η f0 f1 f2 f3 f4 f5 f6 f7 f8 f9 f10 f11 f12 f13 => q_221w_4 (q0 := q0) (n0 := ρ 2) (n1 := ρ 1) (n2 := ρ 0) (n3 := ρ 3) (n4 := ρ 4) (n5 := ρ 5) (n6 := ρ 6) (n7 := ρ 7) (n8 := ρ 8) (H0 := η 0) (H1 := η 1) (H2 := η 2) f13 f12 f11 f10 f9 f8 f7 f6 f5 f4 f3 f2 f1 f0
def p_221w_22 : List vG := [g_221w_22_0,
  g_221w_22_1,
  g_221w_22_2]
theorem r_221w_22 : vCovBO (eRc e_221 L_221 cs_221 2000 (22, [(0, (3, 12, 285, 0)), (1, (0, 0, 2000, 0))])) p_221w_22 = true := by decide +kernel
theorem q_221w_5 {q0 : Nat} {n0 n1 n2 n3 n4 n5 n6 n7 : Int} {H0 H1 H2 : gH} (f0 : n1 = 285) (f1 : (hLe T0 H0 H1 ∧ hFr s_221.2.2.2.2 H0 H1 ∧ hWt T0 H1) ∧ ((Ab_221_117 n2 n1 n0 H0 H1 ∧ Bb_221_117 n2 n1 n0 H0 H1) ∧ preb_221 n2 H0) ∧ some q0 = some (mub_221_117 n2 n1 n0 H0 H1)) (f2 : n3 = hV H1 (n1).toNat 13) (f3 : n3 ≠ 0) (f4 : n4 = hV H1 (n1).toNat 13) (f5 : n4 ≤ 0) (f6 : n5 = hV H1 (n1).toNat 15) (f7 : n5 ≤ 0) (f8 : n6 = (-1)) (f9 : n7 = 17) (f10 : hUpd H2 H1 n1 n7 n6) : Bb_221_170 n2 n1 n0 H0 H2 := by
  unfold Bb_221_170
  intro ky
  have ga := f1.2.1.1.2
  unfold Bb_221_117 at ga
  obtain ⟨z1, vz, a1, kx, tp, s18, h8, r293⟩ := ga ky
  have d8 := rdS (q := 285) f2 f0
  have d13 := rdS (q := 285) f4 f0
  have d18 := rdS (q := 285) f6 f0
  have q9 := f3
  have q14 := f5
  have q19 := f7
  have b2 : (0 : Int) ≤ hV H1 285 18 ∧ hV H1 285 18 ≤ 8 := f1.1.2.2 285 18 _ _ rW_18
  have lo1 := z1.2.2.2.1
  have lo5 := z1.2.2.2.2.2.2.1
  have pw : hV H2 285 17 = n6 := uSame f10 285 17 (by rw [f0]; rfl) (by rw [f9]; rfl)
  have pv := f8
  have st : RI H1 ∧ absR H1 = pRead (pTx (BT H0) (hV H0 285 2)) := ⟨z1, by
    have hn := absR_neg z1 (by omega)
    unfold pRead pEnd
    rw [← a1, ← vz, vwR_ok H1 _ hn, if_neg (by decide), pfail_neg hn (absR_ok z1)]⟩
  have l3 := st.1.2.2.2.1
  have l5 := st.1.2.2.2.2.2.2.1
  have pq := PR_slot (s := 17) f10 f0 f9 (by decide) st.1
  have y2 : hV H2 285 2 = hV H1 285 2 := uSlot f10 285 2 (by rw [f9]; decide)
  have y18 : hV H2 285 18 = hV H1 285 18 := uSlot f10 285 18 (by rw [f9]; decide)
  have q293 : hV H2 293 = hV H1 293 := uRowNe f10 293 (by rw [f0]; decide)
  exfalso
  omega
def g_221w_117_0 : vG := ([(80, [1, 7, 6], [2, 1], 0), (0, [7], [], 17), (0, [6], [], -1), (35, [5], [], 0), (20, [5, 1], [1], 15), (35, [4], [], 0), (20, [4, 1], [1], 13), (31, [3], [], 0), (20, [3, 1], [1], 13), (5000, [0, 1, 2], [0, 1], 117), (0, [1], [], 285)], (4000, [1, 2], [2], 170))
theorem c_221w_117_0 {q0 : Nat} : vOkm T0 (eN e_221 L_221w A_221 mu_221 n_221 B_221 (some q0)) 1 g_221w_117_0 := vOk_inI fun ρ η f0 f1 f2 f3 f4 f5 f6 f7 f8 f9 f10 => q_221w_5 (q0 := q0) (n0 := ρ 2) (n1 := ρ 1) (n2 := ρ 0) (n3 := ρ 3) (n4 := ρ 4) (n5 := ρ 5) (n6 := ρ 6) (n7 := ρ 7) (H0 := η 0) (H1 := η 1) (H2 := η 2) f10 f9 f8 f7 f6 f5 f4 f3 f2 f1 f0
theorem q_221w_6 {q0 : Nat} {n0 n1 n2 n3 n4 n5 n6 n7 : Int} {H0 H1 H2 : gH} (f0 : n1 = 285) (f1 : (hLe T0 H0 H1 ∧ hFr s_221.2.2.2.2 H0 H1 ∧ hWt T0 H1) ∧ ((Ab_221_117 n2 n1 n0 H0 H1 ∧ Bb_221_117 n2 n1 n0 H0 H1) ∧ preb_221 n2 H0) ∧ some q0 = some (mub_221_117 n2 n1 n0 H0 H1)) (f2 : n3 = hV H1 (n1).toNat 13) (f3 : n3 ≠ 0) (f4 : n4 = hV H1 (n1).toNat 13) (f5 : n4 ≤ 0) (f6 : n5 = hV H1 (n1).toNat 15) (f7 : 0 < n5) (f8 : n6 = hV H1 (n1).toNat 16) (f9 : n7 = 17) (f10 : hUpd H2 H1 n1 n7 n6) : Bb_221_170 n2 n1 n0 H0 H2 := by
  unfold Bb_221_170
  intro ky
  have ga := f1.2.1.1.2
  unfold Bb_221_117 at ga
  obtain ⟨z1, vz, a1, kx, tp, s18, h8, r293⟩ := ga ky
  have d8 := rdS (q := 285) f2 f0
  have d13 := rdS (q := 285) f4 f0
  have d18 := rdS (q := 285) f6 f0
  have d23 := rdS (q := 285) f8 f0
  have q9 := f3
  have q14 := f5
  have q19 := f7
  have b2 : (0 : Int) ≤ hV H1 285 18 ∧ hV H1 285 18 ≤ 8 := f1.1.2.2 285 18 _ _ rW_18
  have lo1 := z1.2.2.2.1
  have lo5 := z1.2.2.2.2.2.2.1
  have pw : hV H2 285 17 = n6 := uSame f10 285 17 (by rw [f0]; rfl) (by rw [f9]; rfl)
  have st : RI H1 ∧ absR H1 = pRead (pTx (BT H0) (hV H0 285 2)) := ⟨z1, by
    have hn := absR_neg z1 (by omega)
    unfold pRead pEnd
    rw [← a1, ← vz, vwR_ok H1 _ hn, if_neg (by decide), pfail_neg hn (absR_ok z1)]⟩
  have l3 := st.1.2.2.2.1
  have l5 := st.1.2.2.2.2.2.2.1
  have pq := PR_slot (s := 17) f10 f0 f9 (by decide) st.1
  have y2 : hV H2 285 2 = hV H1 285 2 := uSlot f10 285 2 (by rw [f9]; decide)
  have y18 : hV H2 285 18 = hV H1 285 18 := uSlot f10 285 18 (by rw [f9]; decide)
  have q293 : hV H2 293 = hV H1 293 := uRowNe f10 293 (by rw [f0]; decide)
  exfalso
  omega
def g_221w_117_1 : vG := ([(80, [1, 7, 6], [2, 1], 0), (0, [7], [], 17), (20, [6, 1], [1], 16), (34, [5], [], 0), (20, [5, 1], [1], 15), (35, [4], [], 0), (20, [4, 1], [1], 13), (31, [3], [], 0), (20, [3, 1], [1], 13), (5000, [0, 1, 2], [0, 1], 117), (0, [1], [], 285)], (4000, [1, 2], [2], 170))
theorem c_221w_117_1 {q0 : Nat} : vOkm T0 (eN e_221 L_221w A_221 mu_221 n_221 B_221 (some q0)) 1 g_221w_117_1 := vOk_inI fun ρ η f0 f1 f2 f3 f4 f5 f6 f7 f8 f9 f10 => q_221w_6 (q0 := q0) (n0 := ρ 2) (n1 := ρ 1) (n2 := ρ 0) (n3 := ρ 3) (n4 := ρ 4) (n5 := ρ 5) (n6 := ρ 6) (n7 := ρ 7) (H0 := η 0) (H1 := η 1) (H2 := η 2) f10 f9 f8 f7 f6 f5 f4 f3 f2 f1 f0
theorem q_221w_7 {q0 : Nat} {n0 n1 n2 n3 n4 n5 n6 : Int} {H0 H1 H2 : gH} (f0 : n1 = 285) (f1 : (hLe T0 H0 H1 ∧ hFr s_221.2.2.2.2 H0 H1 ∧ hWt T0 H1) ∧ ((Ab_221_117 n2 n1 n0 H0 H1 ∧ Bb_221_117 n2 n1 n0 H0 H1) ∧ preb_221 n2 H0) ∧ some q0 = some (mub_221_117 n2 n1 n0 H0 H1)) (f2 : n3 = hV H1 (n1).toNat 13) (f3 : n3 ≠ 0) (f4 : n4 = hV H1 (n1).toNat 13) (f5 : 0 < n4) (f6 : n5 = hV H1 (n1).toNat 14) (f7 : n6 = 17) (f8 : hUpd H2 H1 n1 n6 n5) : Bb_221_170 n2 n1 n0 H0 H2 := by
  unfold Bb_221_170
  intro ky
  have ga := f1.2.1.1.2
  unfold Bb_221_117 at ga
  obtain ⟨z1, vz, a1, kx, tp, s18, h8, r293⟩ := ga ky
  have d8 := rdS (q := 285) f2 f0
  have d13 := rdS (q := 285) f4 f0
  have d18 := rdS (q := 285) f6 f0
  have q9 := f3
  have q14 := f5
  have b2 : (0 : Int) ≤ hV H1 285 18 ∧ hV H1 285 18 ≤ 8 := f1.1.2.2 285 18 _ _ rW_18
  have lo1 := z1.2.2.2.1
  have lo5 := z1.2.2.2.2.2.2.1
  have pw : hV H2 285 17 = n5 := uSame f8 285 17 (by rw [f0]; rfl) (by rw [f7]; rfl)
  have st : RI H1 ∧ absR H1 = pRead (pTx (BT H0) (hV H0 285 2)) := ⟨z1, by
    have hn := absR_neg z1 (by omega)
    unfold pRead pEnd
    rw [← a1, ← vz, vwR_ok H1 _ hn, if_neg (by decide), pfail_neg hn (absR_ok z1)]⟩
  have l3 := st.1.2.2.2.1
  have l5 := st.1.2.2.2.2.2.2.1
  have pq := PR_slot (s := 17) f8 f0 f7 (by decide) st.1
  have y2 : hV H2 285 2 = hV H1 285 2 := uSlot f8 285 2 (by rw [f7]; decide)
  have y18 : hV H2 285 18 = hV H1 285 18 := uSlot f8 285 18 (by rw [f7]; decide)
  have q293 : hV H2 293 = hV H1 293 := uRowNe f8 293 (by rw [f0]; decide)
  refine ⟨pq.2.2.1, pq.1.trans st.2, ?_, kx, by omega, by omega, h8, q293.trans r293⟩
  rw [pw, ← st.2]
  rw [(resR_off st.1 (by omega)).2]
  exact d18
def g_221w_117_2 : vG := ([(80, [1, 6, 5], [2, 1], 0), (0, [6], [], 17), (20, [5, 1], [1], 14), (34, [4], [], 0), (20, [4, 1], [1], 13), (31, [3], [], 0), (20, [3, 1], [1], 13), (5000, [0, 1, 2], [0, 1], 117), (0, [1], [], 285)], (4000, [1, 2], [2], 170))
theorem c_221w_117_2 {q0 : Nat} : vOkm T0 (eN e_221 L_221w A_221 mu_221 n_221 B_221 (some q0)) 1 g_221w_117_2 := vOk_inI fun ρ η f0 f1 f2 f3 f4 f5 f6 f7 f8 => q_221w_7 (q0 := q0) (n0 := ρ 2) (n1 := ρ 1) (n2 := ρ 0) (n3 := ρ 3) (n4 := ρ 4) (n5 := ρ 5) (n6 := ρ 6) (H0 := η 0) (H1 := η 1) (H2 := η 2) f8 f7 f6 f5 f4 f3 f2 f1 f0
theorem q_221w_8 {q0 : Nat} {n0 n1 n2 n3 n4 n5 n6 n7 n8 n9 : Int} {H0 H1 H2 H3 : gH} (f0 : n1 = 285) (f1 : (hLe T0 H0 H1 ∧ hFr s_221.2.2.2.2 H0 H1 ∧ hWt T0 H1) ∧ ((Ab_221_117 n2 n1 n0 H0 H1 ∧ Bb_221_117 n2 n1 n0 H0 H1) ∧ preb_221 n2 H0) ∧ some q0 = some (mub_221_117 n2 n1 n0 H0 H1)) (f2 : n3 = hV H1 (n1).toNat 13) (f3 : n3 = 0) (f4 : n4 = 0) (f5 : (hLe T0 H1 H2 ∧ hFr s_216.2.2.2.2 H1 H2 ∧ ((0 : Int) = 0 → H2.length = H1.length) ∧ hWt T0 H2) ∧ postb_216 n5 n1 n4 H1 H2) (f6 : n5 ≠ 0) (f7 : n6 = hV H2 (n1).toNat 13) (f8 : n6 ≤ 0) (f9 : n7 = hV H2 (n1).toNat 15) (f10 : n7 ≤ 0) (f11 : n8 = (-1)) (f12 : n9 = 17) (f13 : hUpd H3 H2 n1 n9 n8) : Bb_221_170 n2 n1 n0 H0 H3 := by
  unfold Bb_221_170
  intro ky
  have ga := f1.2.1.1.2
  unfold Bb_221_117 at ga
  obtain ⟨z1, vz, a1, kx, tp, s18, h8, r293⟩ := ga ky
  have d8 := rdS (q := 285) f2 f0
  have d18 := rdS (q := 285) f7 f0
  have d23 := rdS (q := 285) f9 f0
  have q9 := f3
  have q14 := f6
  have q19 := f8
  have q24 := f10
  have b2 : (0 : Int) ≤ hV H1 285 18 ∧ hV H1 285 18 ≤ 8 := f1.1.2.2 285 18 _ _ rW_18
  have lo1 := z1.2.2.2.1
  have lo5 := z1.2.2.2.2.2.2.1
  have pw : hV H3 285 17 = n8 := uSame f13 285 17 (by rw [f0]; rfl) (by rw [f12]; rfl)
  have pv := f11
  have pp := PR_fr f5.1.2.1 (by decide +kernel) z1
  have ii := f5.2
  unfold postb_216 at ii
  rw [f4] at ii
  have io := isR_or (k := 0) pp.2.2.1 (by decide) ii
  rw [pp.2.1, pp.1, vz, kmc_0] at io
  have ic := f6
  have kd := (io.resolve_right (fun w => ic w.1)).2
  have st : RI H2 ∧ absR H2 = pRead (pTx (BT H0) (hV H0 285 2)) := ⟨pp.2.2.1, by
    rw [pp.1]
    unfold pRead pEnd
    rw [← a1, if_pos kd]⟩
  have l3 := st.1.2.2.2.1
  have l5 := st.1.2.2.2.2.2.2.1
  have pq := PR_slot (s := 17) f13 f0 f12 (by decide) st.1
  have h13 : hV H2 285 13 = hV H1 285 13 := f5.1.2.1.1 285 13 (by decide +kernel)
  have y2 : hV H3 285 2 = hV H1 285 2 := (uSlot f13 285 2 (by rw [f12]; decide)).trans (f5.1.2.1.1 285 2 (by decide +kernel))
  have y18 : hV H3 285 18 = hV H1 285 18 := (uSlot f13 285 18 (by rw [f12]; decide)).trans (f5.1.2.1.1 285 18 (by decide +kernel))
  have q293 : hV H3 293 = hV H1 293 := (uRowNe f13 293 (by rw [f0]; decide)).trans (fRow f5.1.2.1 293 (by decide +kernel))
  refine ⟨pq.2.2.1, pq.1.trans st.2, ?_, kx, by omega, by omega, h8, q293.trans r293⟩
  rw [pw, ← st.2]
  rw [(resR_on st.1 (by omega)).2.1 (by omega)]
  exact pv
def g_221w_117_3 : vG := ([(80, [1, 9, 8], [3, 2], 0), (0, [9], [], 17), (0, [8], [], -1), (35, [7], [], 0), (20, [7, 1], [2], 15), (35, [6], [], 0), (20, [6, 1], [2], 13), (31, [5], [], 0), (1216, [5, 1, 4], [1, 2], 0), (0, [4], [], 0), (30, [3], [], 0), (20, [3, 1], [1], 13), (5000, [0, 1, 2], [0, 1], 117), (0, [1], [], 285)], (4000, [1, 2], [3], 170))
theorem c_221w_117_3 {q0 : Nat} : vOkm T0 (eN e_221 L_221w A_221 mu_221 n_221 B_221 (some q0)) 1 g_221w_117_3 := vOk_inI fun ρ η f0 f1 f2 f3 f4 f5 f6 f7 f8 f9 f10 f11 f12 f13 => q_221w_8 (q0 := q0) (n0 := ρ 2) (n1 := ρ 1) (n2 := ρ 0) (n3 := ρ 3) (n4 := ρ 4) (n5 := ρ 5) (n6 := ρ 6) (n7 := ρ 7) (n8 := ρ 8) (n9 := ρ 9) (H0 := η 0) (H1 := η 1) (H2 := η 2) (H3 := η 3) f13 f12 f11 f10 f9 f8 f7 f6 f5 f4 f3 f2 f1 f0
theorem q_221w_9 {q0 : Nat} {n0 n1 n2 n3 n4 n5 n6 n7 n8 n9 : Int} {H0 H1 H2 H3 : gH} (f0 : n1 = 285) (f1 : (hLe T0 H0 H1 ∧ hFr s_221.2.2.2.2 H0 H1 ∧ hWt T0 H1) ∧ ((Ab_221_117 n2 n1 n0 H0 H1 ∧ Bb_221_117 n2 n1 n0 H0 H1) ∧ preb_221 n2 H0) ∧ some q0 = some (mub_221_117 n2 n1 n0 H0 H1)) (f2 : n3 = hV H1 (n1).toNat 13) (f3 : n3 = 0) (f4 : n4 = 0) (f5 : (hLe T0 H1 H2 ∧ hFr s_216.2.2.2.2 H1 H2 ∧ ((0 : Int) = 0 → H2.length = H1.length) ∧ hWt T0 H2) ∧ postb_216 n5 n1 n4 H1 H2) (f6 : n5 ≠ 0) (f7 : n6 = hV H2 (n1).toNat 13) (f8 : n6 ≤ 0) (f9 : n7 = hV H2 (n1).toNat 15) (f10 : 0 < n7) (f11 : n8 = hV H2 (n1).toNat 16) (f12 : n9 = 17) (f13 : hUpd H3 H2 n1 n9 n8) : Bb_221_170 n2 n1 n0 H0 H3 := by
  unfold Bb_221_170
  intro ky
  have ga := f1.2.1.1.2
  unfold Bb_221_117 at ga
  obtain ⟨z1, vz, a1, kx, tp, s18, h8, r293⟩ := ga ky
  have d8 := rdS (q := 285) f2 f0
  have d18 := rdS (q := 285) f7 f0
  have d23 := rdS (q := 285) f9 f0
  have d28 := rdS (q := 285) f11 f0
  have q9 := f3
  have q14 := f6
  have q19 := f8
  have q24 := f10
  have b2 : (0 : Int) ≤ hV H1 285 18 ∧ hV H1 285 18 ≤ 8 := f1.1.2.2 285 18 _ _ rW_18
  have lo1 := z1.2.2.2.1
  have lo5 := z1.2.2.2.2.2.2.1
  have pw : hV H3 285 17 = n8 := uSame f13 285 17 (by rw [f0]; rfl) (by rw [f12]; rfl)
  have pp := PR_fr f5.1.2.1 (by decide +kernel) z1
  have ii := f5.2
  unfold postb_216 at ii
  rw [f4] at ii
  have io := isR_or (k := 0) pp.2.2.1 (by decide) ii
  rw [pp.2.1, pp.1, vz, kmc_0] at io
  have ic := f6
  have kd := (io.resolve_right (fun w => ic w.1)).2
  have st : RI H2 ∧ absR H2 = pRead (pTx (BT H0) (hV H0 285 2)) := ⟨pp.2.2.1, by
    rw [pp.1]
    unfold pRead pEnd
    rw [← a1, if_pos kd]⟩
  have l3 := st.1.2.2.2.1
  have l5 := st.1.2.2.2.2.2.2.1
  have pq := PR_slot (s := 17) f13 f0 f12 (by decide) st.1
  have h13 : hV H2 285 13 = hV H1 285 13 := f5.1.2.1.1 285 13 (by decide +kernel)
  have y2 : hV H3 285 2 = hV H1 285 2 := (uSlot f13 285 2 (by rw [f12]; decide)).trans (f5.1.2.1.1 285 2 (by decide +kernel))
  have y18 : hV H3 285 18 = hV H1 285 18 := (uSlot f13 285 18 (by rw [f12]; decide)).trans (f5.1.2.1.1 285 18 (by decide +kernel))
  have q293 : hV H3 293 = hV H1 293 := (uRowNe f13 293 (by rw [f0]; decide)).trans (fRow f5.1.2.1 293 (by decide +kernel))
  refine ⟨pq.2.2.1, pq.1.trans st.2, ?_, kx, by omega, by omega, h8, q293.trans r293⟩
  rw [pw, ← st.2]
  rw [(resR_on st.1 (by omega)).2.2 (by omega)]
  exact d28
def g_221w_117_4 : vG := ([(80, [1, 9, 8], [3, 2], 0), (0, [9], [], 17), (20, [8, 1], [2], 16), (34, [7], [], 0), (20, [7, 1], [2], 15), (35, [6], [], 0), (20, [6, 1], [2], 13), (31, [5], [], 0), (1216, [5, 1, 4], [1, 2], 0), (0, [4], [], 0), (30, [3], [], 0), (20, [3, 1], [1], 13), (5000, [0, 1, 2], [0, 1], 117), (0, [1], [], 285)], (4000, [1, 2], [3], 170))
theorem c_221w_117_4 {q0 : Nat} : vOkm T0 (eN e_221 L_221w A_221 mu_221 n_221 B_221 (some q0)) 1 g_221w_117_4 := vOk_inI fun ρ η f0 f1 f2 f3 f4 f5 f6 f7 f8 f9 f10 f11 f12 f13 => q_221w_9 (q0 := q0) (n0 := ρ 2) (n1 := ρ 1) (n2 := ρ 0) (n3 := ρ 3) (n4 := ρ 4) (n5 := ρ 5) (n6 := ρ 6) (n7 := ρ 7) (n8 := ρ 8) (n9 := ρ 9) (H0 := η 0) (H1 := η 1) (H2 := η 2) (H3 := η 3) f13 f12 f11 f10 f9 f8 f7 f6 f5 f4 f3 f2 f1 f0
theorem q_221w_10 {q0 : Nat} {n0 n1 n2 n3 n4 n5 n6 n7 n8 : Int} {H0 H1 H2 H3 : gH} (f0 : n1 = 285) (f1 : (hLe T0 H0 H1 ∧ hFr s_221.2.2.2.2 H0 H1 ∧ hWt T0 H1) ∧ ((Ab_221_117 n2 n1 n0 H0 H1 ∧ Bb_221_117 n2 n1 n0 H0 H1) ∧ preb_221 n2 H0) ∧ some q0 = some (mub_221_117 n2 n1 n0 H0 H1)) (f2 : n3 = hV H1 (n1).toNat 13) (f3 : n3 = 0) (f4 : n4 = 0) (f5 : (hLe T0 H1 H2 ∧ hFr s_216.2.2.2.2 H1 H2 ∧ ((0 : Int) = 0 → H2.length = H1.length) ∧ hWt T0 H2) ∧ postb_216 n5 n1 n4 H1 H2) (f6 : n5 ≠ 0) (f7 : n6 = hV H2 (n1).toNat 13) (f8 : 0 < n6) (f9 : n7 = hV H2 (n1).toNat 14) (f10 : n8 = 17) (f11 : hUpd H3 H2 n1 n8 n7) : Bb_221_170 n2 n1 n0 H0 H3 := by
  unfold Bb_221_170
  intro ky
  have ga := f1.2.1.1.2
  unfold Bb_221_117 at ga
  obtain ⟨z1, vz, a1, kx, tp, s18, h8, r293⟩ := ga ky
  have d8 := rdS (q := 285) f2 f0
  have d18 := rdS (q := 285) f7 f0
  have d23 := rdS (q := 285) f9 f0
  have q9 := f3
  have q14 := f6
  have q19 := f8
  have b2 : (0 : Int) ≤ hV H1 285 18 ∧ hV H1 285 18 ≤ 8 := f1.1.2.2 285 18 _ _ rW_18
  have lo1 := z1.2.2.2.1
  have lo5 := z1.2.2.2.2.2.2.1
  have pw : hV H3 285 17 = n7 := uSame f11 285 17 (by rw [f0]; rfl) (by rw [f10]; rfl)
  have pp := PR_fr f5.1.2.1 (by decide +kernel) z1
  have ii := f5.2
  unfold postb_216 at ii
  rw [f4] at ii
  have io := isR_or (k := 0) pp.2.2.1 (by decide) ii
  rw [pp.2.1, pp.1, vz, kmc_0] at io
  have ic := f6
  have kd := (io.resolve_right (fun w => ic w.1)).2
  have st : RI H2 ∧ absR H2 = pRead (pTx (BT H0) (hV H0 285 2)) := ⟨pp.2.2.1, by
    rw [pp.1]
    unfold pRead pEnd
    rw [← a1, if_pos kd]⟩
  have l3 := st.1.2.2.2.1
  have l5 := st.1.2.2.2.2.2.2.1
  have pq := PR_slot (s := 17) f11 f0 f10 (by decide) st.1
  have h13 : hV H2 285 13 = hV H1 285 13 := f5.1.2.1.1 285 13 (by decide +kernel)
  have y2 : hV H3 285 2 = hV H1 285 2 := (uSlot f11 285 2 (by rw [f10]; decide)).trans (f5.1.2.1.1 285 2 (by decide +kernel))
  have y18 : hV H3 285 18 = hV H1 285 18 := (uSlot f11 285 18 (by rw [f10]; decide)).trans (f5.1.2.1.1 285 18 (by decide +kernel))
  have q293 : hV H3 293 = hV H1 293 := (uRowNe f11 293 (by rw [f0]; decide)).trans (fRow f5.1.2.1 293 (by decide +kernel))
  exfalso
  have r13 : hV H1 285 13 = 0 := by omega
  omega
def g_221w_117_5 : vG := ([(80, [1, 8, 7], [3, 2], 0), (0, [8], [], 17), (20, [7, 1], [2], 14), (34, [6], [], 0), (20, [6, 1], [2], 13), (31, [5], [], 0), (1216, [5, 1, 4], [1, 2], 0), (0, [4], [], 0), (30, [3], [], 0), (20, [3, 1], [1], 13), (5000, [0, 1, 2], [0, 1], 117), (0, [1], [], 285)], (4000, [1, 2], [3], 170))
theorem c_221w_117_5 {q0 : Nat} : vOkm T0 (eN e_221 L_221w A_221 mu_221 n_221 B_221 (some q0)) 1 g_221w_117_5 := vOk_inI fun ρ η f0 f1 f2 f3 f4 f5 f6 f7 f8 f9 f10 f11 => q_221w_10 (q0 := q0) (n0 := ρ 2) (n1 := ρ 1) (n2 := ρ 0) (n3 := ρ 3) (n4 := ρ 4) (n5 := ρ 5) (n6 := ρ 6) (n7 := ρ 7) (n8 := ρ 8) (H0 := η 0) (H1 := η 1) (H2 := η 2) (H3 := η 3) f11 f10 f9 f8 f7 f6 f5 f4 f3 f2 f1 f0
theorem q_221w_11 {q0 : Nat} {n0 n1 n2 n3 n4 n5 n6 n7 n8 n9 n10 : Int} {H0 H1 H2 H3 H4 : gH} (f0 : n1 = 285) (f1 : (hLe T0 H0 H1 ∧ hFr s_221.2.2.2.2 H0 H1 ∧ hWt T0 H1) ∧ ((Ab_221_117 n2 n1 n0 H0 H1 ∧ Bb_221_117 n2 n1 n0 H0 H1) ∧ preb_221 n2 H0) ∧ some q0 = some (mub_221_117 n2 n1 n0 H0 H1)) (f2 : n3 = hV H1 (n1).toNat 13) (f3 : n3 = 0) (f4 : n4 = 0) (f5 : (hLe T0 H1 H2 ∧ hFr s_216.2.2.2.2 H1 H2 ∧ ((0 : Int) = 0 → H2.length = H1.length) ∧ hWt T0 H2) ∧ postb_216 n5 n1 n4 H1 H2) (f6 : n5 = 0) (f7 : n6 = 1) (f8 : (hLe T0 H2 H3 ∧ hFr s_217.2.2.2.2 H2 H3 ∧ ((0 : Int) = 0 → H3.length = H2.length) ∧ hWt T0 H3) ∧ (postb_217 n1 n6 H2 H3 ∧ nb_217 n1 n6 H2 H3)) (f9 : n7 = hV H3 (n1).toNat 13) (f10 : n7 ≤ 0) (f11 : n8 = hV H3 (n1).toNat 15) (f12 : n8 ≤ 0) (f13 : n9 = (-1)) (f14 : n10 = 17) (f15 : hUpd H4 H3 n1 n10 n9) : Bb_221_170 n2 n1 n0 H0 H4 := by
  unfold Bb_221_170
  intro ky
  have ga := f1.2.1.1.2
  unfold Bb_221_117 at ga
  obtain ⟨z1, vz, a1, kx, tp, s18, h8, r293⟩ := ga ky
  have d8 := rdS (q := 285) f2 f0
  have d20 := rdS (q := 285) f9 f0
  have d25 := rdS (q := 285) f11 f0
  have q9 := f3
  have q14 := f6
  have q21 := f10
  have q26 := f12
  have b2 : (0 : Int) ≤ hV H1 285 18 ∧ hV H1 285 18 ≤ 8 := f1.1.2.2 285 18 _ _ rW_18
  have lo1 := z1.2.2.2.1
  have lo5 := z1.2.2.2.2.2.2.1
  have pw : hV H4 285 17 = n9 := uSame f15 285 17 (by rw [f0]; rfl) (by rw [f14]; rfl)
  have pv := f13
  have pp := PR_fr f5.1.2.1 (by decide +kernel) z1
  have ii := f5.2
  unfold postb_216 at ii
  rw [f4] at ii
  have io := isR_or (k := 0) pp.2.2.1 (by decide) ii
  rw [pp.2.1, pp.1, vz, kmc_0] at io
  have ic := f6
  have kd := (io.resolve_left (fun w => absurd (w.1.symm.trans ic) (by decide))).2
  have c := f8.2.2 pp.2.2.1
  rw [f7, pp.1, pp.2.1, vz] at c
  have st : RI H3 ∧ absR H3 = pRead (pTx (BT H0) (hV H0 285 2)) := ⟨c.1, by
    rw [c.2]
    unfold pRead pEnd
    rw [← a1, if_neg kd]⟩
  have hz := faultR_of c.1 (by rw [c.2, ← vz]; exact pfailR_lt z1 (by decide))
  have l3 := st.1.2.2.2.1
  have l5 := st.1.2.2.2.2.2.2.1
  have pq := PR_slot (s := 17) f15 f0 f14 (by decide) st.1
  have h13 : hV H2 285 13 = hV H1 285 13 := f5.1.2.1.1 285 13 (by decide +kernel)
  have y2 : hV H4 285 2 = hV H1 285 2 := (uSlot f15 285 2 (by rw [f14]; decide)).trans ((f8.1.2.1.1 285 2 (by decide +kernel)).trans (f5.1.2.1.1 285 2 (by decide +kernel)))
  have y18 : hV H4 285 18 = hV H1 285 18 := (uSlot f15 285 18 (by rw [f14]; decide)).trans ((f8.1.2.1.1 285 18 (by decide +kernel)).trans (f5.1.2.1.1 285 18 (by decide +kernel)))
  have q293 : hV H4 293 = hV H1 293 := (uRowNe f15 293 (by rw [f0]; decide)).trans ((fRow f8.1.2.1 293 (by decide +kernel)).trans (fRow f5.1.2.1 293 (by decide +kernel)))
  exfalso
  omega
def g_221w_117_6 : vG := ([(80, [1, 10, 9], [4, 3], 0), (0, [10], [], 17), (0, [9], [], -1), (35, [8], [], 0), (20, [8, 1], [3], 15), (35, [7], [], 0), (20, [7, 1], [3], 13), (1217, [1, 6], [2, 3], 0), (0, [6], [], 1), (30, [5], [], 0), (1216, [5, 1, 4], [1, 2], 0), (0, [4], [], 0), (30, [3], [], 0), (20, [3, 1], [1], 13), (5000, [0, 1, 2], [0, 1], 117), (0, [1], [], 285)], (4000, [1, 2], [4], 170))
theorem c_221w_117_6 {q0 : Nat} : vOkm T0 (eN e_221 L_221w A_221 mu_221 n_221 B_221 (some q0)) 1 g_221w_117_6 := vOk_inI fun ρ η f0 f1 f2 f3 f4 f5 f6 f7 f8 f9 f10 f11 f12 f13 f14 f15 => q_221w_11 (q0 := q0) (n0 := ρ 2) (n1 := ρ 1) (n2 := ρ 0) (n3 := ρ 3) (n4 := ρ 4) (n5 := ρ 5) (n6 := ρ 6) (n7 := ρ 7) (n8 := ρ 8) (n9 := ρ 9) (n10 := ρ 10) (H0 := η 0) (H1 := η 1) (H2 := η 2) (H3 := η 3) (H4 := η 4) f15 f14 f13 f12 f11 f10 f9 f8 f7 f6 f5 f4 f3 f2 f1 f0
theorem q_221w_12 {q0 : Nat} {n0 n1 n2 n3 n4 n5 n6 n7 n8 n9 n10 : Int} {H0 H1 H2 H3 H4 : gH} (f0 : n1 = 285) (f1 : (hLe T0 H0 H1 ∧ hFr s_221.2.2.2.2 H0 H1 ∧ hWt T0 H1) ∧ ((Ab_221_117 n2 n1 n0 H0 H1 ∧ Bb_221_117 n2 n1 n0 H0 H1) ∧ preb_221 n2 H0) ∧ some q0 = some (mub_221_117 n2 n1 n0 H0 H1)) (f2 : n3 = hV H1 (n1).toNat 13) (f3 : n3 = 0) (f4 : n4 = 0) (f5 : (hLe T0 H1 H2 ∧ hFr s_216.2.2.2.2 H1 H2 ∧ ((0 : Int) = 0 → H2.length = H1.length) ∧ hWt T0 H2) ∧ postb_216 n5 n1 n4 H1 H2) (f6 : n5 = 0) (f7 : n6 = 1) (f8 : (hLe T0 H2 H3 ∧ hFr s_217.2.2.2.2 H2 H3 ∧ ((0 : Int) = 0 → H3.length = H2.length) ∧ hWt T0 H3) ∧ (postb_217 n1 n6 H2 H3 ∧ nb_217 n1 n6 H2 H3)) (f9 : n7 = hV H3 (n1).toNat 13) (f10 : n7 ≤ 0) (f11 : n8 = hV H3 (n1).toNat 15) (f12 : 0 < n8) (f13 : n9 = hV H3 (n1).toNat 16) (f14 : n10 = 17) (f15 : hUpd H4 H3 n1 n10 n9) : Bb_221_170 n2 n1 n0 H0 H4 := by
  unfold Bb_221_170
  intro ky
  have ga := f1.2.1.1.2
  unfold Bb_221_117 at ga
  obtain ⟨z1, vz, a1, kx, tp, s18, h8, r293⟩ := ga ky
  have d8 := rdS (q := 285) f2 f0
  have d20 := rdS (q := 285) f9 f0
  have d25 := rdS (q := 285) f11 f0
  have d30 := rdS (q := 285) f13 f0
  have q9 := f3
  have q14 := f6
  have q21 := f10
  have q26 := f12
  have b2 : (0 : Int) ≤ hV H1 285 18 ∧ hV H1 285 18 ≤ 8 := f1.1.2.2 285 18 _ _ rW_18
  have lo1 := z1.2.2.2.1
  have lo5 := z1.2.2.2.2.2.2.1
  have pw : hV H4 285 17 = n9 := uSame f15 285 17 (by rw [f0]; rfl) (by rw [f14]; rfl)
  have pp := PR_fr f5.1.2.1 (by decide +kernel) z1
  have ii := f5.2
  unfold postb_216 at ii
  rw [f4] at ii
  have io := isR_or (k := 0) pp.2.2.1 (by decide) ii
  rw [pp.2.1, pp.1, vz, kmc_0] at io
  have ic := f6
  have kd := (io.resolve_left (fun w => absurd (w.1.symm.trans ic) (by decide))).2
  have c := f8.2.2 pp.2.2.1
  rw [f7, pp.1, pp.2.1, vz] at c
  have st : RI H3 ∧ absR H3 = pRead (pTx (BT H0) (hV H0 285 2)) := ⟨c.1, by
    rw [c.2]
    unfold pRead pEnd
    rw [← a1, if_neg kd]⟩
  have hz := faultR_of c.1 (by rw [c.2, ← vz]; exact pfailR_lt z1 (by decide))
  have l3 := st.1.2.2.2.1
  have l5 := st.1.2.2.2.2.2.2.1
  have pq := PR_slot (s := 17) f15 f0 f14 (by decide) st.1
  have h13 : hV H2 285 13 = hV H1 285 13 := f5.1.2.1.1 285 13 (by decide +kernel)
  have y2 : hV H4 285 2 = hV H1 285 2 := (uSlot f15 285 2 (by rw [f14]; decide)).trans ((f8.1.2.1.1 285 2 (by decide +kernel)).trans (f5.1.2.1.1 285 2 (by decide +kernel)))
  have y18 : hV H4 285 18 = hV H1 285 18 := (uSlot f15 285 18 (by rw [f14]; decide)).trans ((f8.1.2.1.1 285 18 (by decide +kernel)).trans (f5.1.2.1.1 285 18 (by decide +kernel)))
  have q293 : hV H4 293 = hV H1 293 := (uRowNe f15 293 (by rw [f0]; decide)).trans ((fRow f8.1.2.1 293 (by decide +kernel)).trans (fRow f5.1.2.1 293 (by decide +kernel)))
  exfalso
  omega
def g_221w_117_7 : vG := ([(80, [1, 10, 9], [4, 3], 0), (0, [10], [], 17), (20, [9, 1], [3], 16), (34, [8], [], 0), (20, [8, 1], [3], 15), (35, [7], [], 0), (20, [7, 1], [3], 13), (1217, [1, 6], [2, 3], 0), (0, [6], [], 1), (30, [5], [], 0), (1216, [5, 1, 4], [1, 2], 0), (0, [4], [], 0), (30, [3], [], 0), (20, [3, 1], [1], 13), (5000, [0, 1, 2], [0, 1], 117), (0, [1], [], 285)], (4000, [1, 2], [4], 170))
theorem c_221w_117_7 {q0 : Nat} : vOkm T0 (eN e_221 L_221w A_221 mu_221 n_221 B_221 (some q0)) 1 g_221w_117_7 := vOk_inI fun ρ η f0 f1 f2 f3 f4 f5 f6 f7 f8 f9 f10 f11 f12 f13 f14 f15 => q_221w_12 (q0 := q0) (n0 := ρ 2) (n1 := ρ 1) (n2 := ρ 0) (n3 := ρ 3) (n4 := ρ 4) (n5 := ρ 5) (n6 := ρ 6) (n7 := ρ 7) (n8 := ρ 8) (n9 := ρ 9) (n10 := ρ 10) (H0 := η 0) (H1 := η 1) (H2 := η 2) (H3 := η 3) (H4 := η 4) f15 f14 f13 f12 f11 f10 f9 f8 f7 f6 f5 f4 f3 f2 f1 f0
theorem q_221w_13 {q0 : Nat} {n0 n1 n2 n3 n4 n5 n6 n7 n8 n9 : Int} {H0 H1 H2 H3 H4 : gH} (f0 : n1 = 285) (f1 : (hLe T0 H0 H1 ∧ hFr s_221.2.2.2.2 H0 H1 ∧ hWt T0 H1) ∧ ((Ab_221_117 n2 n1 n0 H0 H1 ∧ Bb_221_117 n2 n1 n0 H0 H1) ∧ preb_221 n2 H0) ∧ some q0 = some (mub_221_117 n2 n1 n0 H0 H1)) (f2 : n3 = hV H1 (n1).toNat 13) (f3 : n3 = 0) (f4 : n4 = 0) (f5 : (hLe T0 H1 H2 ∧ hFr s_216.2.2.2.2 H1 H2 ∧ ((0 : Int) = 0 → H2.length = H1.length) ∧ hWt T0 H2) ∧ postb_216 n5 n1 n4 H1 H2) (f6 : n5 = 0) (f7 : n6 = 1) (f8 : (hLe T0 H2 H3 ∧ hFr s_217.2.2.2.2 H2 H3 ∧ ((0 : Int) = 0 → H3.length = H2.length) ∧ hWt T0 H3) ∧ (postb_217 n1 n6 H2 H3 ∧ nb_217 n1 n6 H2 H3)) (f9 : n7 = hV H3 (n1).toNat 13) (f10 : 0 < n7) (f11 : n8 = hV H3 (n1).toNat 14) (f12 : n9 = 17) (f13 : hUpd H4 H3 n1 n9 n8) : Bb_221_170 n2 n1 n0 H0 H4 := by
  unfold Bb_221_170
  intro ky
  have ga := f1.2.1.1.2
  unfold Bb_221_117 at ga
  obtain ⟨z1, vz, a1, kx, tp, s18, h8, r293⟩ := ga ky
  have d8 := rdS (q := 285) f2 f0
  have d20 := rdS (q := 285) f9 f0
  have d25 := rdS (q := 285) f11 f0
  have q9 := f3
  have q14 := f6
  have q21 := f10
  have b2 : (0 : Int) ≤ hV H1 285 18 ∧ hV H1 285 18 ≤ 8 := f1.1.2.2 285 18 _ _ rW_18
  have lo1 := z1.2.2.2.1
  have lo5 := z1.2.2.2.2.2.2.1
  have pw : hV H4 285 17 = n8 := uSame f13 285 17 (by rw [f0]; rfl) (by rw [f12]; rfl)
  have pp := PR_fr f5.1.2.1 (by decide +kernel) z1
  have ii := f5.2
  unfold postb_216 at ii
  rw [f4] at ii
  have io := isR_or (k := 0) pp.2.2.1 (by decide) ii
  rw [pp.2.1, pp.1, vz, kmc_0] at io
  have ic := f6
  have kd := (io.resolve_left (fun w => absurd (w.1.symm.trans ic) (by decide))).2
  have c := f8.2.2 pp.2.2.1
  rw [f7, pp.1, pp.2.1, vz] at c
  have st : RI H3 ∧ absR H3 = pRead (pTx (BT H0) (hV H0 285 2)) := ⟨c.1, by
    rw [c.2]
    unfold pRead pEnd
    rw [← a1, if_neg kd]⟩
  have hz := faultR_of c.1 (by rw [c.2, ← vz]; exact pfailR_lt z1 (by decide))
  have l3 := st.1.2.2.2.1
  have l5 := st.1.2.2.2.2.2.2.1
  have pq := PR_slot (s := 17) f13 f0 f12 (by decide) st.1
  have h13 : hV H2 285 13 = hV H1 285 13 := f5.1.2.1.1 285 13 (by decide +kernel)
  have y2 : hV H4 285 2 = hV H1 285 2 := (uSlot f13 285 2 (by rw [f12]; decide)).trans ((f8.1.2.1.1 285 2 (by decide +kernel)).trans (f5.1.2.1.1 285 2 (by decide +kernel)))
  have y18 : hV H4 285 18 = hV H1 285 18 := (uSlot f13 285 18 (by rw [f12]; decide)).trans ((f8.1.2.1.1 285 18 (by decide +kernel)).trans (f5.1.2.1.1 285 18 (by decide +kernel)))
  have q293 : hV H4 293 = hV H1 293 := (uRowNe f13 293 (by rw [f0]; decide)).trans ((fRow f8.1.2.1 293 (by decide +kernel)).trans (fRow f5.1.2.1 293 (by decide +kernel)))
  refine ⟨pq.2.2.1, pq.1.trans st.2, ?_, kx, by omega, by omega, h8, q293.trans r293⟩
  rw [pw, ← st.2]
  rw [(resR_off st.1 (by omega)).2]
  exact d25
def g_221w_117_8 : vG := ([(80, [1, 9, 8], [4, 3], 0), (0, [9], [], 17), (20, [8, 1], [3], 14), (34, [7], [], 0), (20, [7, 1], [3], 13), (1217, [1, 6], [2, 3], 0), (0, [6], [], 1), (30, [5], [], 0), (1216, [5, 1, 4], [1, 2], 0), (0, [4], [], 0), (30, [3], [], 0), (20, [3, 1], [1], 13), (5000, [0, 1, 2], [0, 1], 117), (0, [1], [], 285)], (4000, [1, 2], [4], 170))
theorem c_221w_117_8 {q0 : Nat} : vOkm T0 (eN e_221 L_221w A_221 mu_221 n_221 B_221 (some q0)) 1 g_221w_117_8 := vOk_inI fun ρ η f0 f1 f2 f3 f4 f5 f6 f7 f8 f9 f10 f11 f12 f13 => q_221w_13 (q0 := q0) (n0 := ρ 2) (n1 := ρ 1) (n2 := ρ 0) (n3 := ρ 3) (n4 := ρ 4) (n5 := ρ 5) (n6 := ρ 6) (n7 := ρ 7) (n8 := ρ 8) (n9 := ρ 9) (H0 := η 0) (H1 := η 1) (H2 := η 2) (H3 := η 3) (H4 := η 4) f13 f12 f11 f10 f9 f8 f7 f6 f5 f4 f3 f2 f1 f0
def p_221w_117 : List vG := [g_221w_117_0,
  g_221w_117_1,
  g_221w_117_2,
  g_221w_117_3,
  g_221w_117_4,
  g_221w_117_5,
  g_221w_117_6,
  g_221w_117_7,
  g_221w_117_8]
theorem r_221w_117 : vCovBO (eRc e_221 L_221 cs_221 2000 (117, [(0, (3, 12, 285, 0)), (1, (0, 0, 1, 0))])) p_221w_117 = true := by decide +kernel
theorem q_221w_14 {q0 : Nat} {n0 n1 n2 n3 n4 n5 n6 n7 n8 n9 n10 n11 n12 n13 n14 : Int} {H0 H1 H2 H3 : gH} (f0 : n0 ≤ 1) (f1 : 0 ≤ n0) (f2 : n1 = 285) (f3 : (hLe T0 H0 H1 ∧ hFr s_221.2.2.2.2 H0 H1 ∧ hWt T0 H1) ∧ ((Ab_221_170 n2 n1 n0 H0 H1 ∧ Bb_221_170 n2 n1 n0 H0 H1) ∧ preb_221 n2 H0) ∧ some q0 = some (mub_221_170 n2 n1 n0 H0 H1)) (f4 : n3 ≤ 2) (f5 : 0 ≤ n3) (f6 : n3 = hV H1 (n1).toNat 13) (f7 : n3 ≤ 0) (f8 : n4 ≤ 6) (f9 : 0 ≤ n4) (f10 : n4 = hV H1 (n1).toNat 15) (f11 : n4 ≤ 0) (f12 : n0 = 0) (f13 : n5 = 293) (f14 : n6 ≤ 8) (f15 : 0 ≤ n6) (f16 : n6 = hV H1 (n1).toNat 18) (f17 : n7 ≤ 6) (f18 : 1 ≤ n7) (f19 : n7 = hV H1 (n1).toNat 60) (f20 : n8 = 1) (f21 : n9 = w32 (n7 - n8)) (f22 : hUpd H2 H1 n5 n6 n9) (f23 : n10 ≤ 8) (f24 : 0 ≤ n10) (f25 : n10 = hV H2 (n1).toNat 18) (f26 : n11 = 1) (f27 : n12 = w32 (n10 + n11)) (f28 : n13 = 18) (f29 : hUpd H3 H2 n1 n13 n12) (f30 : n14 = 0) : nb_221 n14 n2 H0 H3 := by
  unfold nb_221
  intro ky
  have ga := f3.2.1.1.2
  unfold Bb_221_170 at ga
  obtain ⟨z1, a1, pl, kx, tp, s18, h8, r293⟩ := ga ky
  have d8 := rdS (q := 285) f6 f2
  have d13 := rdS (q := 285) f10 f2
  have d22 := rdS (q := 285) f16 f2
  have d26 := rdS (q := 285) f19 f2
  have d34 := rdS (q := 285) f25 f2
  have q9 := f7
  have q14 := f11
  have q15 := f12
  have b2 : (0 : Int) ≤ hV H1 285 18 ∧ hV H1 285 18 ≤ 8 := f3.1.2.2 285 18 _ _ rW_18
  have l3 := z1.2.2.2.1
  have l5 := z1.2.2.2.2.2.2.1
  have rg0 := f0
  have rg1 := f1
  have rg5 := f4
  have rg6 := f5
  have rg10 := f8
  have rg11 := f9
  have rg19 := f14
  have rg20 := f15
  have rg23 := f17
  have rg24 := f18
  have rg31 := f23
  have rg32 := f24
  have rc := f30
  have y2 : hV H3 285 2 = hV H1 285 2 := (uSlot f29 285 2 (by rw [f28]; decide)).trans (uPlace f22 285 2 (by rw [f13]; decide))
  have y17 : hV H3 285 17 = hV H1 285 17 := (uSlot f29 285 17 (by rw [f28]; decide)).trans (uPlace f22 285 17 (by rw [f13]; decide))
  refine .inr ⟨h8, ?_, y17.trans pl, by omega, ?_⟩
  · rw [← a1, (resR_on z1 (by omega)).1]
    omega
  · have w := kx.resolve_left (by omega)
    have u : hV H3 293 = uF (hV H1 293) n6 n9 := (uRowNe f29 293 (by rw [f2]; decide)).trans (uRow f22 293 f13.symm)
    have y18 : hV H3 285 18 = n12 := uSame f29 285 18 (by rw [f2]; rfl) (by rw [f28]; rfl)
    have e18_0 : n6 = hV H1 285 18 := d22.trans (rfl)
    have e18_1 : n10 = hV H1 285 18 := d34.trans (uPlace f22 285 18 (by rw [f13]; decide))
    have e60 : n7 = hV H0 285 60 := d26.trans ((rfl).trans (f3.1.2.1.1 285 60 (by decide +kernel)))
    have s28 : n9 = n7 - 1 := by
      have q := f21
      rw [f20] at q
      rw [q]
      exact w32_id (by omega) (by omega)
    have s36 : n12 = n10 + 1 := by
      have q := f27
      rw [f26] at q
      rw [q]
      exact w32_id (by omega) (by omega)
    refine .inl ⟨rc, w.2, by omega, ?_⟩
    rw [u, r293]
    congr 1 <;> omega
def g_221w_170_0 : vG := ([(0, [14], [], 0), (80, [1, 13, 12], [3, 2], 0), (0, [13], [], 18), (1, [12, 10, 11], [], 0), (0, [11], [], 1), (20, [10, 1], [2], 18), (90, [10], [], 0), (91, [10], [], 8), (80, [5, 6, 9], [2, 1], 0), (2, [9, 7, 8], [], 0), (0, [8], [], 1), (20, [7, 1], [1], 60), (90, [7], [], 1), (91, [7], [], 6), (20, [6, 1], [1], 18), (90, [6], [], 0), (91, [6], [], 8), (0, [5], [], 293), (30, [2], [], 0), (35, [4], [], 0), (20, [4, 1], [1], 15), (90, [4], [], 0), (91, [4], [], 6), (35, [3], [], 0), (20, [3, 1], [1], 13), (90, [3], [], 0), (91, [3], [], 2), (5000, [0, 1, 2], [0, 1], 170), (0, [1], [], 285), (90, [2], [], 0), (91, [2], [], 1)], (3000, [14], [3], 235))
theorem c_221w_170_0 {q0 : Nat} : vOkm T0 (eN e_221 L_221w A_221 mu_221 n_221 B_221 (some q0)) 1 g_221w_170_0 := vOk_inI fun ρ η f0 f1 f2 f3 f4 f5 f6 f7 f8 f9 f10 f11 f12 f13 f14 f15 f16 f17 f18 f19 f20 f21 f22 f23 f24 f25 f26 f27 f28 f29 f30 => q_221w_14 (q0 := q0) (n0 := ρ 2) (n1 := ρ 1) (n2 := ρ 0) (n3 := ρ 3) (n4 := ρ 4) (n5 := ρ 5) (n6 := ρ 6) (n7 := ρ 7) (n8 := ρ 8) (n9 := ρ 9) (n10 := ρ 10) (n11 := ρ 11) (n12 := ρ 12) (n13 := ρ 13) (n14 := ρ 14) (H0 := η 0) (H1 := η 1) (H2 := η 2) (H3 := η 3) f30 f29 f28 f27 f26 f25 f24 f23 f22 f21 f20 f19 f18 f17 f16 f15 f14 f13 f12 f11 f10 f9 f8 f7 f6 f5 f4 f3 f2 f1 f0
theorem q_221w_15 {q0 : Nat} {n0 n1 n2 n3 n4 n5 n6 n7 : Int} {H0 H1 H2 : gH} (f0 : n0 ≤ 1) (f1 : 0 ≤ n0) (f2 : n1 = 285) (f3 : (hLe T0 H0 H1 ∧ hFr s_221.2.2.2.2 H0 H1 ∧ hWt T0 H1) ∧ ((Ab_221_170 n2 n1 n0 H0 H1 ∧ Bb_221_170 n2 n1 n0 H0 H1) ∧ preb_221 n2 H0) ∧ some q0 = some (mub_221_170 n2 n1 n0 H0 H1)) (f4 : n3 ≤ 2) (f5 : 0 ≤ n3) (f6 : n3 = hV H1 (n1).toNat 13) (f7 : n3 ≤ 0) (f8 : n4 ≤ 6) (f9 : 0 ≤ n4) (f10 : n4 = hV H1 (n1).toNat 15) (f11 : n4 ≤ 0) (f12 : n0 ≠ 0) (f13 : n5 ≤ 1) (f14 : 0 ≤ n5) (f15 : n5 = hV H1 (n1).toNat 35) (f16 : n6 = 34) (f17 : hUpd H2 H1 n1 n6 n5) (f18 : n7 = 0) : nb_221 n7 n2 H0 H2 := by
  unfold nb_221
  intro ky
  have ga := f3.2.1.1.2
  unfold Bb_221_170 at ga
  obtain ⟨z1, a1, pl, kx, tp, s18, h8, r293⟩ := ga ky
  have d8 := rdS (q := 285) f6 f2
  have d13 := rdS (q := 285) f10 f2
  have d19 := rdS (q := 285) f15 f2
  have q9 := f7
  have q14 := f11
  have q15 := f12
  have b2 : (0 : Int) ≤ hV H1 285 18 ∧ hV H1 285 18 ≤ 8 := f3.1.2.2 285 18 _ _ rW_18
  have l3 := z1.2.2.2.1
  have l5 := z1.2.2.2.2.2.2.1
  have rg0 := f0
  have rg1 := f1
  have rg5 := f4
  have rg6 := f5
  have rg10 := f8
  have rg11 := f9
  have rg16 := f13
  have rg17 := f14
  have rc := f18
  have y2 : hV H2 285 2 = hV H1 285 2 := uSlot f17 285 2 (by rw [f16]; decide)
  have y17 : hV H2 285 17 = hV H1 285 17 := uSlot f17 285 17 (by rw [f16]; decide)
  refine .inr ⟨h8, ?_, y17.trans pl, by omega, ?_⟩
  · rw [← a1, (resR_on z1 (by omega)).1]
    omega
  · have y18 : hV H2 285 18 = hV H1 285 18 := uSlot f17 285 18 (by rw [f16]; decide)
    have q293 : hV H2 293 = hV H1 293 := uRowNe f17 293 (by rw [f2]; decide)
    exact .inr ⟨fun c => by
      have w := kx.resolve_right (by omega)
      exact c.2 w.2, by omega, q293.trans r293⟩
def g_221w_170_1 : vG := ([(0, [7], [], 0), (80, [1, 6, 5], [2, 1], 0), (0, [6], [], 34), (20, [5, 1], [1], 35), (90, [5], [], 0), (91, [5], [], 1), (31, [2], [], 0), (35, [4], [], 0), (20, [4, 1], [1], 15), (90, [4], [], 0), (91, [4], [], 6), (35, [3], [], 0), (20, [3, 1], [1], 13), (90, [3], [], 0), (91, [3], [], 2), (5000, [0, 1, 2], [0, 1], 170), (0, [1], [], 285), (90, [2], [], 0), (91, [2], [], 1)], (3000, [7], [2], 235))
theorem c_221w_170_1 {q0 : Nat} : vOkm T0 (eN e_221 L_221w A_221 mu_221 n_221 B_221 (some q0)) 1 g_221w_170_1 := vOk_inI fun ρ η f0 f1 f2 f3 f4 f5 f6 f7 f8 f9 f10 f11 f12 f13 f14 f15 f16 f17 f18 => q_221w_15 (q0 := q0) (n0 := ρ 2) (n1 := ρ 1) (n2 := ρ 0) (n3 := ρ 3) (n4 := ρ 4) (n5 := ρ 5) (n6 := ρ 6) (n7 := ρ 7) (H0 := η 0) (H1 := η 1) (H2 := η 2) f18 f17 f16 f15 f14 f13 f12 f11 f10 f9 f8 f7 f6 f5 f4 f3 f2 f1 f0
theorem q_221w_16 {q0 : Nat} {n0 n1 n2 n3 n4 n5 : Int} {H0 H1 : gH} (f0 : n0 ≤ 1) (f1 : 0 ≤ n0) (f2 : n1 = 285) (f3 : (hLe T0 H0 H1 ∧ hFr s_221.2.2.2.2 H0 H1 ∧ hWt T0 H1) ∧ ((Ab_221_170 n2 n1 n0 H0 H1 ∧ Bb_221_170 n2 n1 n0 H0 H1) ∧ preb_221 n2 H0) ∧ some q0 = some (mub_221_170 n2 n1 n0 H0 H1)) (f4 : n3 ≤ 2) (f5 : 0 ≤ n3) (f6 : n3 = hV H1 (n1).toNat 13) (f7 : n3 ≤ 0) (f8 : n4 ≤ 6) (f9 : 0 ≤ n4) (f10 : n4 = hV H1 (n1).toNat 15) (f11 : 0 < n4) (f12 : n5 ≤ 6) (f13 : 0 ≤ n5) (f14 : n5 = hV H1 (n1).toNat 15) : nb_221 n5 n2 H0 H1 := by
  unfold nb_221
  intro ky
  have ga := f3.2.1.1.2
  unfold Bb_221_170 at ga
  obtain ⟨z1, a1, pl, kx, tp, s18, h8, r293⟩ := ga ky
  have d8 := rdS (q := 285) f6 f2
  have d13 := rdS (q := 285) f10 f2
  have d18 := rdS (q := 285) f14 f2
  have q9 := f7
  have q14 := f11
  have b2 : (0 : Int) ≤ hV H1 285 18 ∧ hV H1 285 18 ≤ 8 := f3.1.2.2 285 18 _ _ rW_18
  have l3 := z1.2.2.2.1
  have l5 := z1.2.2.2.2.2.2.1
  have rg0 := f0
  have rg1 := f1
  have rg5 := f4
  have rg6 := f5
  have rg10 := f8
  have rg11 := f9
  have rg15 := f12
  have rg16 := f13
  have y2 : hV H1 285 2 = hV H1 285 2 := rfl
  have y17 : hV H1 285 17 = hV H1 285 17 := rfl
  refine .inr ⟨h8, ?_, y17.trans pl, by omega, ?_⟩
  · rw [← a1, (resR_on z1 (by omega)).1]
    omega
  · have y18 : hV H1 285 18 = hV H1 285 18 := rfl
    have q293 : hV H1 293 = hV H1 293 := rfl
    exact .inr ⟨fun c => by omega, by omega, q293.trans r293⟩
def g_221w_170_2 : vG := ([(20, [5, 1], [1], 15), (90, [5], [], 0), (91, [5], [], 6), (34, [4], [], 0), (20, [4, 1], [1], 15), (90, [4], [], 0), (91, [4], [], 6), (35, [3], [], 0), (20, [3, 1], [1], 13), (90, [3], [], 0), (91, [3], [], 2), (5000, [0, 1, 2], [0, 1], 170), (0, [1], [], 285), (90, [2], [], 0), (91, [2], [], 1)], (3000, [5], [1], 193))
theorem c_221w_170_2 {q0 : Nat} : vOkm T0 (eN e_221 L_221w A_221 mu_221 n_221 B_221 (some q0)) 1 g_221w_170_2 := vOk_inI fun ρ η f0 f1 f2 f3 f4 f5 f6 f7 f8 f9 f10 f11 f12 f13 f14 => q_221w_16 (q0 := q0) (n0 := ρ 2) (n1 := ρ 1) (n2 := ρ 0) (n3 := ρ 3) (n4 := ρ 4) (n5 := ρ 5) (H0 := η 0) (H1 := η 1) f14 f13 f12 f11 f10 f9 f8 f7 f6 f5 f4 f3 f2 f1 f0
theorem q_221w_17 {q0 : Nat} {n0 n1 n2 n3 n4 : Int} {H0 H1 : gH} (f0 : n0 ≤ 1) (f1 : 0 ≤ n0) (f2 : n1 = 285) (f3 : (hLe T0 H0 H1 ∧ hFr s_221.2.2.2.2 H0 H1 ∧ hWt T0 H1) ∧ ((Ab_221_170 n2 n1 n0 H0 H1 ∧ Bb_221_170 n2 n1 n0 H0 H1) ∧ preb_221 n2 H0) ∧ some q0 = some (mub_221_170 n2 n1 n0 H0 H1)) (f4 : n3 ≤ 2) (f5 : 0 ≤ n3) (f6 : n3 = hV H1 (n1).toNat 13) (f7 : 0 < n3) (f8 : n4 ≤ 2) (f9 : 0 ≤ n4) (f10 : n4 = hV H1 (n1).toNat 13) : nb_221 n4 n2 H0 H1 := by
  unfold nb_221
  intro ky
  have ga := f3.2.1.1.2
  unfold Bb_221_170 at ga
  obtain ⟨z1, a1, pl, kx, tp, s18, h8, r293⟩ := ga ky
  have d8 := rdS (q := 285) f6 f2
  have d13 := rdS (q := 285) f10 f2
  have q9 := f7
  have b2 : (0 : Int) ≤ hV H1 285 18 ∧ hV H1 285 18 ≤ 8 := f3.1.2.2 285 18 _ _ rW_18
  have l3 := z1.2.2.2.1
  have l5 := z1.2.2.2.2.2.2.1
  have rg0 := f0
  have rg1 := f1
  have rg5 := f4
  have rg6 := f5
  have rg10 := f8
  have rg11 := f9
  have y2 : hV H1 285 2 = hV H1 285 2 := rfl
  have y17 : hV H1 285 17 = hV H1 285 17 := rfl
  refine .inr ⟨h8, ?_, y17.trans pl, by omega, ?_⟩
  · rw [← a1, (resR_off z1 (by omega)).1]
    omega
  · have y18 : hV H1 285 18 = hV H1 285 18 := rfl
    have q293 : hV H1 293 = hV H1 293 := rfl
    exact .inr ⟨fun c => by omega, by omega, q293.trans r293⟩
def g_221w_170_3 : vG := ([(20, [4, 1], [1], 13), (90, [4], [], 0), (91, [4], [], 2), (34, [3], [], 0), (20, [3, 1], [1], 13), (90, [3], [], 0), (91, [3], [], 2), (5000, [0, 1, 2], [0, 1], 170), (0, [1], [], 285), (90, [2], [], 0), (91, [2], [], 1)], (3000, [4], [1], 181))
theorem c_221w_170_3 {q0 : Nat} : vOkm T0 (eN e_221 L_221w A_221 mu_221 n_221 B_221 (some q0)) 1 g_221w_170_3 := vOk_inI fun ρ η f0 f1 f2 f3 f4 f5 f6 f7 f8 f9 f10 => q_221w_17 (q0 := q0) (n0 := ρ 2) (n1 := ρ 1) (n2 := ρ 0) (n3 := ρ 3) (n4 := ρ 4) (H0 := η 0) (H1 := η 1) f10 f9 f8 f7 f6 f5 f4 f3 f2 f1 f0
def p_221w_170 : List vG := [g_221w_170_0,
  g_221w_170_1,
  g_221w_170_2,
  g_221w_170_3]
theorem r_221w_170 : vCovBO (eRc e_221 L_221 cs_221 2000 (170, [(0, (3, 12, 285, 0)), (1, (0, 0, 1, 0))])) p_221w_170 = true := by decide +kernel
theorem m_221w (d : Nat) : eC e_221w (d + 11) := eC_ref (e := e_221) (L := L_221) (L' := L_221w) (cs := cs_221) (n := 2000) (d := d + 10) (A := A_221) (μ := mu_221) (tp := false) (p0 := p_221_s) (p1 := p_221w_s) (N := n_221) (B := B_221) rfl ⟨m_214w (d + 7), ⟨m_216 (d + 9), ⟨m_217w (d + 9), ⟨m_224w d, ⟨m_231w (d + 3), trivial⟩⟩⟩⟩⟩ rfl (.inl rfl) (by decide +kernel) (fun z => nomatch z) r_221_s (allC c_221_s_0 (allC c_221_s_1 allN)) (allC (.inl ⟨p_221_22, r_221_22, fun q0 => (allC c_221_22_0 (allC c_221_22_1 (allC c_221_22_2 (allC c_221_22_3 (allC c_221_22_4 (allC c_221_22_5 (allC c_221_22_6 (allC c_221_22_7 (allC c_221_22_8 (allC c_221_22_9 (allC c_221_22_10 (allC c_221_22_11 allN))))))))))))⟩) (allC (.inl ⟨p_221_117, r_221_117, fun q0 => (allC c_221_117_0 (allC c_221_117_1 (allC c_221_117_2 (allC c_221_117_3 (allC c_221_117_4 (allC c_221_117_5 (allC c_221_117_6 (allC c_221_117_7 (allC c_221_117_8 allN)))))))))⟩) (allC (.inl ⟨p_221_170, r_221_170, fun q0 => (allC c_221_170_0 (allC c_221_170_1 (allC c_221_170_2 (allC c_221_170_3 (allC c_221_170_4 (allC c_221_170_5 (allC c_221_170_6 (allC c_221_170_7 allN))))))))⟩) allN))) (sub1 (sub0 (sub1 (sub1 (sub1 trivial))))) r_221w_s (allC c_221w_s_0 (allC c_221w_s_1 allN)) (allC ⟨p_221w_22, r_221w_22, fun q0 => (allC c_221w_22_0 (allC c_221w_22_1 (allC c_221w_22_2 allN)))⟩ (allC ⟨p_221w_117, r_221w_117, fun q0 => (allC c_221w_117_0 (allC c_221w_117_1 (allC c_221w_117_2 (allC c_221w_117_3 (allC c_221w_117_4 (allC c_221w_117_5 (allC c_221w_117_6 (allC c_221w_117_7 (allC c_221w_117_8 allN)))))))))⟩ (allC ⟨p_221w_170, r_221w_170, fun q0 => (allC c_221w_170_0 (allC c_221w_170_1 (allC c_221w_170_2 (allC c_221w_170_3 allN))))⟩ allN)))
