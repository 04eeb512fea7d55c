/-! CONTRACTS of methods told more fully. -/
/- MixStageModel.read ()I, more fully still -/
theorem o_221 : eOK e_221 L_221 cs_221 2000 A_221 mu_221 := eOK_of (tp := false) (p0 := p_221_s) (fun z => nomatch z) r_221_s (allC c_221_s_0 (allC c_221_s_1 allN)) (allC (.inl ⟨p_221_22, r_221_22, fun q0 => (allC c_221_22_0 (allC c_221_22_1 (allC c_221_22_2 (allC c_221_22_3 (allC c_221_22_4 (allC c_221_22_5 (allC c_221_22_6 (allC c_221_22_7 (allC c_221_22_8 (allC c_221_22_9 (allC c_221_22_10 (allC c_221_22_11 allN))))))))))))⟩) (allC (.inl ⟨p_221_117, r_221_117, fun q0 => (allC c_221_117_0 (allC c_221_117_1 (allC c_221_117_2 (allC c_221_117_3 (allC c_221_117_4 (allC c_221_117_5 (allC c_221_117_6 (allC c_221_117_7 (allC c_221_117_8 allN)))))))))⟩) (allC (.inl ⟨p_221_170, r_221_170, fun q0 => (allC c_221_170_0 (allC c_221_170_1 (allC c_221_170_2 (allC c_221_170_3 (allC c_221_170_4 (allC c_221_170_5 (allC c_221_170_6 (allC c_221_170_7 allN))))))))⟩) allN)))
theorem o_221w : eOK e_221w L_221w cs_221 2000 (eAB A_221 B_221) mu_221 := eOK_ref (p1 := p_221w_s) o_221 (sub1 (sub0 (sub1 (sub1 (sub1 trivial))))) r_221w_s (allC c_221w_s_0 (allC c_221w_s_1 allN)) (allC ⟨p_221w_22, r_221w_22, fun q0 => (allC c_221w_22_0 (allC c_221w_22_1 (allC c_221w_22_2 allN)))⟩ (allC ⟨p_221w_117, r_221w_117, fun q0 => (allC c_221w_117_0 (allC c_221w_117_1 (allC c_221w_117_2 (allC c_221w_117_3 (allC c_221w_117_4 (allC c_221w_117_5 (allC c_221w_117_6 (allC c_221w_117_7 (allC c_221w_117_8 allN)))))))))⟩ (allC ⟨p_221w_170, r_221w_170, fun q0 => (allC c_221w_170_0 (allC c_221w_170_1 (allC c_221w_170_2 (allC c_221w_170_3 allN))))⟩ allN)))
def yb_221 (r a0 : Int) (h0 h : gH) : Prop := KEYS h0 → CRl h0 h (112 * hV h0 285 18) ∧ (∀ k : Nat, (k : Int) < 7 * hV h0 285 18 → hV h 296 (k) = hV h0 296 (k)) ∧ (r = 0 → ¬ (pTx (BT h0) (hV h0 285 2)).1 0 = 19 → FIR (pTx (BT h0) (hV h0 285 2)) (0, 0) h (hV h0 285 18).toNat ∧ ZP h (hV h0 285 18).toNat ∧ hV h 285 32 = hV h0 285 18)
def y_221 : List Int → gH → gH → Prop := fun xs h0 h => match xs with
  | [r, a0] => yb_221 r a0 h0 h
  | _ => True
noncomputable def e_221y : vE := eV e_221w y_221
noncomputable def L_221y : List vE := [e_214w, e_216, e_217w, e_224y, e_231w]
def Byb_221_22 (a0 x0 x1 : Int) (h0 h : gH) : Prop := KEYS h0 → CR8 h0 h ∧ (hV h 296) = (hV h0 296)
def Byb_221_117 (a0 x0 x1 : Int) (h0 h : gH) : Prop := KEYS h0 → CRl h0 h (112 * hV h0 285 18) ∧ (∀ k : Nat, (k : Int) < 7 * hV h0 285 18 → hV h 296 (k) = hV h0 296 (k)) ∧ (x1 = 0 → hV h 285 13 = 0 → FIR (pTx (BT h0) (hV h0 285 2)) (0, 0) h (hV h0 285 18).toNat ∧ (hV h 285 15 = 0 → ZP h (hV h0 285 18).toNat))
def Byb_221_170 (a0 x0 x1 : Int) (h0 h : gH) : Prop := KEYS h0 → CRl h0 h (112 * hV h0 285 18) ∧ (∀ k : Nat, (k : Int) < 7 * hV h0 285 18 → hV h 296 (k) = hV h0 296 (k)) ∧ (x1 = 0 → hV h 285 13 = 0 → FIR (pTx (BT h0) (hV h0 285 2)) (0, 0) h (hV h0 285 18).toNat ∧ (hV h 285 15 = 0 → ZP h (hV h0 285 18).toNat))
def By_221 : Int → List Int → gH → gH → Prop := fun c xs h0 h => match c.toNat with
  | 22 => (match xs with
    | [a0, x0, x1] => Byb_221_22 a0 x0 x1 h0 h
    | _ => False)
  | 117 => (match xs with
    | [a0, x0, x1] => Byb_221_117 a0 x0 x1 h0 h
    | _ => False)
  | 170 => (match xs with
    | [a0, x0, x1] => Byb_221_170 a0 x0 x1 h0 h
    | _ => False)
  | _ => True
theorem q_221y_0 {n0 n1 n2 n3 n4 n5 : Int} {H0 H1 : gH} (f0 : n0 = 285) (f1 : hWt T0 H0 ∧ preb_221 n0 H0) (f2 : n1 ≤ 8) (f3 : 0 ≤ n1) (f4 : hK H0 (n0).toNat = 12) (f5 : n1 = hV H0 (n0).toNat 18) (f6 : n2 = 8) (f7 : n1 ≠ n2) (f8 : n3 ≤ 2000) (f9 : 0 ≤ n3) (f10 : hK H0 (n0).toNat = 12) (f11 : n3 = hV H0 (n0).toNat 2) (f12 : hK H0 (n0).toNat = 12) (f13 : n4 = 4) (f14 : hUpd H1 H0 n0 n4 n3) (f15 : n5 = 0) : Byb_221_22 n0 n0 n5 H0 H1 := by
  unfold Byb_221_22
  intro ky
  have p296 : hV H1 296 = hV H0 296 := uRowNe f14 296 (by rw [f0]; decide)
  exact ⟨(CR8_lo (q := 285) f14 f0 (by decide)), p296⟩
def g_221y_s_0 : vG := ([(0, [5], [], 0), (80, [0, 4, 3], [1, 0], 0), (0, [4], [], 4), (23, [0], [0], 12), (20, [3, 0], [0], 2), (23, [0], [0], 12), (90, [3], [], 0), (91, [3], [], 2000), (41, [1, 2], [], 0), (0, [2], [], 8), (20, [1, 0], [0], 18), (23, [0], [0], 12), (90, [1], [], 0), (91, [1], [], 8), (6000, [0], [0], 0), (0, [0], [], 285)], (4000, [0, 5], [1], 22))
theorem c_221y_s_0 : vOkm T0 (eN e_221w L_221y (eAB A_221 B_221) mu_221 y_221 By_221 none) 1 g_221y_s_0 := vOk_inI fun ρ η f0 f1 f2 f3 f4 f5 f6 f7 f8 f9 f10 f11 f12 f13 f14 f15 => q_221y_0 (n0 := ρ 0) (n1 := ρ 1) (n2 := ρ 2) (n3 := ρ 3) (n4 := ρ 4) (n5 := ρ 5) (H0 := η 0) (H1 := η 1) f15 f14 f13 f12 f11 f10 f9 f8 f7 f6 f5 f4 f3 f2 f1 f0
theorem q_221y_1 {n0 n1 n2 n3 : Int} {H0 : gH} (f0 : n0 = 285) (f1 : hWt T0 H0 ∧ preb_221 n0 H0) (f2 : n1 ≤ 8) (f3 : 0 ≤ n1) (f4 : hK H0 (n0).toNat = 12) (f5 : n1 = hV H0 (n0).toNat 18) (f6 : n2 = 8) (f7 : n1 = n2) (f8 : n3 = (-2)) : yb_221 n3 n0 H0 H0 := by
  unfold yb_221
  intro ky
  have rc := f8
  exact ⟨CRl_8 CR8_rfl, fun _ _ => rfl, fun c => by exfalso; omega⟩
def g_221y_s_1 : vG := ([(0, [3], [], -2), (40, [1, 2], [], 0), (0, [2], [], 8), (20, [1, 0], [0], 18), (23, [0], [0], 12), (90, [1], [], 0), (91, [1], [], 8), (6000, [0], [0], 0), (0, [0], [], 285)], (3000, [3], [0], 11))
theorem c_221y_s_1 : vOkm T0 (eN e_221w L_221y (eAB A_221 B_221) mu_221 y_221 By_221 none) 1 g_221y_s_1 := vOk_inI fun ρ η f0 f1 f2 f3 f4 f5 f6 f7 f8 => q_221y_1 (n0 := ρ 0) (n1 := ρ 1) (n2 := ρ 2) (n3 := ρ 3) (H0 := η 0) f8 f7 f6 f5 f4 f3 f2 f1 f0
def p_221y_s : List vG := [g_221y_s_0,
  g_221y_s_1]
theorem r_221y_s : vCovBO (eR0 e_221w L_221w cs_221 2000) p_221y_s = true := by decide +kernel
theorem q_221y_2 {q0 : Nat} {n0 n1 n2 n3 n4 n5 n6 n7 n8 n9 n10 n11 n12 n13 n14 n15 n16 n17 n18 n19 n20 n21 : Int} {H0 H1 H2 H3 H4 H5 H6 H7 H8 H9 H10 H11 : gH} (f0 : n0 ≤ 2000) (f1 : 0 ≤ n0) (f2 : n1 = 285) (f3 : n2 = 285) (f4 : (hLe T0 H0 H1 ∧ hFr s_221.2.2.2.2 H0 H1 ∧ hWt T0 H1) ∧ (((Ab_221_22 n2 n1 n0 H0 H1 ∧ Bb_221_22 n2 n1 n0 H0 H1) ∧ Byb_221_22 n2 n1 n0 H0 H1) ∧ preb_221 n2 H0) ∧ some q0 = some (mub_221_22 n2 n1 n0 H0 H1)) (f5 : n3 ≤ 2000) (f6 : 0 ≤ n3) (f7 : hK H1 (n1).toNat = 12) (f8 : n3 = hV H1 (n1).toNat 4) (f9 : n3 ≤ n0) (f10 : n4 = 0) (f11 : hK H1 (n1).toNat = 12) (f12 : n5 = 2) (f13 : hUpd H2 H1 n1 n5 n4) (f14 : (hLe T0 H2 H3 ∧ hFr s_214.2.2.2.2 H2 H3 ∧ ((0 : Int) = 0 → H3.length = H2.length) ∧ hWt T0 H3) ∧ (True ∧ nb_214 n1 H2 H3)) (f15 : n6 = 0) (f16 : hK H3 (n1).toNat = 12) (f17 : n7 = 11) (f18 : hUpd H4 H3 n1 n7 n6) (f19 : n8 = 0) (f20 : hK H4 (n1).toNat = 12) (f21 : n9 = 12) (f22 : hUpd H5 H4 n1 n9 n8) (f23 : n10 = 0) (f24 : hK H5 (n1).toNat = 12) (f25 : n11 = 13) (f26 : hUpd H6 H5 n1 n11 n10) (f27 : n12 = 0) (f28 : hK H6 (n1).toNat = 12) (f29 : n13 = 15) (f30 : hUpd H7 H6 n1 n13 n12) (f31 : n14 ≤ 8) (f32 : 0 ≤ n14) (f33 : hK H7 (n1).toNat = 12) (f34 : n14 = hV H7 (n1).toNat 18) (f35 : hK H7 (n1).toNat = 12) (f36 : n15 = 32) (f37 : hUpd H8 H7 n1 n15 n14) (f38 : n16 = 1) (f39 : n17 ≤ 1) (f40 : 0 ≤ n17) (f41 : hK H8 (n1).toNat = 12) (f42 : n17 = hV H8 (n1).toNat 34) (f43 : n18 = w32 (n16 - n17)) (f44 : hK H8 (n1).toNat = 12) (f45 : n19 = 35) (f46 : hUpd H9 H8 n1 n19 n18) (f47 : n20 = 23) (f48 : n21 ≤ 1) (f49 : 0 ≤ n21) (f50 : (hLe T0 H9 H10 ∧ hFr s_216.2.2.2.2 H9 H10 ∧ ((0 : Int) = 0 → H10.length = H9.length) ∧ hWt T0 H10) ∧ postb_216 n21 n1 n20 H9 H10) (f51 : n21 = 0) (f52 : (hLe T0 H10 H11 ∧ hFr s_224.2.2.2.2 H10 H11 ∧ ((0 : Int) = 0 → H11.length = H10.length) ∧ hWt T0 H11) ∧ ((postb_224 n1 H10 H11 ∧ nb_224 n1 H10 H11) ∧ yb_224 n1 H10 H11)) : Byb_221_117 n2 n1 n21 H0 H11 := by
  unfold Byb_221_117
  intro ky
  have ga := f4.2.1.1.1.2
  unfold Bb_221_22 at ga
  obtain ⟨sz, tp, xh, s18, h8, r293, cp⟩ := ga ky
  have d8 := rdS (q := 285) f8 f2
  have d34 := rdS (q := 285) f34 f2
  have d42 := rdS (q := 285) f42 f2
  have q9 := f9
  have q51 := f51
  have b2 : (0 : Int) ≤ hV H1 285 18 ∧ hV H1 285 18 ≤ 8 := f4.1.2.2 285 18 _ _ rW_18
  have k292 : hV H2 292 = hV H0 292 := (uRowNe f13 292 (by rw [f2]; decide)).trans (fRow f4.1.2.1 292 (by decide +kernel))
  have k287 : hV H2 287 = hV H1 287 := uRowNe f13 287 (by rw [f2]; decide)
  have k4 : hV H2 285 4 = hV H1 285 4 := uSlot f13 285 4 (by rw [f12]; decide)
  have c := f14.2.2 (fun q hq => by rw [k292]; exact ky q hq)
  have vw : pTx (BR H2) (hV H2 285 4) = (pTx (BT H0) (hV H0 285 2)) := by
    rw [k4, sz]
    refine pTx_congr (fun q hq => ?_)
    unfold BR BT
    rw [k287, cp q (by omega)]
  rw [vw] at c
  have tr := (TRs.trans (TRs_slot (s := 11) f18 f2 f17 (by decide)) (TRs.trans (TRs_slot (s := 12) f22 f2 f21 (by decide)) (TRs.trans (TRs_slot (s := 13) f26 f2 f25 (by decide)) (TRs.trans (TRs_slot (s := 15) f30 f2 f29 (by decide)) (TRs.trans (TRs_slot (s := 32) f37 f2 f36 (by decide)) (TRs_slot (s := 35) f46 f2 f45 (by decide)))))))
  have s11_ : hV H9 285 11 = 0 := ((uSlot f46 285 11 (by rw [f45]; decide)).trans ((uSlot f37 285 11 (by rw [f36]; decide)).trans ((uSlot f30 285 11 (by rw [f29]; decide)).trans ((uSlot f26 285 11 (by rw [f25]; decide)).trans ((uSlot f22 285 11 (by rw [f21]; decide)).trans (uSame f18 285 11 (by rw [f2]; rfl) (by rw [f17]; rfl))))))).trans f15
  have s13_ : hV H9 285 13 = 0 := ((uSlot f46 285 13 (by rw [f45]; decide)).trans ((uSlot f37 285 13 (by rw [f36]; decide)).trans ((uSlot f30 285 13 (by rw [f29]; decide)).trans (uSame f26 285 13 (by rw [f2]; rfl) (by rw [f25]; rfl))))).trans f23
  have s15_ : hV H9 285 15 = 0 := ((uSlot f46 285 15 (by rw [f45]; decide)).trans ((uSlot f37 285 15 (by rw [f36]; decide)).trans (uSame f30 285 15 (by rw [f2]; rfl) (by rw [f29]; rfl)))).trans f27
  have s14_ : hV H9 285 14 = hV H3 285 14 := (uSlot f46 285 14 (by rw [f45]; decide)).trans ((uSlot f37 285 14 (by rw [f36]; decide)).trans ((uSlot f30 285 14 (by rw [f29]; decide)).trans ((uSlot f26 285 14 (by rw [f25]; decide)).trans ((uSlot f22 285 14 (by rw [f21]; decide)).trans (uSlot f18 285 14 (by rw [f17]; decide))))))
  have b14_ := f14.1.2.2.2 285 14 _ _ rW_14
  have s16_ : hV H9 285 16 = hV H3 285 16 := (uSlot f46 285 16 (by rw [f45]; decide)).trans ((uSlot f37 285 16 (by rw [f36]; decide)).trans ((uSlot f30 285 16 (by rw [f29]; decide)).trans ((uSlot f26 285 16 (by rw [f25]; decide)).trans ((uSlot f22 285 16 (by rw [f21]; decide)).trans (uSlot f18 285 16 (by rw [f17]; decide))))))
  have b16_ := f14.1.2.2.2 285 16 _ _ rW_16
  have rn := RI_new (TR_of tr c.1) s11_ s13_ s15_ (by omega) (by omega)
  have vi : vwR H9 = (pTx (BT H0) (hV H0 285 2)) := (TRs_v tr).trans c.2
  have pp := PR_fr f50.1.2.1 (by decide +kernel) rn.1
  have ii := f50.2
  unfold postb_216 at ii
  rw [f47] at ii
  have io := isR_or (k := 23) pp.2.2.1 (by decide) ii
  rw [pp.2.1, pp.1, vi, rn.2, kmc_23] at io
  have ic := f51
  have y2 : hV H11 285 2 = n4 := (f52.1.2.1.1 285 2 (by decide +kernel)).trans ((f50.1.2.1.1 285 2 (by decide +kernel)).trans ((uSlot f46 285 2 (by rw [f45]; decide)).trans ((uSlot f37 285 2 (by rw [f36]; decide)).trans ((uSlot f30 285 2 (by rw [f29]; decide)).trans ((uSlot f26 285 2 (by rw [f25]; decide)).trans ((uSlot f22 285 2 (by rw [f21]; decide)).trans ((uSlot f18 285 2 (by rw [f17]; decide)).trans ((f14.1.2.1.1 285 2 (by decide +kernel)).trans (uSame f13 285 2 (by rw [f2]; rfl) (by rw [f12]; rfl))))))))))
  have y18 : hV H11 285 18 = hV H1 285 18 := (f52.1.2.1.1 285 18 (by decide +kernel)).trans ((f50.1.2.1.1 285 18 (by decide +kernel)).trans ((uSlot f46 285 18 (by rw [f45]; decide)).trans ((uSlot f37 285 18 (by rw [f36]; decide)).trans ((uSlot f30 285 18 (by rw [f29]; decide)).trans ((uSlot f26 285 18 (by rw [f25]; decide)).trans ((uSlot f22 285 18 (by rw [f21]; decide)).trans ((uSlot f18 285 18 (by rw [f17]; decide)).trans ((f14.1.2.1.1 285 18 (by decide +kernel)).trans (uSlot f13 285 18 (by rw [f12]; decide))))))))))
  have v2 := f10
  have q293 : hV H11 293 = hV H1 293 := (fRow f52.1.2.1 293 (by decide +kernel)).trans ((fRow f50.1.2.1 293 (by decide +kernel)).trans ((uRowNe f46 293 (by rw [f2]; decide)).trans ((uRowNe f37 293 (by rw [f2]; decide)).trans ((uRowNe f30 293 (by rw [f2]; decide)).trans ((uRowNe f26 293 (by rw [f2]; decide)).trans ((uRowNe f22 293 (by rw [f2]; decide)).trans ((uRowNe f18 293 (by rw [f2]; decide)).trans ((fRow f14.1.2.1 293 (by decide +kernel)).trans (uRowNe f13 293 (by rw [f2]; decide))))))))))
  have kd := io.resolve_left (fun w => absurd (w.1.symm.trans ic) (by decide))
  have n := f52.2.1.2 pp.2.2.1
  rw [pp.2.1, pp.1, vi, rn.2] at n
  have ve : vwR H11 = (pTx (BT H0) (hV H0 285 2)) := (vwR_fr f52.1.2.1 (by decide +kernel)).trans (pp.2.1.trans vi)
  have gy := f4.2.1.1.2
  unfold Byb_221_22 at gy
  obtain ⟨y8, y6⟩ := gy ky
  have e32 : hV H10 285 32 = hV H0 285 18 := by
    rw [show hV H10 285 32 = n14 from (f50.1.2.1.1 285 32 (by decide +kernel)).trans ((uSlot f46 285 32 (by rw [f45]; decide)).trans (uSame f37 285 32 (by rw [f2]; rfl) (by rw [f36]; rfl))), d34, show hV H7 285 18 = hV H1 285 18 from (uSlot f30 285 18 (by rw [f29]; decide)).trans ((uSlot f26 285 18 (by rw [f25]; decide)).trans ((uSlot f22 285 18 (by rw [f21]; decide)).trans ((uSlot f18 285 18 (by rw [f17]; decide)).trans ((f14.1.2.1.1 285 18 (by decide +kernel)).trans (uSlot f13 285 18 (by rw [f12]; decide))))))]
    exact s18
  have y := f52.2.2
  unfold yb_224 at y
  have y := y pp.2.2.1
  rw [pp.2.1, pp.1, vi, rn.2, e32] at y
  obtain ⟨q1, q2, qz, q3⟩ := y
  have m1 : hV H10 296 = hV H1 296 := (fRow f50.1.2.1 296 (by decide +kernel)).trans ((uRowNe f46 296 (by rw [f2]; decide)).trans ((uRowNe f37 296 (by rw [f2]; decide)).trans ((uRowNe f30 296 (by rw [f2]; decide)).trans ((uRowNe f26 296 (by rw [f2]; decide)).trans ((uRowNe f22 296 (by rw [f2]; decide)).trans ((uRowNe f18 296 (by rw [f2]; decide)).trans ((fRow f14.1.2.1 296 (by decide +kernel)).trans (uRowNe f13 296 (by rw [f2]; decide)))))))))
  have e8a : CR8 H1 H10 := (CR8_tr (CR8_lo (q := 285) f13 f2 (by decide)) (CR8_tr (CR8_fr f14.1.2.1 (by decide +kernel)) (CR8_tr (CR8_lo (q := 285) f18 f2 (by decide)) (CR8_tr (CR8_lo (q := 285) f22 f2 (by decide)) (CR8_tr (CR8_lo (q := 285) f26 f2 (by decide)) (CR8_tr (CR8_lo (q := 285) f30 f2 (by decide)) (CR8_tr (CR8_lo (q := 285) f37 f2 (by decide)) (CR8_tr (CR8_lo (q := 285) f46 f2 (by decide)) (CR8_fr f50.1.2.1 (by decide +kernel))))))))))
  have e8c : CR8 H11 H11 := CR8_rfl
  have m2 : hV H11 296 = hV H11 296 := rfl
  refine ⟨CRl_tr (CRl_8 (CR8_tr y8 e8a)) (CRl_tr q1 (CRl_8 e8c)), fun k hk => by rw [m2, q2 k hk, m1, y6], fun _ hf => ?_⟩
  exact ⟨q3 hf, fun hw => qz hf hw⟩
def g_221y_22_0 : vG := ([(1224, [1], [10, 11], 0), (30, [21], [], 0), (1216, [21, 1, 20], [9, 10], 0), (90, [21], [], 0), (91, [21], [], 1), (0, [20], [], 23), (80, [1, 19, 18], [9, 8], 0), (0, [19], [], 35), (23, [1], [8], 12), (2, [18, 16, 17], [], 0), (20, [17, 1], [8], 34), (23, [1], [8], 12), (90, [17], [], 0), (91, [17], [], 1), (0, [16], [], 1), (80, [1, 15, 14], [8, 7], 0), (0, [15], [], 32), (23, [1], [7], 12), (20, [14, 1], [7], 18), (23, [1], [7], 12), (90, [14], [], 0), (91, [14], [], 8), (80, [1, 13, 12], [7, 6], 0), (0, [13], [], 15), (23, [1], [6], 12), (0, [12], [], 0), (80, [1, 11, 10], [6, 5], 0), (0, [11], [], 13), (23, [1], [5], 12), (0, [10], [], 0), (80, [1, 9, 8], [5, 4], 0), (0, [9], [], 12), (23, [1], [4], 12), (0, [8], [], 0), (80, [1, 7, 6], [4, 3], 0), (0, [7], [], 11), (23, [1], [3], 12), (0, [6], [], 0), (1214, [1], [2, 3], 0), (80, [1, 5, 4], [2, 1], 0), (0, [5], [], 2), (23, [1], [1], 12), (0, [4], [], 0), (43, [2, 3], [], 0), (20, [3, 1], [1], 4), (23, [1], [1], 12), (90, [3], [], 0), (91, [3], [], 2000), (5000, [0, 1, 2], [0, 1], 22), (0, [0], [], 285), (0, [1], [], 285), (90, [2], [], 0), (91, [2], [], 2000)], (4000, [1, 21], [11], 117))
theorem c_221y_22_0 {q0 : Nat} : vOkm T0 (eN e_221w L_221y (eAB A_221 B_221) mu_221 y_221 By_221 (some q0)) 1 g_221y_22_0 := vOk_inI fun ρ η f0 f1 f2 f3 f4 f5 f6 f7 f8 f9 f10 f11 f12 f13 f14 f15 f16 f17 f18 f19 f20 f21 f22 f23 f24 f25 f26 f27 f28 f29 f30 f31 f32 f33 f34 f35 f36 f37 f38 f39 f40 f41 f42 f43 f44 f45 f46 f47 f48 f49 f50 f51 f52 => q_221y_2 (q0 := q0) (n0 := ρ 2) (n1 := ρ 1) (n2 := ρ 0) (n3 := ρ 3) (n4 := ρ 4) (n5 := ρ 5) (n6 := ρ 6) (n7 := ρ 7) (n8 := ρ 8) (n9 := ρ 9) (n10 := ρ 10) (n11 := ρ 11) (n12 := ρ 12) (n13 := ρ 13) (n14 := ρ 14) (n15 := ρ 15) (n16 := ρ 16) (n17 := ρ 17) (n18 := ρ 18) (n19 := ρ 19) (n20 := ρ 20) (n21 := ρ 21) (H0 := η 0) (H1 := η 1) (H2 := η 2) (H3 := η 3) (H4 := η 4) (H5 := η 5) (H6 := η 6) (H7 := η 7) (H8 := η 8) (H9 := η 9) (H10 := η 10) (H11 := η 11) f52 f51 f50 f49 f48 f47 f46 f45 f44 f43 f42 f41 f40 f39 f38 f37 f36 f35 f34 f33 f32 f31 f30 f29 f28 f27 f26 f25 f24 f23 f22 f21 f20 f19 f18 f17 f16 f15 f14 f13 f12 f11 f10 f9 f8 f7 f6 f5 f4 f3 f2 f1 f0
theorem q_221y_3 {q0 : Nat} {n0 n1 n2 n3 n4 n5 n6 n7 n8 n9 n10 n11 n12 n13 n14 n15 n16 n17 n18 n19 n20 n21 : Int} {H0 H1 H2 H3 H4 H5 H6 H7 H8 H9 H10 H11 : gH} (f0 : n0 ≤ 2000) (f1 : 0 ≤ n0) (f2 : n1 = 285) (f3 : n2 = 285) (f4 : (hLe T0 H0 H1 ∧ hFr s_221.2.2.2.2 H0 H1 ∧ hWt T0 H1) ∧ (((Ab_221_22 n2 n1 n0 H0 H1 ∧ Bb_221_22 n2 n1 n0 H0 H1) ∧ Byb_221_22 n2 n1 n0 H0 H1) ∧ preb_221 n2 H0) ∧ some q0 = some (mub_221_22 n2 n1 n0 H0 H1)) (f5 : n3 ≤ 2000) (f6 : 0 ≤ n3) (f7 : hK H1 (n1).toNat = 12) (f8 : n3 = hV H1 (n1).toNat 4) (f9 : n3 ≤ n0) (f10 : n4 = 0) (f11 : hK H1 (n1).toNat = 12) (f12 : n5 = 2) (f13 : hUpd H2 H1 n1 n5 n4) (f14 : (hLe T0 H2 H3 ∧ hFr s_214.2.2.2.2 H2 H3 ∧ ((0 : Int) = 0 → H3.length = H2.length) ∧ hWt T0 H3) ∧ (True ∧ nb_214 n1 H2 H3)) (f15 : n6 = 0) (f16 : hK H3 (n1).toNat = 12) (f17 : n7 = 11) (f18 : hUpd H4 H3 n1 n7 n6) (f19 : n8 = 0) (f20 : hK H4 (n1).toNat = 12) (f21 : n9 = 12) (f22 : hUpd H5 H4 n1 n9 n8) (f23 : n10 = 0) (f24 : hK H5 (n1).toNat = 12) (f25 : n11 = 13) (f26 : hUpd H6 H5 n1 n11 n10) (f27 : n12 = 0) (f28 : hK H6 (n1).toNat = 12) (f29 : n13 = 15) (f30 : hUpd H7 H6 n1 n13 n12) (f31 : n14 ≤ 8) (f32 : 0 ≤ n14) (f33 : hK H7 (n1).toNat = 12) (f34 : n14 = hV H7 (n1).toNat 18) (f35 : hK H7 (n1).toNat = 12) (f36 : n15 = 32) (f37 : hUpd H8 H7 n1 n15 n14) (f38 : n16 = 1) (f39 : n17 ≤ 1) (f40 : 0 ≤ n17) (f41 : hK H8 (n1).toNat = 12) (f42 : n17 = hV H8 (n1).toNat 34) (f43 : n18 = w32 (n16 - n17)) (f44 : hK H8 (n1).toNat = 12) (f45 : n19 = 35) (f46 : hUpd H9 H8 n1 n19 n18) (f47 : n20 = 23) (f48 : n21 ≤ 1) (f49 : 0 ≤ n21) (f50 : (hLe T0 H9 H10 ∧ hFr s_216.2.2.2.2 H9 H10 ∧ ((0 : Int) = 0 → H10.length = H9.length) ∧ hWt T0 H10) ∧ postb_216 n21 n1 n20 H9 H10) (f51 : n21 ≠ 0) (f52 : (hLe T0 H10 H11 ∧ hFr s_231.2.2.2.2 H10 H11 ∧ ((0 : Int) = 0 → H11.length = H10.length) ∧ hWt T0 H11) ∧ (postb_231 n1 H10 H11 ∧ nb_231 n1 H10 H11)) : Byb_221_117 n2 n1 n21 H0 H11 := by
  unfold Byb_221_117
  intro ky
  have ga := f4.2.1.1.1.2
  unfold Bb_221_22 at ga
  obtain ⟨sz, tp, xh, s18, h8, r293, cp⟩ := ga ky
  have d8 := rdS (q := 285) f8 f2
  have d34 := rdS (q := 285) f34 f2
  have d42 := rdS (q := 285) f42 f2
  have q9 := f9
  have q51 := f51
  have b2 : (0 : Int) ≤ hV H1 285 18 ∧ hV H1 285 18 ≤ 8 := f4.1.2.2 285 18 _ _ rW_18
  have k292 : hV H2 292 = hV H0 292 := (uRowNe f13 292 (by rw [f2]; decide)).trans (fRow f4.1.2.1 292 (by decide +kernel))
  have k287 : hV H2 287 = hV H1 287 := uRowNe f13 287 (by rw [f2]; decide)
  have k4 : hV H2 285 4 = hV H1 285 4 := uSlot f13 285 4 (by rw [f12]; decide)
  have c := f14.2.2 (fun q hq => by rw [k292]; exact ky q hq)
  have vw : pTx (BR H2) (hV H2 285 4) = (pTx (BT H0) (hV H0 285 2)) := by
    rw [k4, sz]
    refine pTx_congr (fun q hq => ?_)
    unfold BR BT
    rw [k287, cp q (by omega)]
  rw [vw] at c
  have tr := (TRs.trans (TRs_slot (s := 11) f18 f2 f17 (by decide)) (TRs.trans (TRs_slot (s := 12) f22 f2 f21 (by decide)) (TRs.trans (TRs_slot (s := 13) f26 f2 f25 (by decide)) (TRs.trans (TRs_slot (s := 15) f30 f2 f29 (by decide)) (TRs.trans (TRs_slot (s := 32) f37 f2 f36 (by decide)) (TRs_slot (s := 35) f46 f2 f45 (by decide)))))))
  have s11_ : hV H9 285 11 = 0 := ((uSlot f46 285 11 (by rw [f45]; decide)).trans ((uSlot f37 285 11 (by rw [f36]; decide)).trans ((uSlot f30 285 11 (by rw [f29]; decide)).trans ((uSlot f26 285 11 (by rw [f25]; decide)).trans ((uSlot f22 285 11 (by rw [f21]; decide)).trans (uSame f18 285 11 (by rw [f2]; rfl) (by rw [f17]; rfl))))))).trans f15
  have s13_ : hV H9 285 13 = 0 := ((uSlot f46 285 13 (by rw [f45]; decide)).trans ((uSlot f37 285 13 (by rw [f36]; decide)).trans ((uSlot f30 285 13 (by rw [f29]; decide)).trans (uSame f26 285 13 (by rw [f2]; rfl) (by rw [f25]; rfl))))).trans f23
  have s15_ : hV H9 285 15 = 0 := ((uSlot f46 285 15 (by rw [f45]; decide)).trans ((uSlot f37 285 15 (by rw [f36]; decide)).trans (uSame f30 285 15 (by rw [f2]; rfl) (by rw [f29]; rfl)))).trans f27
  have s14_ : hV H9 285 14 = hV H3 285 14 := (uSlot f46 285 14 (by rw [f45]; decide)).trans ((uSlot f37 285 14 (by rw [f36]; decide)).trans ((uSlot f30 285 14 (by rw [f29]; decide)).trans ((uSlot f26 285 14 (by rw [f25]; decide)).trans ((uSlot f22 285 14 (by rw [f21]; decide)).trans (uSlot f18 285 14 (by rw [f17]; decide))))))
  have b14_ := f14.1.2.2.2 285 14 _ _ rW_14
  have s16_ : hV H9 285 16 = hV H3 285 16 := (uSlot f46 285 16 (by rw [f45]; decide)).trans ((uSlot f37 285 16 (by rw [f36]; decide)).trans ((uSlot f30 285 16 (by rw [f29]; decide)).trans ((uSlot f26 285 16 (by rw [f25]; decide)).trans ((uSlot f22 285 16 (by rw [f21]; decide)).trans (uSlot f18 285 16 (by rw [f17]; decide))))))
  have b16_ := f14.1.2.2.2 285 16 _ _ rW_16
  have rn := RI_new (TR_of tr c.1) s11_ s13_ s15_ (by omega) (by omega)
  have vi : vwR H9 = (pTx (BT H0) (hV H0 285 2)) := (TRs_v tr).trans c.2
  have pp := PR_fr f50.1.2.1 (by decide +kernel) rn.1
  have ii := f50.2
  unfold postb_216 at ii
  rw [f47] at ii
  have io := isR_or (k := 23) pp.2.2.1 (by decide) ii
  rw [pp.2.1, pp.1, vi, rn.2, kmc_23] at io
  have ic := f51
  have y2 : hV H11 285 2 = n4 := (f52.1.2.1.1 285 2 (by decide +kernel)).trans ((f50.1.2.1.1 285 2 (by decide +kernel)).trans ((uSlot f46 285 2 (by rw [f45]; decide)).trans ((uSlot f37 285 2 (by rw [f36]; decide)).trans ((uSlot f30 285 2 (by rw [f29]; decide)).trans ((uSlot f26 285 2 (by rw [f25]; decide)).trans ((uSlot f22 285 2 (by rw [f21]; decide)).trans ((uSlot f18 285 2 (by rw [f17]; decide)).trans ((f14.1.2.1.1 285 2 (by decide +kernel)).trans (uSame f13 285 2 (by rw [f2]; rfl) (by rw [f12]; rfl))))))))))
  have y18 : hV H11 285 18 = hV H1 285 18 := (f52.1.2.1.1 285 18 (by decide +kernel)).trans ((f50.1.2.1.1 285 18 (by decide +kernel)).trans ((uSlot f46 285 18 (by rw [f45]; decide)).trans ((uSlot f37 285 18 (by rw [f36]; decide)).trans ((uSlot f30 285 18 (by rw [f29]; decide)).trans ((uSlot f26 285 18 (by rw [f25]; decide)).trans ((uSlot f22 285 18 (by rw [f21]; decide)).trans ((uSlot f18 285 18 (by rw [f17]; decide)).trans ((f14.1.2.1.1 285 18 (by decide +kernel)).trans (uSlot f13 285 18 (by rw [f12]; decide))))))))))
  have v2 := f10
  have q293 : hV H11 293 = hV H1 293 := (fRow f52.1.2.1 293 (by decide +kernel)).trans ((fRow f50.1.2.1 293 (by decide +kernel)).trans ((uRowNe f46 293 (by rw [f2]; decide)).trans ((uRowNe f37 293 (by rw [f2]; decide)).trans ((uRowNe f30 293 (by rw [f2]; decide)).trans ((uRowNe f26 293 (by rw [f2]; decide)).trans ((uRowNe f22 293 (by rw [f2]; decide)).trans ((uRowNe f18 293 (by rw [f2]; decide)).trans ((fRow f14.1.2.1 293 (by decide +kernel)).trans (uRowNe f13 293 (by rw [f2]; decide))))))))))
  have kd := io.resolve_right (fun w => ic w.1)
  have n := f52.2.2 pp.2.2.1 (by rw [pp.2.1, pp.1, vi, rn.2]; exact kd.2)
  rw [pp.2.1, pp.1, vi, rn.2] at n
  have ve : vwR H11 = (pTx (BT H0) (hV H0 285 2)) := (vwR_fr f52.1.2.1 (by decide +kernel)).trans (pp.2.1.trans vi)
  have gy := f4.2.1.1.2
  unfold Byb_221_22 at gy
  obtain ⟨y8, y6⟩ := gy ky
  have p296 : hV H11 296 = hV H1 296 := (fRow f52.1.2.1 296 (by decide +kernel)).trans ((fRow f50.1.2.1 296 (by decide +kernel)).trans ((uRowNe f46 296 (by rw [f2]; decide)).trans ((uRowNe f37 296 (by rw [f2]; decide)).trans ((uRowNe f30 296 (by rw [f2]; decide)).trans ((uRowNe f26 296 (by rw [f2]; decide)).trans ((uRowNe f22 296 (by rw [f2]; decide)).trans ((uRowNe f18 296 (by rw [f2]; decide)).trans ((fRow f14.1.2.1 296 (by decide +kernel)).trans (uRowNe f13 296 (by rw [f2]; decide))))))))))
  exact ⟨CRl_8 (CR8_tr y8 (CR8_tr (CR8_lo (q := 285) f13 f2 (by decide)) (CR8_tr (CR8_fr f14.1.2.1 (by decide +kernel)) (CR8_tr (CR8_lo (q := 285) f18 f2 (by decide)) (CR8_tr (CR8_lo (q := 285) f22 f2 (by decide)) (CR8_tr (CR8_lo (q := 285) f26 f2 (by decide)) (CR8_tr (CR8_lo (q := 285) f30 f2 (by decide)) (CR8_tr (CR8_lo (q := 285) f37 f2 (by decide)) (CR8_tr (CR8_lo (q := 285) f46 f2 (by decide)) (CR8_tr (CR8_fr f50.1.2.1 (by decide +kernel)) (CR8_fr f52.1.2.1 (by decide +kernel)))))))))))), fun k _ => by rw [p296, y6], fun c => by exfalso; omega⟩
def g_221y_22_1 : vG := ([(1231, [1], [10, 11], 0), (31, [21], [], 0), (1216, [21, 1, 20], [9, 10], 0), (90, [21], [], 0), (91, [21], [], 1), (0, [20], [], 23), (80, [1, 19, 18], [9, 8], 0), (0, [19], [], 35), (23, [1], [8], 12), (2, [18, 16, 17], [], 0), (20, [17, 1], [8], 34), (23, [1], [8], 12), (90, [17], [], 0), (91, [17], [], 1), (0, [16], [], 1), (80, [1, 15, 14], [8, 7], 0), (0, [15], [], 32), (23, [1], [7], 12), (20, [14, 1], [7], 18), (23, [1], [7], 12), (90, [14], [], 0), (91, [14], [], 8), (80, [1, 13, 12], [7, 6], 0), (0, [13], [], 15), (23, [1], [6], 12), (0, [12], [], 0), (80, [1, 11, 10], [6, 5], 0), (0, [11], [], 13), (23, [1], [5], 12), (0, [10], [], 0), (80, [1, 9, 8], [5, 4], 0), (0, [9], [], 12), (23, [1], [4], 12), (0, [8], [], 0), (80, [1, 7, 6], [4, 3], 0), (0, [7], [], 11), (23, [1], [3], 12), (0, [6], [], 0), (1214, [1], [2, 3], 0), (80, [1, 5, 4], [2, 1], 0), (0, [5], [], 2), (23, [1], [1], 12), (0, [4], [], 0), (43, [2, 3], [], 0), (20, [3, 1], [1], 4), (23, [1], [1], 12), (90, [3], [], 0), (91, [3], [], 2000), (5000, [0, 1, 2], [0, 1], 22), (0, [0], [], 285), (0, [1], [], 285), (90, [2], [], 0), (91, [2], [], 2000)], (4000, [1, 21], [11], 117))
theorem c_221y_22_1 {q0 : Nat} : vOkm T0 (eN e_221w L_221y (eAB A_221 B_221) mu_221 y_221 By_221 (some q0)) 1 g_221y_22_1 := vOk_inI fun ρ η f0 f1 f2 f3 f4 f5 f6 f7 f8 f9 f10 f11 f12 f13 f14 f15 f16 f17 f18 f19 f20 f21 f22 f23 f24 f25 f26 f27 f28 f29 f30 f31 f32 f33 f34 f35 f36 f37 f38 f39 f40 f41 f42 f43 f44 f45 f46 f47 f48 f49 f50 f51 f52 => q_221y_3 (q0 := q0) (n0 := ρ 2) (n1 := ρ 1) (n2 := ρ 0) (n3 := ρ 3) (n4 := ρ 4) (n5 := ρ 5) (n6 := ρ 6) (n7 := ρ 7) (n8 := ρ 8) (n9 := ρ 9) (n10 := ρ 10) (n11 := ρ 11) (n12 := ρ 12) (n13 := ρ 13) (n14 := ρ 14) (n15 := ρ 15) (n16 := ρ 16) (n17 := ρ 17) (n18 := ρ 18) (n19 := ρ 19) (n20 := ρ 20) (n21 := ρ 21) (H0 := η 0) (H1 := η 1) (H2 := η 2) (H3 := η 3) (H4 := η 4) (H5 := η 5) (H6 := η 6) (H7 := η 7) (H8 := η 8) (H9 := η 9) (H10 := η 10) (H11 := η 11) f52 f51 f50 f49 f48 f47 f46 f45 f44 f43 f42 f41 f40 f39 f38 f37 f36 f35 f34 f33 f32 f31 f30 f29 f28 f27 f26 f25 f24 f23 f22 f21 f20 f19 f18 f17 f16 f15 f14 f13 f12 f11 f10 f9 f8 f7 f6 f5 f4 f3 f2 f1 f0
theorem q_221y_4 {q0 : Nat} {n0 n1 n2 n3 n4 n5 n6 n7 n8 : Int} {H0 H1 H2 : gH} (f0 : n0 ≤ 2000) (f1 : 0 ≤ n0) (f2 : n1 = 285) (f3 : n2 = 285) (f4 : (hLe T0 H0 H1 ∧ hFr s_221.2.2.2.2 H0 H1 ∧ hWt T0 H1) ∧ (((Ab_221_22 n2 n1 n0 H0 H1 ∧ Bb_221_22 n2 n1 n0 H0 H1) ∧ Byb_221_22 n2 n1 n0 H0 H1) ∧ preb_221 n2 H0) ∧ some q0 = some (mub_221_22 n2 n1 n0 H0 H1)) (f5 : n3 ≤ 2000) (f6 : 0 ≤ n3) (f7 : hK H1 (n1).toNat = 12) (f8 : n3 = hV H1 (n1).toNat 4) (f9 : n0 < n3) (f10 : n4 = 287) (f11 : hK H1 (n1).toNat = 12) (f12 : n4 = hV H1 (n1).toNat 3) (f13 : n5 = 286) (f14 : hK H1 (n1).toNat = 12) (f15 : n5 = hV H1 (n1).toNat 1) (f16 : n6 ≤ 127) (f17 : (-128) ≤ n6) (f18 : n6 = hV H1 (n5).toNat (n0).toNat) (f19 : n7 = o32 (fun x _ => x.toInt8.toInt32) n6 0) (f20 : hK H1 (n4).toNat = 126) (f21 : hUpd H2 H1 n4 n0 n7) (f22 : n8 = w32 (n0 + 1)) : Byb_221_22 n2 n1 n8 H0 H2 := by
  unfold Byb_221_22
  intro ky
  have gy := f4.2.1.1.2
  unfold Byb_221_22 at gy
  obtain ⟨y8, y6⟩ := gy ky
  have p296 : hV H2 296 = hV H1 296 := uRowNe f21 296 (by rw [f10]; decide)
  exact ⟨CR8_tr y8 (CR8_lo (q := 287) f21 f10 (by decide)), p296.trans y6⟩
def g_221y_22_2 : vG := ([(10, [8, 2], [], 1), (80, [4, 2, 7], [2, 1], 0), (23, [4], [1], 126), (15, [7, 6], [], 0), (22, [6, 5, 2], [1], 0), (90, [6], [], -128), (91, [6], [], 127), (20, [5, 1], [1], 1), (23, [1], [1], 12), (0, [5], [], 286), (20, [4, 1], [1], 3), (23, [1], [1], 12), (0, [4], [], 287), (42, [2, 3], [], 0), (20, [3, 1], [1], 4), (23, [1], [1], 12), (90, [3], [], 0), (91, [3], [], 2000), (5000, [0, 1, 2], [0, 1], 22), (0, [0], [], 285), (0, [1], [], 285), (90, [2], [], 0), (91, [2], [], 2000)], (4000, [1, 8], [2], 22))
theorem c_221y_22_2 {q0 : Nat} : vOkm T0 (eN e_221w L_221y (eAB A_221 B_221) mu_221 y_221 By_221 (some q0)) 1 g_221y_22_2 := vOk_inI fun ρ η f0 f1 f2 f3 f4 f5 f6 f7 f8 f9 f10 f11 f12 f13 f14 f15 f16 f17 f18 f19 f20 f21 f22 => q_221y_4 (q0 := q0) (n0 := ρ 2) (n1 := ρ 1) (n2 := ρ 0) (n3 := ρ 3) (n4 := ρ 4) (n5 := ρ 5) (n6 := ρ 6) (n7 := ρ 7) (n8 := ρ 8) (H0 := η 0) (H1 := η 1) (H2 := η 2) f22 f21 f20 f19 f18 f17 f16 f15 f14 f13 f12 f11 f10 f9 f8 f7 f6 f5 f4 f3 f2 f1 f0
def p_221y_22 : List vG := [g_221y_22_0,
  g_221y_22_1,
  g_221y_22_2]
theorem r_221y_22 : vCovBO (eRc e_221w L_221w cs_221 2000 (22, [(0, (3, 12, 285, 0)), (1, (0, 0, 2000, 0))])) p_221y_22 = true := by decide +kernel
theorem q_221y_5 {q0 : Nat} {n0 n1 n2 n3 n4 n5 n6 n7 : Int} {H0 H1 H2 : gH} (f0 : n0 ≤ 1) (f1 : 0 ≤ n0) (f2 : n1 = 285) (f3 : n2 = 285) (f4 : (hLe T0 H0 H1 ∧ hFr s_221.2.2.2.2 H0 H1 ∧ hWt T0 H1) ∧ (((Ab_221_117 n2 n1 n0 H0 H1 ∧ Bb_221_117 n2 n1 n0 H0 H1) ∧ Byb_221_117 n2 n1 n0 H0 H1) ∧ preb_221 n2 H0) ∧ some q0 = some (mub_221_117 n2 n1 n0 H0 H1)) (f5 : n3 ≤ 2) (f6 : 0 ≤ n3) (f7 : hK H1 (n1).toNat = 12) (f8 : n3 = hV H1 (n1).toNat 13) (f9 : n3 ≠ 0) (f10 : n4 ≤ 2) (f11 : 0 ≤ n4) (f12 : hK H1 (n1).toNat = 12) (f13 : n4 = hV H1 (n1).toNat 13) (f14 : n4 ≤ 0) (f15 : n5 ≤ 6) (f16 : 0 ≤ n5) (f17 : hK H1 (n1).toNat = 12) (f18 : n5 = hV H1 (n1).toNat 15) (f19 : n5 ≤ 0) (f20 : n6 = (-1)) (f21 : hK H1 (n1).toNat = 12) (f22 : n7 = 17) (f23 : hUpd H2 H1 n1 n7 n6) : Byb_221_170 n2 n1 n0 H0 H2 := by
  exfalso
  clear f0 f1 f2 f3 f4 f5 f6 f7 f10 f12 f15 f16 f17 f18 f19 f20 f21 f22 f23
  omega
def g_221y_117_0 : vG := ([(80, [1, 7, 6], [2, 1], 0), (0, [7], [], 17), (23, [1], [1], 12), (0, [6], [], -1), (35, [5], [], 0), (20, [5, 1], [1], 15), (23, [1], [1], 12), (90, [5], [], 0), (91, [5], [], 6), (35, [4], [], 0), (20, [4, 1], [1], 13), (23, [1], [1], 12), (90, [4], [], 0), (91, [4], [], 2), (31, [3], [], 0), (20, [3, 1], [1], 13), (23, [1], [1], 12), (90, [3], [], 0), (91, [3], [], 2), (5000, [0, 1, 2], [0, 1], 117), (0, [0], [], 285), (0, [1], [], 285), (90, [2], [], 0), (91, [2], [], 1)], (4000, [1, 2], [2], 170))
theorem c_221y_117_0 {q0 : Nat} : vOkm T0 (eN e_221w L_221y (eAB A_221 B_221) mu_221 y_221 By_221 (some q0)) 1 g_221y_117_0 := vOk_inI fun ρ η f0 f1 f2 f3 f4 f5 f6 f7 f8 f9 f10 f11 f12 f13 f14 f15 f16 f17 f18 f19 f20 f21 f22 f23 => q_221y_5 (q0 := q0) (n0 := ρ 2) (n1 := ρ 1) (n2 := ρ 0) (n3 := ρ 3) (n4 := ρ 4) (n5 := ρ 5) (n6 := ρ 6) (n7 := ρ 7) (H0 := η 0) (H1 := η 1) (H2 := η 2) f23 f22 f21 f20 f19 f18 f17 f16 f15 f14 f13 f12 f11 f10 f9 f8 f7 f6 f5 f4 f3 f2 f1 f0
theorem q_221y_6 {q0 : Nat} {n0 n1 n2 n3 n4 n5 n6 n7 : Int} {H0 H1 H2 : gH} (f0 : n0 ≤ 1) (f1 : 0 ≤ n0) (f2 : n1 = 285) (f3 : n2 = 285) (f4 : (hLe T0 H0 H1 ∧ hFr s_221.2.2.2.2 H0 H1 ∧ hWt T0 H1) ∧ (((Ab_221_117 n2 n1 n0 H0 H1 ∧ Bb_221_117 n2 n1 n0 H0 H1) ∧ Byb_221_117 n2 n1 n0 H0 H1) ∧ preb_221 n2 H0) ∧ some q0 = some (mub_221_117 n2 n1 n0 H0 H1)) (f5 : n3 ≤ 2) (f6 : 0 ≤ n3) (f7 : hK H1 (n1).toNat = 12) (f8 : n3 = hV H1 (n1).toNat 13) (f9 : n3 ≠ 0) (f10 : n4 ≤ 2) (f11 : 0 ≤ n4) (f12 : hK H1 (n1).toNat = 12) (f13 : n4 = hV H1 (n1).toNat 13) (f14 : n4 ≤ 0) (f15 : n5 ≤ 6) (f16 : 0 ≤ n5) (f17 : hK H1 (n1).toNat = 12) (f18 : n5 = hV H1 (n1).toNat 15) (f19 : 0 < n5) (f20 : n6 ≤ 2000) (f21 : 0 ≤ n6) (f22 : hK H1 (n1).toNat = 12) (f23 : n6 = hV H1 (n1).toNat 16) (f24 : hK H1 (n1).toNat = 12) (f25 : n7 = 17) (f26 : hUpd H2 H1 n1 n7 n6) : Byb_221_170 n2 n1 n0 H0 H2 := by
  exfalso
  clear f0 f1 f2 f3 f4 f5 f6 f7 f10 f12 f15 f16 f17 f18 f19 f20 f21 f22 f23 f24 f25 f26
  omega
def g_221y_117_1 : vG := ([(80, [1, 7, 6], [2, 1], 0), (0, [7], [], 17), (23, [1], [1], 12), (20, [6, 1], [1], 16), (23, [1], [1], 12), (90, [6], [], 0), (91, [6], [], 2000), (34, [5], [], 0), (20, [5, 1], [1], 15), (23, [1], [1], 12), (90, [5], [], 0), (91, [5], [], 6), (35, [4], [], 0), (20, [4, 1], [1], 13), (23, [1], [1], 12), (90, [4], [], 0), (91, [4], [], 2), (31, [3], [], 0), (20, [3, 1], [1], 13), (23, [1], [1], 12), (90, [3], [], 0), (91, [3], [], 2), (5000, [0, 1, 2], [0, 1], 117), (0, [0], [], 285), (0, [1], [], 285), (90, [2], [], 0), (91, [2], [], 1)], (4000, [1, 2], [2], 170))
theorem c_221y_117_1 {q0 : Nat} : vOkm T0 (eN e_221w L_221y (eAB A_221 B_221) mu_221 y_221 By_221 (some q0)) 1 g_221y_117_1 := vOk_inI fun ρ η f0 f1 f2 f3 f4 f5 f6 f7 f8 f9 f10 f11 f12 f13 f14 f15 f16 f17 f18 f19 f20 f21 f22 f23 f24 f25 f26 => q_221y_6 (q0 := q0) (n0 := ρ 2) (n1 := ρ 1) (n2 := ρ 0) (n3 := ρ 3) (n4 := ρ 4) (n5 := ρ 5) (n6 := ρ 6) (n7 := ρ 7) (H0 := η 0) (H1 := η 1) (H2 := η 2) f26 f25 f24 f23 f22 f21 f20 f19 f18 f17 f16 f15 f14 f13 f12 f11 f10 f9 f8 f7 f6 f5 f4 f3 f2 f1 f0
theorem q_221y_7 {q0 : Nat} {n0 n1 n2 n3 n4 n5 n6 : Int} {H0 H1 H2 : gH} (f0 : n0 ≤ 1) (f1 : 0 ≤ n0) (f2 : n1 = 285) (f3 : n2 = 285) (f4 : (hLe T0 H0 H1 ∧ hFr s_221.2.2.2.2 H0 H1 ∧ hWt T0 H1) ∧ (((Ab_221_117 n2 n1 n0 H0 H1 ∧ Bb_221_117 n2 n1 n0 H0 H1) ∧ Byb_221_117 n2 n1 n0 H0 H1) ∧ preb_221 n2 H0) ∧ some q0 = some (mub_221_117 n2 n1 n0 H0 H1)) (f5 : n3 ≤ 2) (f6 : 0 ≤ n3) (f7 : hK H1 (n1).toNat = 12) (f8 : n3 = hV H1 (n1).toNat 13) (f9 : n3 ≠ 0) (f10 : n4 ≤ 2) (f11 : 0 ≤ n4) (f12 : hK H1 (n1).toNat = 12) (f13 : n4 = hV H1 (n1).toNat 13) (f14 : 0 < n4) (f15 : n5 ≤ 2000) (f16 : 0 ≤ n5) (f17 : hK H1 (n1).toNat = 12) (f18 : n5 = hV H1 (n1).toNat 14) (f19 : hK H1 (n1).toNat = 12) (f20 : n6 = 17) (f21 : hUpd H2 H1 n1 n6 n5) : Byb_221_170 n2 n1 n0 H0 H2 := by
  unfold Byb_221_170
  intro ky
  have ga := f4.2.1.1.1.2
  unfold Bb_221_117 at ga
  obtain ⟨z1, vz, a1, kx, tp, s18, h8, r293⟩ := ga ky
  have d8 := rdS (q := 285) f8 f2
  have d13 := rdS (q := 285) f13 f2
  have d18 := rdS (q := 285) f18 f2
  have q9 := f9
  have q14 := f14
  have b2 : (0 : Int) ≤ hV H1 285 18 ∧ hV H1 285 18 ≤ 8 := f4.1.2.2 285 18 _ _ rW_18
  have lo1 := z1.2.2.2.1
  have lo5 := z1.2.2.2.2.2.2.1
  have pw : hV H2 285 17 = n5 := uSame f21 285 17 (by rw [f2]; rfl) (by rw [f20]; rfl)
  have st : RI H1 ∧ absR H1 = pRead (pTx (BT H0) (hV H0 285 2)) := ⟨z1, by
    have hn := absR_neg z1 (by omega)
    unfold pRead pEnd
    rw [← a1, ← vz, vwR_ok H1 _ hn, if_neg (by decide), pfail_neg hn (absR_ok z1)]⟩
  have l3 := st.1.2.2.2.1
  have l5 := st.1.2.2.2.2.2.2.1
  have pq := PR_slot (s := 17) f21 f2 f20 (by decide) st.1
  have y2 : hV H2 285 2 = hV H1 285 2 := uSlot f21 285 2 (by rw [f20]; decide)
  have y18 : hV H2 285 18 = hV H1 285 18 := uSlot f21 285 18 (by rw [f20]; decide)
  have q293 : hV H2 293 = hV H1 293 := uRowNe f21 293 (by rw [f2]; decide)
  have gy := f4.2.1.1.2
  unfold Byb_221_117 at gy
  obtain ⟨y1, y2, y3⟩ := gy ky
  have e8 : CR8 H1 H2 := (CR8_lo (q := 285) f21 f2 (by decide))
  have h294 : hV H2 294 = hV H1 294 := uRowNe f21 294 (by rw [f2]; decide)
  have h295 : hV H2 295 = hV H1 295 := uRowNe f21 295 (by rw [f2]; decide)
  have h296 : hV H2 296 = hV H1 296 := uRowNe f21 296 (by rw [f2]; decide)
  have h297 : hV H2 297 = hV H1 297 := uRowNe f21 297 (by rw [f2]; decide)
  refine ⟨CRl_tr y1 (CRl_8 e8), fun k hk => by rw [h296]; exact y2 k hk, fun hx hf => ?_⟩
  have w := y3 hx ((uSlot f21 285 13 (by rw [f20]; decide)).symm.trans hf)
  exact ⟨FIR_same e8 (uSlot f21 285 32 (by rw [f20]; decide)) h294 h295 h296 h297 w.1, fun hw => ZP_same e8 h294 h296 h297 (w.2 ((uSlot f21 285 15 (by rw [f20]; decide)).symm.trans hw))⟩
def g_221y_117_2 : vG := ([(80, [1, 6, 5], [2, 1], 0), (0, [6], [], 17), (23, [1], [1], 12), (20, [5, 1], [1], 14), (23, [1], [1], 12), (90, [5], [], 0), (91, [5], [], 2000), (34, [4], [], 0), (20, [4, 1], [1], 13), (23, [1], [1], 12), (90, [4], [], 0), (91, [4], [], 2), (31, [3], [], 0), (20, [3, 1], [1], 13), (23, [1], [1], 12), (90, [3], [], 0), (91, [3], [], 2), (5000, [0, 1, 2], [0, 1], 117), (0, [0], [], 285), (0, [1], [], 285), (90, [2], [], 0), (91, [2], [], 1)], (4000, [1, 2], [2], 170))
theorem c_221y_117_2 {q0 : Nat} : vOkm T0 (eN e_221w L_221y (eAB A_221 B_221) mu_221 y_221 By_221 (some q0)) 1 g_221y_117_2 := vOk_inI fun ρ η f0 f1 f2 f3 f4 f5 f6 f7 f8 f9 f10 f11 f12 f13 f14 f15 f16 f17 f18 f19 f20 f21 => q_221y_7 (q0 := q0) (n0 := ρ 2) (n1 := ρ 1) (n2 := ρ 0) (n3 := ρ 3) (n4 := ρ 4) (n5 := ρ 5) (n6 := ρ 6) (H0 := η 0) (H1 := η 1) (H2 := η 2) f21 f20 f19 f18 f17 f16 f15 f14 f13 f12 f11 f10 f9 f8 f7 f6 f5 f4 f3 f2 f1 f0
theorem q_221y_8 {q0 : Nat} {n0 n1 n2 n3 n4 n5 n6 n7 n8 n9 : Int} {H0 H1 H2 H3 : gH} (f0 : n0 ≤ 1) (f1 : 0 ≤ n0) (f2 : n1 = 285) (f3 : n2 = 285) (f4 : (hLe T0 H0 H1 ∧ hFr s_221.2.2.2.2 H0 H1 ∧ hWt T0 H1) ∧ (((Ab_221_117 n2 n1 n0 H0 H1 ∧ Bb_221_117 n2 n1 n0 H0 H1) ∧ Byb_221_117 n2 n1 n0 H0 H1) ∧ preb_221 n2 H0) ∧ some q0 = some (mub_221_117 n2 n1 n0 H0 H1)) (f5 : n3 ≤ 2) (f6 : 0 ≤ n3) (f7 : hK H1 (n1).toNat = 12) (f8 : n3 = hV H1 (n1).toNat 13) (f9 : n3 = 0) (f10 : n4 = 0) (f11 : n5 ≤ 1) (f12 : 0 ≤ n5) (f13 : (hLe T0 H1 H2 ∧ hFr s_216.2.2.2.2 H1 H2 ∧ ((0 : Int) = 0 → H2.length = H1.length) ∧ hWt T0 H2) ∧ postb_216 n5 n1 n4 H1 H2) (f14 : n5 ≠ 0) (f15 : n6 ≤ 2) (f16 : 0 ≤ n6) (f17 : hK H2 (n1).toNat = 12) (f18 : n6 = hV H2 (n1).toNat 13) (f19 : n6 ≤ 0) (f20 : n7 ≤ 6) (f21 : 0 ≤ n7) (f22 : hK H2 (n1).toNat = 12) (f23 : n7 = hV H2 (n1).toNat 15) (f24 : n7 ≤ 0) (f25 : n8 = (-1)) (f26 : hK H2 (n1).toNat = 12) (f27 : n9 = 17) (f28 : hUpd H3 H2 n1 n9 n8) : Byb_221_170 n2 n1 n0 H0 H3 := by
  unfold Byb_221_170
  intro ky
  have ga := f4.2.1.1.1.2
  unfold Bb_221_117 at ga
  obtain ⟨z1, vz, a1, kx, tp, s18, h8, r293⟩ := ga ky
  have d8 := rdS (q := 285) f8 f2
  have d18 := rdS (q := 285) f18 f2
  have d23 := rdS (q := 285) f23 f2
  have q9 := f9
  have q14 := f14
  have q19 := f19
  have q24 := f24
  have b2 : (0 : Int) ≤ hV H1 285 18 ∧ hV H1 285 18 ≤ 8 := f4.1.2.2 285 18 _ _ rW_18
  have lo1 := z1.2.2.2.1
  have lo5 := z1.2.2.2.2.2.2.1
  have pw : hV H3 285 17 = n8 := uSame f28 285 17 (by rw [f2]; rfl) (by rw [f27]; rfl)
  have pv := f25
  have pp := PR_fr f13.1.2.1 (by decide +kernel) z1
  have ii := f13.2
  unfold postb_216 at ii
  rw [f10] at ii
  have io := isR_or (k := 0) pp.2.2.1 (by decide) ii
  rw [pp.2.1, pp.1, vz, kmc_0] at io
  have ic := f14
  have kd := (io.resolve_right (fun w => ic w.1)).2
  have st : RI H2 ∧ absR H2 = pRead (pTx (BT H0) (hV H0 285 2)) := ⟨pp.2.2.1, by
    rw [pp.1]
    unfold pRead pEnd
    rw [← a1, if_pos kd]⟩
  have l3 := st.1.2.2.2.1
  have l5 := st.1.2.2.2.2.2.2.1
  have pq := PR_slot (s := 17) f28 f2 f27 (by decide) st.1
  have h13 : hV H2 285 13 = hV H1 285 13 := f13.1.2.1.1 285 13 (by decide +kernel)
  have y2 : hV H3 285 2 = hV H1 285 2 := (uSlot f28 285 2 (by rw [f27]; decide)).trans (f13.1.2.1.1 285 2 (by decide +kernel))
  have y18 : hV H3 285 18 = hV H1 285 18 := (uSlot f28 285 18 (by rw [f27]; decide)).trans (f13.1.2.1.1 285 18 (by decide +kernel))
  have q293 : hV H3 293 = hV H1 293 := (uRowNe f28 293 (by rw [f2]; decide)).trans (fRow f13.1.2.1 293 (by decide +kernel))
  have gy := f4.2.1.1.2
  unfold Byb_221_117 at gy
  obtain ⟨y1, y2, y3⟩ := gy ky
  have e8 : CR8 H1 H3 := (CR8_tr (CR8_fr f13.1.2.1 (by decide +kernel)) (CR8_lo (q := 285) f28 f2 (by decide)))
  have h294 : hV H3 294 = hV H1 294 := (uRowNe f28 294 (by rw [f2]; decide)).trans (fRow f13.1.2.1 294 (by decide +kernel))
  have h295 : hV H3 295 = hV H1 295 := (uRowNe f28 295 (by rw [f2]; decide)).trans (fRow f13.1.2.1 295 (by decide +kernel))
  have h296 : hV H3 296 = hV H1 296 := (uRowNe f28 296 (by rw [f2]; decide)).trans (fRow f13.1.2.1 296 (by decide +kernel))
  have h297 : hV H3 297 = hV H1 297 := (uRowNe f28 297 (by rw [f2]; decide)).trans (fRow f13.1.2.1 297 (by decide +kernel))
  refine ⟨CRl_tr y1 (CRl_8 e8), fun k hk => by rw [h296]; exact y2 k hk, fun hx hf => ?_⟩
  have w := y3 hx (((uSlot f28 285 13 (by rw [f27]; decide)).trans (f13.1.2.1.1 285 13 (by decide +kernel))).symm.trans hf)
  exact ⟨FIR_same e8 ((uSlot f28 285 32 (by rw [f27]; decide)).trans (f13.1.2.1.1 285 32 (by decide +kernel))) h294 h295 h296 h297 w.1, fun hw => ZP_same e8 h294 h296 h297 (w.2 (((uSlot f28 285 15 (by rw [f27]; decide)).trans (f13.1.2.1.1 285 15 (by decide +kernel))).symm.trans hw))⟩
def g_221y_117_3 : vG := ([(80, [1, 9, 8], [3, 2], 0), (0, [9], [], 17), (23, [1], [2], 12), (0, [8], [], -1), (35, [7], [], 0), (20, [7, 1], [2], 15), (23, [1], [2], 12), (90, [7], [], 0), (91, [7], [], 6), (35, [6], [], 0), (20, [6, 1], [2], 13), (23, [1], [2], 12), (90, [6], [], 0), (91, [6], [], 2), (31, [5], [], 0), (1216, [5, 1, 4], [1, 2], 0), (90, [5], [], 0), (91, [5], [], 1), (0, [4], [], 0), (30, [3], [], 0), (20, [3, 1], [1], 13), (23, [1], [1], 12), (90, [3], [], 0), (91, [3], [], 2), (5000, [0, 1, 2], [0, 1], 117), (0, [0], [], 285), (0, [1], [], 285), (90, [2], [], 0), (91, [2], [], 1)], (4000, [1, 2], [3], 170))
theorem c_221y_117_3 {q0 : Nat} : vOkm T0 (eN e_221w L_221y (eAB A_221 B_221) mu_221 y_221 By_221 (some q0)) 1 g_221y_117_3 := vOk_inI fun ρ η f0 f1 f2 f3 f4 f5 f6 f7 f8 f9 f10 f11 f12 f13 f14 f15 f16 f17 f18 f19 f20 f21 f22 f23 f24 f25 f26 f27 f28 => q_221y_8 (q0 := q0) (n0 := ρ 2) (n1 := ρ 1) (n2 := ρ 0) (n3 := ρ 3) (n4 := ρ 4) (n5 := ρ 5) (n6 := ρ 6) (n7 := ρ 7) (n8 := ρ 8) (n9 := ρ 9) (H0 := η 0) (H1 := η 1) (H2 := η 2) (H3 := η 3) f28 f27 f26 f25 f24 f23 f22 f21 f20 f19 f18 f17 f16 f15 f14 f13 f12 f11 f10 f9 f8 f7 f6 f5 f4 f3 f2 f1 f0
theorem q_221y_9 {q0 : Nat} {n0 n1 n2 n3 n4 n5 n6 n7 n8 n9 : Int} {H0 H1 H2 H3 : gH} (f0 : n0 ≤ 1) (f1 : 0 ≤ n0) (f2 : n1 = 285) (f3 : n2 = 285) (f4 : (hLe T0 H0 H1 ∧ hFr s_221.2.2.2.2 H0 H1 ∧ hWt T0 H1) ∧ (((Ab_221_117 n2 n1 n0 H0 H1 ∧ Bb_221_117 n2 n1 n0 H0 H1) ∧ Byb_221_117 n2 n1 n0 H0 H1) ∧ preb_221 n2 H0) ∧ some q0 = some (mub_221_117 n2 n1 n0 H0 H1)) (f5 : n3 ≤ 2) (f6 : 0 ≤ n3) (f7 : hK H1 (n1).toNat = 12) (f8 : n3 = hV H1 (n1).toNat 13) (f9 : n3 = 0) (f10 : n4 = 0) (f11 : n5 ≤ 1) (f12 : 0 ≤ n5) (f13 : (hLe T0 H1 H2 ∧ hFr s_216.2.2.2.2 H1 H2 ∧ ((0 : Int) = 0 → H2.length = H1.length) ∧ hWt T0 H2) ∧ postb_216 n5 n1 n4 H1 H2) (f14 : n5 ≠ 0) (f15 : n6 ≤ 2) (f16 : 0 ≤ n6) (f17 : hK H2 (n1).toNat = 12) (f18 : n6 = hV H2 (n1).toNat 13) (f19 : n6 ≤ 0) (f20 : n7 ≤ 6) (f21 : 0 ≤ n7) (f22 : hK H2 (n1).toNat = 12) (f23 : n7 = hV H2 (n1).toNat 15) (f24 : 0 < n7) (f25 : n8 ≤ 2000) (f26 : 0 ≤ n8) (f27 : hK H2 (n1).toNat = 12) (f28 : n8 = hV H2 (n1).toNat 16) (f29 : hK H2 (n1).toNat = 12) (f30 : n9 = 17) (f31 : hUpd H3 H2 n1 n9 n8) : Byb_221_170 n2 n1 n0 H0 H3 := by
  unfold Byb_221_170
  intro ky
  have ga := f4.2.1.1.1.2
  unfold Bb_221_117 at ga
  obtain ⟨z1, vz, a1, kx, tp, s18, h8, r293⟩ := ga ky
  have d8 := rdS (q := 285) f8 f2
  have d18 := rdS (q := 285) f18 f2
  have d23 := rdS (q := 285) f23 f2
  have d28 := rdS (q := 285) f28 f2
  have q9 := f9
  have q14 := f14
  have q19 := f19
  have q24 := f24
  have b2 : (0 : Int) ≤ hV H1 285 18 ∧ hV H1 285 18 ≤ 8 := f4.1.2.2 285 18 _ _ rW_18
  have lo1 := z1.2.2.2.1
  have lo5 := z1.2.2.2.2.2.2.1
  have pw : hV H3 285 17 = n8 := uSame f31 285 17 (by rw [f2]; rfl) (by rw [f30]; rfl)
  have pp := PR_fr f13.1.2.1 (by decide +kernel) z1
  have ii := f13.2
  unfold postb_216 at ii
  rw [f10] at ii
  have io := isR_or (k := 0) pp.2.2.1 (by decide) ii
  rw [pp.2.1, pp.1, vz, kmc_0] at io
  have ic := f14
  have kd := (io.resolve_right (fun w => ic w.1)).2
  have st : RI H2 ∧ absR H2 = pRead (pTx (BT H0) (hV H0 285 2)) := ⟨pp.2.2.1, by
    rw [pp.1]
    unfold pRead pEnd
    rw [← a1, if_pos kd]⟩
  have l3 := st.1.2.2.2.1
  have l5 := st.1.2.2.2.2.2.2.1
  have pq := PR_slot (s := 17) f31 f2 f30 (by decide) st.1
  have h13 : hV H2 285 13 = hV H1 285 13 := f13.1.2.1.1 285 13 (by decide +kernel)
  have y2 : hV H3 285 2 = hV H1 285 2 := (uSlot f31 285 2 (by rw [f30]; decide)).trans (f13.1.2.1.1 285 2 (by decide +kernel))
  have y18 : hV H3 285 18 = hV H1 285 18 := (uSlot f31 285 18 (by rw [f30]; decide)).trans (f13.1.2.1.1 285 18 (by decide +kernel))
  have q293 : hV H3 293 = hV H1 293 := (uRowNe f31 293 (by rw [f2]; decide)).trans (fRow f13.1.2.1 293 (by decide +kernel))
  have gy := f4.2.1.1.2
  unfold Byb_221_117 at gy
  obtain ⟨y1, y2, y3⟩ := gy ky
  have e8 : CR8 H1 H3 := (CR8_tr (CR8_fr f13.1.2.1 (by decide +kernel)) (CR8_lo (q := 285) f31 f2 (by decide)))
  have h294 : hV H3 294 = hV H1 294 := (uRowNe f31 294 (by rw [f2]; decide)).trans (fRow f13.1.2.1 294 (by decide +kernel))
  have h295 : hV H3 295 = hV H1 295 := (uRowNe f31 295 (by rw [f2]; decide)).trans (fRow f13.1.2.1 295 (by decide +kernel))
  have h296 : hV H3 296 = hV H1 296 := (uRowNe f31 296 (by rw [f2]; decide)).trans (fRow f13.1.2.1 296 (by decide +kernel))
  have h297 : hV H3 297 = hV H1 297 := (uRowNe f31 297 (by rw [f2]; decide)).trans (fRow f13.1.2.1 297 (by decide +kernel))
  refine ⟨CRl_tr y1 (CRl_8 e8), fun k hk => by rw [h296]; exact y2 k hk, fun hx hf => ?_⟩
  have w := y3 hx (((uSlot f31 285 13 (by rw [f30]; decide)).trans (f13.1.2.1.1 285 13 (by decide +kernel))).symm.trans hf)
  exact ⟨FIR_same e8 ((uSlot f31 285 32 (by rw [f30]; decide)).trans (f13.1.2.1.1 285 32 (by decide +kernel))) h294 h295 h296 h297 w.1, fun hw => ZP_same e8 h294 h296 h297 (w.2 (((uSlot f31 285 15 (by rw [f30]; decide)).trans (f13.1.2.1.1 285 15 (by decide +kernel))).symm.trans hw))⟩
def g_221y_117_4 : vG := ([(80, [1, 9, 8], [3, 2], 0), (0, [9], [], 17), (23, [1], [2], 12), (20, [8, 1], [2], 16), (23, [1], [2], 12), (90, [8], [], 0), (91, [8], [], 2000), (34, [7], [], 0), (20, [7, 1], [2], 15), (23, [1], [2], 12), (90, [7], [], 0), (91, [7], [], 6), (35, [6], [], 0), (20, [6, 1], [2], 13), (23, [1], [2], 12), (90, [6], [], 0), (91, [6], [], 2), (31, [5], [], 0), (1216, [5, 1, 4], [1, 2], 0), (90, [5], [], 0), (91, [5], [], 1), (0, [4], [], 0), (30, [3], [], 0), (20, [3, 1], [1], 13), (23, [1], [1], 12), (90, [3], [], 0), (91, [3], [], 2), (5000, [0, 1, 2], [0, 1], 117), (0, [0], [], 285), (0, [1], [], 285), (90, [2], [], 0), (91, [2], [], 1)], (4000, [1, 2], [3], 170))
theorem c_221y_117_4 {q0 : Nat} : vOkm T0 (eN e_221w L_221y (eAB A_221 B_221) mu_221 y_221 By_221 (some q0)) 1 g_221y_117_4 := vOk_inI fun ρ η f0 f1 f2 f3 f4 f5 f6 f7 f8 f9 f10 f11 f12 f13 f14 f15 f16 f17 f18 f19 f20 f21 f22 f23 f24 f25 f26 f27 f28 f29 f30 f31 => q_221y_9 (q0 := q0) (n0 := ρ 2) (n1 := ρ 1) (n2 := ρ 0) (n3 := ρ 3) (n4 := ρ 4) (n5 := ρ 5) (n6 := ρ 6) (n7 := ρ 7) (n8 := ρ 8) (n9 := ρ 9) (H0 := η 0) (H1 := η 1) (H2 := η 2) (H3 := η 3) f31 f30 f29 f28 f27 f26 f25 f24 f23 f22 f21 f20 f19 f18 f17 f16 f15 f14 f13 f12 f11 f10 f9 f8 f7 f6 f5 f4 f3 f2 f1 f0
theorem q_221y_10 {q0 : Nat} {n0 n1 n2 n3 n4 n5 n6 n7 n8 : Int} {H0 H1 H2 H3 : gH} (f0 : n0 ≤ 1) (f1 : 0 ≤ n0) (f2 : n1 = 285) (f3 : n2 = 285) (f4 : (hLe T0 H0 H1 ∧ hFr s_221.2.2.2.2 H0 H1 ∧ hWt T0 H1) ∧ (((Ab_221_117 n2 n1 n0 H0 H1 ∧ Bb_221_117 n2 n1 n0 H0 H1) ∧ Byb_221_117 n2 n1 n0 H0 H1) ∧ preb_221 n2 H0) ∧ some q0 = some (mub_221_117 n2 n1 n0 H0 H1)) (f5 : n3 ≤ 2) (f6 : 0 ≤ n3) (f7 : hK H1 (n1).toNat = 12) (f8 : n3 = hV H1 (n1).toNat 13) (f9 : n3 = 0) (f10 : n4 = 0) (f11 : n5 ≤ 1) (f12 : 0 ≤ n5) (f13 : (hLe T0 H1 H2 ∧ hFr s_216.2.2.2.2 H1 H2 ∧ ((0 : Int) = 0 → H2.length = H1.length) ∧ hWt T0 H2) ∧ postb_216 n5 n1 n4 H1 H2) (f14 : n5 ≠ 0) (f15 : n6 ≤ 2) (f16 : 0 ≤ n6) (f17 : hK H2 (n1).toNat = 12) (f18 : n6 = hV H2 (n1).toNat 13) (f19 : 0 < n6) (f20 : n7 ≤ 2000) (f21 : 0 ≤ n7) (f22 : hK H2 (n1).toNat = 12) (f23 : n7 = hV H2 (n1).toNat 14) (f24 : hK H2 (n1).toNat = 12) (f25 : n8 = 17) (f26 : hUpd H3 H2 n1 n8 n7) : Byb_221_170 n2 n1 n0 H0 H3 := by
  unfold Byb_221_170
  intro ky
  have ga := f4.2.1.1.1.2
  unfold Bb_221_117 at ga
  obtain ⟨z1, vz, a1, kx, tp, s18, h8, r293⟩ := ga ky
  have d8 := rdS (q := 285) f8 f2
  have d18 := rdS (q := 285) f18 f2
  have d23 := rdS (q := 285) f23 f2
  have q9 := f9
  have q14 := f14
  have q19 := f19
  have b2 : (0 : Int) ≤ hV H1 285 18 ∧ hV H1 285 18 ≤ 8 := f4.1.2.2 285 18 _ _ rW_18
  have lo1 := z1.2.2.2.1
  have lo5 := z1.2.2.2.2.2.2.1
  have pw : hV H3 285 17 = n7 := uSame f26 285 17 (by rw [f2]; rfl) (by rw [f25]; rfl)
  have pp := PR_fr f13.1.2.1 (by decide +kernel) z1
  have ii := f13.2
  unfold postb_216 at ii
  rw [f10] at ii
  have io := isR_or (k := 0) pp.2.2.1 (by decide) ii
  rw [pp.2.1, pp.1, vz, kmc_0] at io
  have ic := f14
  have kd := (io.resolve_right (fun w => ic w.1)).2
  have st : RI H2 ∧ absR H2 = pRead (pTx (BT H0) (hV H0 285 2)) := ⟨pp.2.2.1, by
    rw [pp.1]
    unfold pRead pEnd
    rw [← a1, if_pos kd]⟩
  have l3 := st.1.2.2.2.1
  have l5 := st.1.2.2.2.2.2.2.1
  have pq := PR_slot (s := 17) f26 f2 f25 (by decide) st.1
  have h13 : hV H2 285 13 = hV H1 285 13 := f13.1.2.1.1 285 13 (by decide +kernel)
  have y2 : hV H3 285 2 = hV H1 285 2 := (uSlot f26 285 2 (by rw [f25]; decide)).trans (f13.1.2.1.1 285 2 (by decide +kernel))
  have y18 : hV H3 285 18 = hV H1 285 18 := (uSlot f26 285 18 (by rw [f25]; decide)).trans (f13.1.2.1.1 285 18 (by decide +kernel))
  have q293 : hV H3 293 = hV H1 293 := (uRowNe f26 293 (by rw [f2]; decide)).trans (fRow f13.1.2.1 293 (by decide +kernel))
  exfalso
  have r13 : hV H1 285 13 = 0 := by omega
  omega
def g_221y_117_5 : vG := ([(80, [1, 8, 7], [3, 2], 0), (0, [8], [], 17), (23, [1], [2], 12), (20, [7, 1], [2], 14), (23, [1], [2], 12), (90, [7], [], 0), (91, [7], [], 2000), (34, [6], [], 0), (20, [6, 1], [2], 13), (23, [1], [2], 12), (90, [6], [], 0), (91, [6], [], 2), (31, [5], [], 0), (1216, [5, 1, 4], [1, 2], 0), (90, [5], [], 0), (91, [5], [], 1), (0, [4], [], 0), (30, [3], [], 0), (20, [3, 1], [1], 13), (23, [1], [1], 12), (90, [3], [], 0), (91, [3], [], 2), (5000, [0, 1, 2], [0, 1], 117), (0, [0], [], 285), (0, [1], [], 285), (90, [2], [], 0), (91, [2], [], 1)], (4000, [1, 2], [3], 170))
theorem c_221y_117_5 {q0 : Nat} : vOkm T0 (eN e_221w L_221y (eAB A_221 B_221) mu_221 y_221 By_221 (some q0)) 1 g_221y_117_5 := vOk_inI fun ρ η f0 f1 f2 f3 f4 f5 f6 f7 f8 f9 f10 f11 f12 f13 f14 f15 f16 f17 f18 f19 f20 f21 f22 f23 f24 f25 f26 => q_221y_10 (q0 := q0) (n0 := ρ 2) (n1 := ρ 1) (n2 := ρ 0) (n3 := ρ 3) (n4 := ρ 4) (n5 := ρ 5) (n6 := ρ 6) (n7 := ρ 7) (n8 := ρ 8) (H0 := η 0) (H1 := η 1) (H2 := η 2) (H3 := η 3) f26 f25 f24 f23 f22 f21 f20 f19 f18 f17 f16 f15 f14 f13 f12 f11 f10 f9 f8 f7 f6 f5 f4 f3 f2 f1 f0
theorem q_221y_11 {q0 : Nat} {n0 n1 n2 n3 n4 n5 n6 n7 n8 n9 n10 : Int} {H0 H1 H2 H3 H4 : gH} (f0 : n0 ≤ 1) (f1 : 0 ≤ n0) (f2 : n1 = 285) (f3 : n2 = 285) (f4 : (hLe T0 H0 H1 ∧ hFr s_221.2.2.2.2 H0 H1 ∧ hWt T0 H1) ∧ (((Ab_221_117 n2 n1 n0 H0 H1 ∧ Bb_221_117 n2 n1 n0 H0 H1) ∧ Byb_221_117 n2 n1 n0 H0 H1) ∧ preb_221 n2 H0) ∧ some q0 = some (mub_221_117 n2 n1 n0 H0 H1)) (f5 : n3 ≤ 2) (f6 : 0 ≤ n3) (f7 : hK H1 (n1).toNat = 12) (f8 : n3 = hV H1 (n1).toNat 13) (f9 : n3 = 0) (f10 : n4 = 0) (f11 : n5 ≤ 1) (f12 : 0 ≤ n5) (f13 : (hLe T0 H1 H2 ∧ hFr s_216.2.2.2.2 H1 H2 ∧ ((0 : Int) = 0 → H2.length = H1.length) ∧ hWt T0 H2) ∧ postb_216 n5 n1 n4 H1 H2) (f14 : n5 = 0) (f15 : n6 = 1) (f16 : (hLe T0 H2 H3 ∧ hFr s_217.2.2.2.2 H2 H3 ∧ ((0 : Int) = 0 → H3.length = H2.length) ∧ hWt T0 H3) ∧ (postb_217 n1 n6 H2 H3 ∧ nb_217 n1 n6 H2 H3)) (f17 : n7 ≤ 2) (f18 : 0 ≤ n7) (f19 : hK H3 (n1).toNat = 12) (f20 : n7 = hV H3 (n1).toNat 13) (f21 : n7 ≤ 0) (f22 : n8 ≤ 6) (f23 : 0 ≤ n8) (f24 : hK H3 (n1).toNat = 12) (f25 : n8 = hV H3 (n1).toNat 15) (f26 : n8 ≤ 0) (f27 : n9 = (-1)) (f28 : hK H3 (n1).toNat = 12) (f29 : n10 = 17) (f30 : hUpd H4 H3 n1 n10 n9) : Byb_221_170 n2 n1 n0 H0 H4 := by
  unfold Byb_221_170
  intro ky
  have ga := f4.2.1.1.1.2
  unfold Bb_221_117 at ga
  obtain ⟨z1, vz, a1, kx, tp, s18, h8, r293⟩ := ga ky
  have d8 := rdS (q := 285) f8 f2
  have d20 := rdS (q := 285) f20 f2
  have d25 := rdS (q := 285) f25 f2
  have q9 := f9
  have q14 := f14
  have q21 := f21
  have q26 := f26
  have b2 : (0 : Int) ≤ hV H1 285 18 ∧ hV H1 285 18 ≤ 8 := f4.1.2.2 285 18 _ _ rW_18
  have lo1 := z1.2.2.2.1
  have lo5 := z1.2.2.2.2.2.2.1
  have pw : hV H4 285 17 = n9 := uSame f30 285 17 (by rw [f2]; rfl) (by rw [f29]; rfl)
  have pv := f27
  have pp := PR_fr f13.1.2.1 (by decide +kernel) z1
  have ii := f13.2
  unfold postb_216 at ii
  rw [f10] at ii
  have io := isR_or (k := 0) pp.2.2.1 (by decide) ii
  rw [pp.2.1, pp.1, vz, kmc_0] at io
  have ic := f14
  have kd := (io.resolve_left (fun w => absurd (w.1.symm.trans ic) (by decide))).2
  have c := f16.2.2 pp.2.2.1
  rw [f15, pp.1, pp.2.1, vz] at c
  have st : RI H3 ∧ absR H3 = pRead (pTx (BT H0) (hV H0 285 2)) := ⟨c.1, by
    rw [c.2]
    unfold pRead pEnd
    rw [← a1, if_neg kd]⟩
  have hz := faultR_of c.1 (by rw [c.2, ← vz]; exact pfailR_lt z1 (by decide))
  have l3 := st.1.2.2.2.1
  have l5 := st.1.2.2.2.2.2.2.1
  have pq := PR_slot (s := 17) f30 f2 f29 (by decide) st.1
  have h13 : hV H2 285 13 = hV H1 285 13 := f13.1.2.1.1 285 13 (by decide +kernel)
  have y2 : hV H4 285 2 = hV H1 285 2 := (uSlot f30 285 2 (by rw [f29]; decide)).trans ((f16.1.2.1.1 285 2 (by decide +kernel)).trans (f13.1.2.1.1 285 2 (by decide +kernel)))
  have y18 : hV H4 285 18 = hV H1 285 18 := (uSlot f30 285 18 (by rw [f29]; decide)).trans ((f16.1.2.1.1 285 18 (by decide +kernel)).trans (f13.1.2.1.1 285 18 (by decide +kernel)))
  have q293 : hV H4 293 = hV H1 293 := (uRowNe f30 293 (by rw [f2]; decide)).trans ((fRow f16.1.2.1 293 (by decide +kernel)).trans (fRow f13.1.2.1 293 (by decide +kernel)))
  exfalso
  omega
def g_221y_117_6 : vG := ([(80, [1, 10, 9], [4, 3], 0), (0, [10], [], 17), (23, [1], [3], 12), (0, [9], [], -1), (35, [8], [], 0), (20, [8, 1], [3], 15), (23, [1], [3], 12), (90, [8], [], 0), (91, [8], [], 6), (35, [7], [], 0), (20, [7, 1], [3], 13), (23, [1], [3], 12), (90, [7], [], 0), (91, [7], [], 2), (1217, [1, 6], [2, 3], 0), (0, [6], [], 1), (30, [5], [], 0), (1216, [5, 1, 4], [1, 2], 0), (90, [5], [], 0), (91, [5], [], 1), (0, [4], [], 0), (30, [3], [], 0), (20, [3, 1], [1], 13), (23, [1], [1], 12), (90, [3], [], 0), (91, [3], [], 2), (5000, [0, 1, 2], [0, 1], 117), (0, [0], [], 285), (0, [1], [], 285), (90, [2], [], 0), (91, [2], [], 1)], (4000, [1, 2], [4], 170))
theorem c_221y_117_6 {q0 : Nat} : vOkm T0 (eN e_221w L_221y (eAB A_221 B_221) mu_221 y_221 By_221 (some q0)) 1 g_221y_117_6 := vOk_inI fun ρ η f0 f1 f2 f3 f4 f5 f6 f7 f8 f9 f10 f11 f12 f13 f14 f15 f16 f17 f18 f19 f20 f21 f22 f23 f24 f25 f26 f27 f28 f29 f30 => q_221y_11 (q0 := q0) (n0 := ρ 2) (n1 := ρ 1) (n2 := ρ 0) (n3 := ρ 3) (n4 := ρ 4) (n5 := ρ 5) (n6 := ρ 6) (n7 := ρ 7) (n8 := ρ 8) (n9 := ρ 9) (n10 := ρ 10) (H0 := η 0) (H1 := η 1) (H2 := η 2) (H3 := η 3) (H4 := η 4) f30 f29 f28 f27 f26 f25 f24 f23 f22 f21 f20 f19 f18 f17 f16 f15 f14 f13 f12 f11 f10 f9 f8 f7 f6 f5 f4 f3 f2 f1 f0
theorem q_221y_12 {q0 : Nat} {n0 n1 n2 n3 n4 n5 n6 n7 n8 n9 n10 : Int} {H0 H1 H2 H3 H4 : gH} (f0 : n0 ≤ 1) (f1 : 0 ≤ n0) (f2 : n1 = 285) (f3 : n2 = 285) (f4 : (hLe T0 H0 H1 ∧ hFr s_221.2.2.2.2 H0 H1 ∧ hWt T0 H1) ∧ (((Ab_221_117 n2 n1 n0 H0 H1 ∧ Bb_221_117 n2 n1 n0 H0 H1) ∧ Byb_221_117 n2 n1 n0 H0 H1) ∧ preb_221 n2 H0) ∧ some q0 = some (mub_221_117 n2 n1 n0 H0 H1)) (f5 : n3 ≤ 2) (f6 : 0 ≤ n3) (f7 : hK H1 (n1).toNat = 12) (f8 : n3 = hV H1 (n1).toNat 13) (f9 : n3 = 0) (f10 : n4 = 0) (f11 : n5 ≤ 1) (f12 : 0 ≤ n5) (f13 : (hLe T0 H1 H2 ∧ hFr s_216.2.2.2.2 H1 H2 ∧ ((0 : Int) = 0 → H2.length = H1.length) ∧ hWt T0 H2) ∧ postb_216 n5 n1 n4 H1 H2) (f14 : n5 = 0) (f15 : n6 = 1) (f16 : (hLe T0 H2 H3 ∧ hFr s_217.2.2.2.2 H2 H3 ∧ ((0 : Int) = 0 → H3.length = H2.length) ∧ hWt T0 H3) ∧ (postb_217 n1 n6 H2 H3 ∧ nb_217 n1 n6 H2 H3)) (f17 : n7 ≤ 2) (f18 : 0 ≤ n7) (f19 : hK H3 (n1).toNat = 12) (f20 : n7 = hV H3 (n1).toNat 13) (f21 : n7 ≤ 0) (f22 : n8 ≤ 6) (f23 : 0 ≤ n8) (f24 : hK H3 (n1).toNat = 12) (f25 : n8 = hV H3 (n1).toNat 15) (f26 : 0 < n8) (f27 : n9 ≤ 2000) (f28 : 0 ≤ n9) (f29 : hK H3 (n1).toNat = 12) (f30 : n9 = hV H3 (n1).toNat 16) (f31 : hK H3 (n1).toNat = 12) (f32 : n10 = 17) (f33 : hUpd H4 H3 n1 n10 n9) : Byb_221_170 n2 n1 n0 H0 H4 := by
  unfold Byb_221_170
  intro ky
  have ga := f4.2.1.1.1.2
  unfold Bb_221_117 at ga
  obtain ⟨z1, vz, a1, kx, tp, s18, h8, r293⟩ := ga ky
  have d8 := rdS (q := 285) f8 f2
  have d20 := rdS (q := 285) f20 f2
  have d25 := rdS (q := 285) f25 f2
  have d30 := rdS (q := 285) f30 f2
  have q9 := f9
  have q14 := f14
  have q21 := f21
  have q26 := f26
  have b2 : (0 : Int) ≤ hV H1 285 18 ∧ hV H1 285 18 ≤ 8 := f4.1.2.2 285 18 _ _ rW_18
  have lo1 := z1.2.2.2.1
  have lo5 := z1.2.2.2.2.2.2.1
  have pw : hV H4 285 17 = n9 := uSame f33 285 17 (by rw [f2]; rfl) (by rw [f32]; rfl)
  have pp := PR_fr f13.1.2.1 (by decide +kernel) z1
  have ii := f13.2
  unfold postb_216 at ii
  rw [f10] at ii
  have io := isR_or (k := 0) pp.2.2.1 (by decide) ii
  rw [pp.2.1, pp.1, vz, kmc_0] at io
  have ic := f14
  have kd := (io.resolve_left (fun w => absurd (w.1.symm.trans ic) (by decide))).2
  have c := f16.2.2 pp.2.2.1
  rw [f15, pp.1, pp.2.1, vz] at c
  have st : RI H3 ∧ absR H3 = pRead (pTx (BT H0) (hV H0 285 2)) := ⟨c.1, by
    rw [c.2]
    unfold pRead pEnd
    rw [← a1, if_neg kd]⟩
  have hz := faultR_of c.1 (by rw [c.2, ← vz]; exact pfailR_lt z1 (by decide))
  have l3 := st.1.2.2.2.1
  have l5 := st.1.2.2.2.2.2.2.1
  have pq := PR_slot (s := 17) f33 f2 f32 (by decide) st.1
  have h13 : hV H2 285 13 = hV H1 285 13 := f13.1.2.1.1 285 13 (by decide +kernel)
  have y2 : hV H4 285 2 = hV H1 285 2 := (uSlot f33 285 2 (by rw [f32]; decide)).trans ((f16.1.2.1.1 285 2 (by decide +kernel)).trans (f13.1.2.1.1 285 2 (by decide +kernel)))
  have y18 : hV H4 285 18 = hV H1 285 18 := (uSlot f33 285 18 (by rw [f32]; decide)).trans ((f16.1.2.1.1 285 18 (by decide +kernel)).trans (f13.1.2.1.1 285 18 (by decide +kernel)))
  have q293 : hV H4 293 = hV H1 293 := (uRowNe f33 293 (by rw [f2]; decide)).trans ((fRow f16.1.2.1 293 (by decide +kernel)).trans (fRow f13.1.2.1 293 (by decide +kernel)))
  exfalso
  omega
def g_221y_117_7 : vG := ([(80, [1, 10, 9], [4, 3], 0), (0, [10], [], 17), (23, [1], [3], 12), (20, [9, 1], [3], 16), (23, [1], [3], 12), (90, [9], [], 0), (91, [9], [], 2000), (34, [8], [], 0), (20, [8, 1], [3], 15), (23, [1], [3], 12), (90, [8], [], 0), (91, [8], [], 6), (35, [7], [], 0), (20, [7, 1], [3], 13), (23, [1], [3], 12), (90, [7], [], 0), (91, [7], [], 2), (1217, [1, 6], [2, 3], 0), (0, [6], [], 1), (30, [5], [], 0), (1216, [5, 1, 4], [1, 2], 0), (90, [5], [], 0), (91, [5], [], 1), (0, [4], [], 0), (30, [3], [], 0), (20, [3, 1], [1], 13), (23, [1], [1], 12), (90, [3], [], 0), (91, [3], [], 2), (5000, [0, 1, 2], [0, 1], 117), (0, [0], [], 285), (0, [1], [], 285), (90, [2], [], 0), (91, [2], [], 1)], (4000, [1, 2], [4], 170))
theorem c_221y_117_7 {q0 : Nat} : vOkm T0 (eN e_221w L_221y (eAB A_221 B_221) mu_221 y_221 By_221 (some q0)) 1 g_221y_117_7 := vOk_inI fun ρ η f0 f1 f2 f3 f4 f5 f6 f7 f8 f9 f10 f11 f12 f13 f14 f15 f16 f17 f18 f19 f20 f21 f22 f23 f24 f25 f26 f27 f28 f29 f30 f31 f32 f33 => q_221y_12 (q0 := q0) (n0 := ρ 2) (n1 := ρ 1) (n2 := ρ 0) (n3 := ρ 3) (n4 := ρ 4) (n5 := ρ 5) (n6 := ρ 6) (n7 := ρ 7) (n8 := ρ 8) (n9 := ρ 9) (n10 := ρ 10) (H0 := η 0) (H1 := η 1) (H2 := η 2) (H3 := η 3) (H4 := η 4) f33 f32 f31 f30 f29 f28 f27 f26 f25 f24 f23 f22 f21 f20 f19 f18 f17 f16 f15 f14 f13 f12 f11 f10 f9 f8 f7 f6 f5 f4 f3 f2 f1 f0
theorem q_221y_13 {q0 : Nat} {n0 n1 n2 n3 n4 n5 n6 n7 n8 n9 : Int} {H0 H1 H2 H3 H4 : gH} (f0 : n0 ≤ 1) (f1 : 0 ≤ n0) (f2 : n1 = 285) (f3 : n2 = 285) (f4 : (hLe T0 H0 H1 ∧ hFr s_221.2.2.2.2 H0 H1 ∧ hWt T0 H1) ∧ (((Ab_221_117 n2 n1 n0 H0 H1 ∧ Bb_221_117 n2 n1 n0 H0 H1) ∧ Byb_221_117 n2 n1 n0 H0 H1) ∧ preb_221 n2 H0) ∧ some q0 = some (mub_221_117 n2 n1 n0 H0 H1)) (f5 : n3 ≤ 2) (f6 : 0 ≤ n3) (f7 : hK H1 (n1).toNat = 12) (f8 : n3 = hV H1 (n1).toNat 13) (f9 : n3 = 0) (f10 : n4 = 0) (f11 : n5 ≤ 1) (f12 : 0 ≤ n5) (f13 : (hLe T0 H1 H2 ∧ hFr s_216.2.2.2.2 H1 H2 ∧ ((0 : Int) = 0 → H2.length = H1.length) ∧ hWt T0 H2) ∧ postb_216 n5 n1 n4 H1 H2) (f14 : n5 = 0) (f15 : n6 = 1) (f16 : (hLe T0 H2 H3 ∧ hFr s_217.2.2.2.2 H2 H3 ∧ ((0 : Int) = 0 → H3.length = H2.length) ∧ hWt T0 H3) ∧ (postb_217 n1 n6 H2 H3 ∧ nb_217 n1 n6 H2 H3)) (f17 : n7 ≤ 2) (f18 : 0 ≤ n7) (f19 : hK H3 (n1).toNat = 12) (f20 : n7 = hV H3 (n1).toNat 13) (f21 : 0 < n7) (f22 : n8 ≤ 2000) (f23 : 0 ≤ n8) (f24 : hK H3 (n1).toNat = 12) (f25 : n8 = hV H3 (n1).toNat 14) (f26 : hK H3 (n1).toNat = 12) (f27 : n9 = 17) (f28 : hUpd H4 H3 n1 n9 n8) : Byb_221_170 n2 n1 n0 H0 H4 := by
  unfold Byb_221_170
  intro ky
  have ga := f4.2.1.1.1.2
  unfold Bb_221_117 at ga
  obtain ⟨z1, vz, a1, kx, tp, s18, h8, r293⟩ := ga ky
  have d8 := rdS (q := 285) f8 f2
  have d20 := rdS (q := 285) f20 f2
  have d25 := rdS (q := 285) f25 f2
  have q9 := f9
  have q14 := f14
  have q21 := f21
  have b2 : (0 : Int) ≤ hV H1 285 18 ∧ hV H1 285 18 ≤ 8 := f4.1.2.2 285 18 _ _ rW_18
  have lo1 := z1.2.2.2.1
  have lo5 := z1.2.2.2.2.2.2.1
  have pw : hV H4 285 17 = n8 := uSame f28 285 17 (by rw [f2]; rfl) (by rw [f27]; rfl)
  have pp := PR_fr f13.1.2.1 (by decide +kernel) z1
  have ii := f13.2
  unfold postb_216 at ii
  rw [f10] at ii
  have io := isR_or (k := 0) pp.2.2.1 (by decide) ii
  rw [pp.2.1, pp.1, vz, kmc_0] at io
  have ic := f14
  have kd := (io.resolve_left (fun w => absurd (w.1.symm.trans ic) (by decide))).2
  have c := f16.2.2 pp.2.2.1
  rw [f15, pp.1, pp.2.1, vz] at c
  have st : RI H3 ∧ absR H3 = pRead (pTx (BT H0) (hV H0 285 2)) := ⟨c.1, by
    rw [c.2]
    unfold pRead pEnd
    rw [← a1, if_neg kd]⟩
  have hz := faultR_of c.1 (by rw [c.2, ← vz]; exact pfailR_lt z1 (by decide))
  have l3 := st.1.2.2.2.1
  have l5 := st.1.2.2.2.2.2.2.1
  have pq := PR_slot (s := 17) f28 f2 f27 (by decide) st.1
  have h13 : hV H2 285 13 = hV H1 285 13 := f13.1.2.1.1 285 13 (by decide +kernel)
  have y2 : hV H4 285 2 = hV H1 285 2 := (uSlot f28 285 2 (by rw [f27]; decide)).trans ((f16.1.2.1.1 285 2 (by decide +kernel)).trans (f13.1.2.1.1 285 2 (by decide +kernel)))
  have y18 : hV H4 285 18 = hV H1 285 18 := (uSlot f28 285 18 (by rw [f27]; decide)).trans ((f16.1.2.1.1 285 18 (by decide +kernel)).trans (f13.1.2.1.1 285 18 (by decide +kernel)))
  have q293 : hV H4 293 = hV H1 293 := (uRowNe f28 293 (by rw [f2]; decide)).trans ((fRow f16.1.2.1 293 (by decide +kernel)).trans (fRow f13.1.2.1 293 (by decide +kernel)))
  have gy := f4.2.1.1.2
  unfold Byb_221_117 at gy
  obtain ⟨y1, y2, y3⟩ := gy ky
  have e8 : CR8 H1 H4 := (CR8_tr (CR8_fr f13.1.2.1 (by decide +kernel)) (CR8_tr (CR8_fr f16.1.2.1 (by decide +kernel)) (CR8_lo (q := 285) f28 f2 (by decide))))
  have h294 : hV H4 294 = hV H1 294 := (uRowNe f28 294 (by rw [f2]; decide)).trans ((fRow f16.1.2.1 294 (by decide +kernel)).trans (fRow f13.1.2.1 294 (by decide +kernel)))
  have h295 : hV H4 295 = hV H1 295 := (uRowNe f28 295 (by rw [f2]; decide)).trans ((fRow f16.1.2.1 295 (by decide +kernel)).trans (fRow f13.1.2.1 295 (by decide +kernel)))
  have h296 : hV H4 296 = hV H1 296 := (uRowNe f28 296 (by rw [f2]; decide)).trans ((fRow f16.1.2.1 296 (by decide +kernel)).trans (fRow f13.1.2.1 296 (by decide +kernel)))
  have h297 : hV H4 297 = hV H1 297 := (uRowNe f28 297 (by rw [f2]; decide)).trans ((fRow f16.1.2.1 297 (by decide +kernel)).trans (fRow f13.1.2.1 297 (by decide +kernel)))
  refine ⟨CRl_tr y1 (CRl_8 e8), fun k hk => by rw [h296]; exact y2 k hk, fun hx hf => ?_⟩
  have e13 : hV H4 285 13 = hV H3 285 13 := uSlot f28 285 13 (by rw [f27]; decide)
  exact absurd (e13.symm.trans hf) hz
def g_221y_117_8 : vG := ([(80, [1, 9, 8], [4, 3], 0), (0, [9], [], 17), (23, [1], [3], 12), (20, [8, 1], [3], 14), (23, [1], [3], 12), (90, [8], [], 0), (91, [8], [], 2000), (34, [7], [], 0), (20, [7, 1], [3], 13), (23, [1], [3], 12), (90, [7], [], 0), (91, [7], [], 2), (1217, [1, 6], [2, 3], 0), (0, [6], [], 1), (30, [5], [], 0), (1216, [5, 1, 4], [1, 2], 0), (90, [5], [], 0), (91, [5], [], 1), (0, [4], [], 0), (30, [3], [], 0), (20, [3, 1], [1], 13), (23, [1], [1], 12), (90, [3], [], 0), (91, [3], [], 2), (5000, [0, 1, 2], [0, 1], 117), (0, [0], [], 285), (0, [1], [], 285), (90, [2], [], 0), (91, [2], [], 1)], (4000, [1, 2], [4], 170))
theorem c_221y_117_8 {q0 : Nat} : vOkm T0 (eN e_221w L_221y (eAB A_221 B_221) mu_221 y_221 By_221 (some q0)) 1 g_221y_117_8 := vOk_inI fun ρ η f0 f1 f2 f3 f4 f5 f6 f7 f8 f9 f10 f11 f12 f13 f14 f15 f16 f17 f18 f19 f20 f21 f22 f23 f24 f25 f26 f27 f28 => q_221y_13 (q0 := q0) (n0 := ρ 2) (n1 := ρ 1) (n2 := ρ 0) (n3 := ρ 3) (n4 := ρ 4) (n5 := ρ 5) (n6 := ρ 6) (n7 := ρ 7) (n8 := ρ 8) (n9 := ρ 9) (H0 := η 0) (H1 := η 1) (H2 := η 2) (H3 := η 3) (H4 := η 4) f28 f27 f26 f25 f24 f23 f22 f21 f20 f19 f18 f17 f16 f15 f14 f13 f12 f11 f10 f9 f8 f7 f6 f5 f4 f3 f2 f1 f0
def p_221y_117 : List vG := [g_221y_117_0,
  g_221y_117_1,
  g_221y_117_2,
  g_221y_117_3,
  g_221y_117_4,
  g_221y_117_5,
  g_221y_117_6,
  g_221y_117_7,
  g_221y_117_8]
theorem r_221y_117 : vCovBO (eRc e_221w L_221w cs_221 2000 (117, [(0, (3, 12, 285, 0)), (1, (0, 0, 1, 0))])) p_221y_117 = true := by decide +kernel
theorem q_221y_14 {q0 : Nat} {n0 n1 n2 n3 n4 n5 n6 n7 n8 n9 n10 n11 n12 n13 n14 : Int} {H0 H1 H2 H3 : gH} (f0 : n0 ≤ 1) (f1 : 0 ≤ n0) (f2 : n1 = 285) (f3 : n2 = 285) (f4 : (hLe T0 H0 H1 ∧ hFr s_221.2.2.2.2 H0 H1 ∧ hWt T0 H1) ∧ (((Ab_221_170 n2 n1 n0 H0 H1 ∧ Bb_221_170 n2 n1 n0 H0 H1) ∧ Byb_221_170 n2 n1 n0 H0 H1) ∧ preb_221 n2 H0) ∧ some q0 = some (mub_221_170 n2 n1 n0 H0 H1)) (f5 : n3 ≤ 2) (f6 : 0 ≤ n3) (f7 : hK H1 (n1).toNat = 12) (f8 : n3 = hV H1 (n1).toNat 13) (f9 : n3 ≤ 0) (f10 : n4 ≤ 6) (f11 : 0 ≤ n4) (f12 : hK H1 (n1).toNat = 12) (f13 : n4 = hV H1 (n1).toNat 15) (f14 : n4 ≤ 0) (f15 : n0 = 0) (f16 : n5 = 293) (f17 : hK H1 (n1).toNat = 12) (f18 : n5 = hV H1 (n1).toNat 19) (f19 : n6 ≤ 8) (f20 : 0 ≤ n6) (f21 : hK H1 (n1).toNat = 12) (f22 : n6 = hV H1 (n1).toNat 18) (f23 : n7 ≤ 6) (f24 : 1 ≤ n7) (f25 : hK H1 (n1).toNat = 12) (f26 : n7 = hV H1 (n1).toNat 60) (f27 : n8 = 1) (f28 : n9 = w32 (n7 - n8)) (f29 : hK H1 (n5).toNat = 172) (f30 : hUpd H2 H1 n5 n6 n9) (f31 : n10 ≤ 8) (f32 : 0 ≤ n10) (f33 : hK H2 (n1).toNat = 12) (f34 : n10 = hV H2 (n1).toNat 18) (f35 : n11 = 1) (f36 : n12 = w32 (n10 + n11)) (f37 : hK H2 (n1).toNat = 12) (f38 : n13 = 18) (f39 : hUpd H3 H2 n1 n13 n12) (f40 : n14 = 0) : yb_221 n14 n2 H0 H3 := by
  unfold yb_221
  intro ky
  have ga := f4.2.1.1.1.2
  unfold Bb_221_170 at ga
  obtain ⟨z1, a1, pl, kx, tp, s18, h8, r293⟩ := ga ky
  have gy := f4.2.1.1.2
  unfold Byb_221_170 at gy
  obtain ⟨y1, y2, y3⟩ := gy ky
  have d8 := rdS (q := 285) f8 f2
  have d13 := rdS (q := 285) f13 f2
  have d22 := rdS (q := 285) f22 f2
  have d26 := rdS (q := 285) f26 f2
  have d34 := rdS (q := 285) f34 f2
  have q9 := f9
  have q14 := f14
  have q15 := f15
  have e8 : CR8 H1 H3 := (CR8_tr (CR8_lo (q := 293) f30 f16 (by decide)) (CR8_lo (q := 285) f39 f2 (by decide)))
  have h296 : hV H3 296 = hV H1 296 := (uRowNe f39 296 (by rw [f2]; decide)).trans (uRowNe f30 296 (by rw [f16]; decide))
  have l3 := z1.2.2.2.1
  have l5 := z1.2.2.2.2.2.2.1
  refine ⟨CRl_tr y1 (CRl_8 e8), fun k hk => by rw [h296]; exact y2 k hk, fun hr hn => ?_⟩
  have h294 : hV H3 294 = hV H1 294 := (uRowNe f39 294 (by rw [f2]; decide)).trans (uRowNe f30 294 (by rw [f16]; decide))
  have h295 : hV H3 295 = hV H1 295 := (uRowNe f39 295 (by rw [f2]; decide)).trans (uRowNe f30 295 (by rw [f16]; decide))
  have h297 : hV H3 297 = hV H1 297 := (uRowNe f39 297 (by rw [f2]; decide)).trans (uRowNe f30 297 (by rw [f16]; decide))
  have rc := f40
  have x0 : n0 = 0 := by
    rcases kx with w | w
    · exact absurd w.2 hn
    · exact w.1
  have aa := f4.2.1.1.1.1
  unfold Ab_221_170 at aa
  have a7 := aa.2.2.2.2.2.2.1
  have w := y3 x0 (by omega)
  have e32 : hV H3 285 32 = hV H1 285 32 := (uSlot f39 285 32 (by rw [f38]; decide)).trans (uPlace f30 285 32 (by rw [f16]; decide))
  exact ⟨FIR_same e8 e32 h294 h295 h296 h297 w.1, ZP_same e8 h294 h296 h297 (w.2 (by omega)), by omega⟩
def g_221y_170_0 : vG := ([(0, [14], [], 0), (80, [1, 13, 12], [3, 2], 0), (0, [13], [], 18), (23, [1], [2], 12), (1, [12, 10, 11], [], 0), (0, [11], [], 1), (20, [10, 1], [2], 18), (23, [1], [2], 12), (90, [10], [], 0), (91, [10], [], 8), (80, [5, 6, 9], [2, 1], 0), (23, [5], [1], 172), (2, [9, 7, 8], [], 0), (0, [8], [], 1), (20, [7, 1], [1], 60), (23, [1], [1], 12), (90, [7], [], 1), (91, [7], [], 6), (20, [6, 1], [1], 18), (23, [1], [1], 12), (90, [6], [], 0), (91, [6], [], 8), (20, [5, 1], [1], 19), (23, [1], [1], 12), (0, [5], [], 293), (30, [2], [], 0), (35, [4], [], 0), (20, [4, 1], [1], 15), (23, [1], [1], 12), (90, [4], [], 0), (91, [4], [], 6), (35, [3], [], 0), (20, [3, 1], [1], 13), (23, [1], [1], 12), (90, [3], [], 0), (91, [3], [], 2), (5000, [0, 1, 2], [0, 1], 170), (0, [0], [], 285), (0, [1], [], 285), (90, [2], [], 0), (91, [2], [], 1)], (3000, [14], [3], 235))
theorem c_221y_170_0 {q0 : Nat} : vOkm T0 (eN e_221w L_221y (eAB A_221 B_221) mu_221 y_221 By_221 (some q0)) 1 g_221y_170_0 := vOk_inI fun ρ η f0 f1 f2 f3 f4 f5 f6 f7 f8 f9 f10 f11 f12 f13 f14 f15 f16 f17 f18 f19 f20 f21 f22 f23 f24 f25 f26 f27 f28 f29 f30 f31 f32 f33 f34 f35 f36 f37 f38 f39 f40 => q_221y_14 (q0 := q0) (n0 := ρ 2) (n1 := ρ 1) (n2 := ρ 0) (n3 := ρ 3) (n4 := ρ 4) (n5 := ρ 5) (n6 := ρ 6) (n7 := ρ 7) (n8 := ρ 8) (n9 := ρ 9) (n10 := ρ 10) (n11 := ρ 11) (n12 := ρ 12) (n13 := ρ 13) (n14 := ρ 14) (H0 := η 0) (H1 := η 1) (H2 := η 2) (H3 := η 3) f40 f39 f38 f37 f36 f35 f34 f33 f32 f31 f30 f29 f28 f27 f26 f25 f24 f23 f22 f21 f20 f19 f18 f17 f16 f15 f14 f13 f12 f11 f10 f9 f8 f7 f6 f5 f4 f3 f2 f1 f0
theorem q_221y_15 {q0 : Nat} {n0 n1 n2 n3 n4 n5 n6 n7 : Int} {H0 H1 H2 : gH} (f0 : n0 ≤ 1) (f1 : 0 ≤ n0) (f2 : n1 = 285) (f3 : n2 = 285) (f4 : (hLe T0 H0 H1 ∧ hFr s_221.2.2.2.2 H0 H1 ∧ hWt T0 H1) ∧ (((Ab_221_170 n2 n1 n0 H0 H1 ∧ Bb_221_170 n2 n1 n0 H0 H1) ∧ Byb_221_170 n2 n1 n0 H0 H1) ∧ preb_221 n2 H0) ∧ some q0 = some (mub_221_170 n2 n1 n0 H0 H1)) (f5 : n3 ≤ 2) (f6 : 0 ≤ n3) (f7 : hK H1 (n1).toNat = 12) (f8 : n3 = hV H1 (n1).toNat 13) (f9 : n3 ≤ 0) (f10 : n4 ≤ 6) (f11 : 0 ≤ n4) (f12 : hK H1 (n1).toNat = 12) (f13 : n4 = hV H1 (n1).toNat 15) (f14 : n4 ≤ 0) (f15 : n0 ≠ 0) (f16 : n5 ≤ 1) (f17 : 0 ≤ n5) (f18 : hK H1 (n1).toNat = 12) (f19 : n5 = hV H1 (n1).toNat 35) (f20 : hK H1 (n1).toNat = 12) (f21 : n6 = 34) (f22 : hUpd H2 H1 n1 n6 n5) (f23 : n7 = 0) : yb_221 n7 n2 H0 H2 := by
  unfold yb_221
  intro ky
  have ga := f4.2.1.1.1.2
  unfold Bb_221_170 at ga
  obtain ⟨z1, a1, pl, kx, tp, s18, h8, r293⟩ := ga ky
  have gy := f4.2.1.1.2
  unfold Byb_221_170 at gy
  obtain ⟨y1, y2, y3⟩ := gy ky
  have d8 := rdS (q := 285) f8 f2
  have d13 := rdS (q := 285) f13 f2
  have d19 := rdS (q := 285) f19 f2
  have q9 := f9
  have q14 := f14
  have q15 := f15
  have e8 : CR8 H1 H2 := (CR8_lo (q := 285) f22 f2 (by decide))
  have h296 : hV H2 296 = hV H1 296 := uRowNe f22 296 (by rw [f2]; decide)
  have l3 := z1.2.2.2.1
  have l5 := z1.2.2.2.2.2.2.1
  refine ⟨CRl_tr y1 (CRl_8 e8), fun k hk => by rw [h296]; exact y2 k hk, fun hr hn => ?_⟩
  have h294 : hV H2 294 = hV H1 294 := uRowNe f22 294 (by rw [f2]; decide)
  have h295 : hV H2 295 = hV H1 295 := uRowNe f22 295 (by rw [f2]; decide)
  have h297 : hV H2 297 = hV H1 297 := uRowNe f22 297 (by rw [f2]; decide)
  have rc := f23
  have x0 : n0 = 0 := by
    rcases kx with w | w
    · exact absurd w.2 hn
    · exact w.1
  have aa := f4.2.1.1.1.1
  unfold Ab_221_170 at aa
  have a7 := aa.2.2.2.2.2.2.1
  have w := y3 x0 (by omega)
  have e32 : hV H2 285 32 = hV H1 285 32 := uSlot f22 285 32 (by rw [f21]; decide)
  exact ⟨FIR_same e8 e32 h294 h295 h296 h297 w.1, ZP_same e8 h294 h296 h297 (w.2 (by omega)), by omega⟩
def g_221y_170_1 : vG := ([(0, [7], [], 0), (80, [1, 6, 5], [2, 1], 0), (0, [6], [], 34), (23, [1], [1], 12), (20, [5, 1], [1], 35), (23, [1], [1], 12), (90, [5], [], 0), (91, [5], [], 1), (31, [2], [], 0), (35, [4], [], 0), (20, [4, 1], [1], 15), (23, [1], [1], 12), (90, [4], [], 0), (91, [4], [], 6), (35, [3], [], 0), (20, [3, 1], [1], 13), (23, [1], [1], 12), (90, [3], [], 0), (91, [3], [], 2), (5000, [0, 1, 2], [0, 1], 170), (0, [0], [], 285), (0, [1], [], 285), (90, [2], [], 0), (91, [2], [], 1)], (3000, [7], [2], 235))
theorem c_221y_170_1 {q0 : Nat} : vOkm T0 (eN e_221w L_221y (eAB A_221 B_221) mu_221 y_221 By_221 (some q0)) 1 g_221y_170_1 := vOk_inI fun ρ η f0 f1 f2 f3 f4 f5 f6 f7 f8 f9 f10 f11 f12 f13 f14 f15 f16 f17 f18 f19 f20 f21 f22 f23 => q_221y_15 (q0 := q0) (n0 := ρ 2) (n1 := ρ 1) (n2 := ρ 0) (n3 := ρ 3) (n4 := ρ 4) (n5 := ρ 5) (n6 := ρ 6) (n7 := ρ 7) (H0 := η 0) (H1 := η 1) (H2 := η 2) f23 f22 f21 f20 f19 f18 f17 f16 f15 f14 f13 f12 f11 f10 f9 f8 f7 f6 f5 f4 f3 f2 f1 f0
theorem q_221y_16 {q0 : Nat} {n0 n1 n2 n3 n4 n5 : Int} {H0 H1 : gH} (f0 : n0 ≤ 1) (f1 : 0 ≤ n0) (f2 : n1 = 285) (f3 : n2 = 285) (f4 : (hLe T0 H0 H1 ∧ hFr s_221.2.2.2.2 H0 H1 ∧ hWt T0 H1) ∧ (((Ab_221_170 n2 n1 n0 H0 H1 ∧ Bb_221_170 n2 n1 n0 H0 H1) ∧ Byb_221_170 n2 n1 n0 H0 H1) ∧ preb_221 n2 H0) ∧ some q0 = some (mub_221_170 n2 n1 n0 H0 H1)) (f5 : n3 ≤ 2) (f6 : 0 ≤ n3) (f7 : hK H1 (n1).toNat = 12) (f8 : n3 = hV H1 (n1).toNat 13) (f9 : n3 ≤ 0) (f10 : n4 ≤ 6) (f11 : 0 ≤ n4) (f12 : hK H1 (n1).toNat = 12) (f13 : n4 = hV H1 (n1).toNat 15) (f14 : 0 < n4) (f15 : n5 ≤ 6) (f16 : 0 ≤ n5) (f17 : hK H1 (n1).toNat = 12) (f18 : n5 = hV H1 (n1).toNat 15) : yb_221 n5 n2 H0 H1 := by
  unfold yb_221
  intro ky
  have ga := f4.2.1.1.1.2
  unfold Bb_221_170 at ga
  obtain ⟨z1, a1, pl, kx, tp, s18, h8, r293⟩ := ga ky
  have gy := f4.2.1.1.2
  unfold Byb_221_170 at gy
  obtain ⟨y1, y2, y3⟩ := gy ky
  have d8 := rdS (q := 285) f8 f2
  have d13 := rdS (q := 285) f13 f2
  have d18 := rdS (q := 285) f18 f2
  have q9 := f9
  have q14 := f14
  have e8 : CR8 H1 H1 := CR8_rfl
  have h296 : hV H1 296 = hV H1 296 := rfl
  have l3 := z1.2.2.2.1
  have l5 := z1.2.2.2.2.2.2.1
  refine ⟨CRl_tr y1 (CRl_8 e8), fun k hk => by rw [h296]; exact y2 k hk, fun hr hn => ?_⟩
  exfalso
  omega
def g_221y_170_2 : vG := ([(20, [5, 1], [1], 15), (23, [1], [1], 12), (90, [5], [], 0), (91, [5], [], 6), (34, [4], [], 0), (20, [4, 1], [1], 15), (23, [1], [1], 12), (90, [4], [], 0), (91, [4], [], 6), (35, [3], [], 0), (20, [3, 1], [1], 13), (23, [1], [1], 12), (90, [3], [], 0), (91, [3], [], 2), (5000, [0, 1, 2], [0, 1], 170), (0, [0], [], 285), (0, [1], [], 285), (90, [2], [], 0), (91, [2], [], 1)], (3000, [5], [1], 193))
theorem c_221y_170_2 {q0 : Nat} : vOkm T0 (eN e_221w L_221y (eAB A_221 B_221) mu_221 y_221 By_221 (some q0)) 1 g_221y_170_2 := vOk_inI fun ρ η f0 f1 f2 f3 f4 f5 f6 f7 f8 f9 f10 f11 f12 f13 f14 f15 f16 f17 f18 => q_221y_16 (q0 := q0) (n0 := ρ 2) (n1 := ρ 1) (n2 := ρ 0) (n3 := ρ 3) (n4 := ρ 4) (n5 := ρ 5) (H0 := η 0) (H1 := η 1) f18 f17 f16 f15 f14 f13 f12 f11 f10 f9 f8 f7 f6 f5 f4 f3 f2 f1 f0
theorem q_221y_17 {q0 : Nat} {n0 n1 n2 n3 n4 : Int} {H0 H1 : gH} (f0 : n0 ≤ 1) (f1 : 0 ≤ n0) (f2 : n1 = 285) (f3 : n2 = 285) (f4 : (hLe T0 H0 H1 ∧ hFr s_221.2.2.2.2 H0 H1 ∧ hWt T0 H1) ∧ (((Ab_221_170 n2 n1 n0 H0 H1 ∧ Bb_221_170 n2 n1 n0 H0 H1) ∧ Byb_221_170 n2 n1 n0 H0 H1) ∧ preb_221 n2 H0) ∧ some q0 = some (mub_221_170 n2 n1 n0 H0 H1)) (f5 : n3 ≤ 2) (f6 : 0 ≤ n3) (f7 : hK H1 (n1).toNat = 12) (f8 : n3 = hV H1 (n1).toNat 13) (f9 : 0 < n3) (f10 : n4 ≤ 2) (f11 : 0 ≤ n4) (f12 : hK H1 (n1).toNat = 12) (f13 : n4 = hV H1 (n1).toNat 13) : yb_221 n4 n2 H0 H1 := by
  unfold yb_221
  intro ky
  have ga := f4.2.1.1.1.2
  unfold Bb_221_170 at ga
  obtain ⟨z1, a1, pl, kx, tp, s18, h8, r293⟩ := ga ky
  have gy := f4.2.1.1.2
  unfold Byb_221_170 at gy
  obtain ⟨y1, y2, y3⟩ := gy ky
  have d8 := rdS (q := 285) f8 f2
  have d13 := rdS (q := 285) f13 f2
  have q9 := f9
  have e8 : CR8 H1 H1 := CR8_rfl
  have h296 : hV H1 296 = hV H1 296 := rfl
  have l3 := z1.2.2.2.1
  have l5 := z1.2.2.2.2.2.2.1
  refine ⟨CRl_tr y1 (CRl_8 e8), fun k hk => by rw [h296]; exact y2 k hk, fun hr hn => ?_⟩
  exfalso
  omega
def g_221y_170_3 : vG := ([(20, [4, 1], [1], 13), (23, [1], [1], 12), (90, [4], [], 0), (91, [4], [], 2), (34, [3], [], 0), (20, [3, 1], [1], 13), (23, [1], [1], 12), (90, [3], [], 0), (91, [3], [], 2), (5000, [0, 1, 2], [0, 1], 170), (0, [0], [], 285), (0, [1], [], 285), (90, [2], [], 0), (91, [2], [], 1)], (3000, [4], [1], 181))
theorem c_221y_170_3 {q0 : Nat} : vOkm T0 (eN e_221w L_221y (eAB A_221 B_221) mu_221 y_221 By_221 (some q0)) 1 g_221y_170_3 := vOk_inI fun ρ η f0 f1 f2 f3 f4 f5 f6 f7 f8 f9 f10 f11 f12 f13 => q_221y_17 (q0 := q0) (n0 := ρ 2) (n1 := ρ 1) (n2 := ρ 0) (n3 := ρ 3) (n4 := ρ 4) (H0 := η 0) (H1 := η 1) f13 f12 f11 f10 f9 f8 f7 f6 f5 f4 f3 f2 f1 f0
def p_221y_170 : List vG := [g_221y_170_0,
  g_221y_170_1,
  g_221y_170_2,
  g_221y_170_3]
theorem r_221y_170 : vCovBO (eRc e_221w L_221w cs_221 2000 (170, [(0, (3, 12, 285, 0)), (1, (0, 0, 1, 0))])) p_221y_170 = true := by decide +kernel
theorem o_221y : eOK e_221y L_221y cs_221 2000 (eAB (eAB A_221 B_221) By_221) mu_221 := eOK_ref (p1 := p_221y_s) o_221w (sub0 (sub0 (sub0 (sub1 (sub0 trivial))))) r_221y_s (allC c_221y_s_0 (allC c_221y_s_1 allN)) (allC ⟨p_221y_22, r_221y_22, fun q0 => (allC c_221y_22_0 (allC c_221y_22_1 (allC c_221y_22_2 allN)))⟩ (allC ⟨p_221y_117, r_221y_117, fun q0 => (allC c_221y_117_0 (allC c_221y_117_1 (allC c_221y_117_2 (allC c_221y_117_3 (allC c_221y_117_4 (allC c_221y_117_5 (allC c_221y_117_6 (allC c_221y_117_7 (allC c_221y_117_8 allN)))))))))⟩ (allC ⟨p_221y_170, r_221y_170, fun q0 => (allC c_221y_170_0 (allC c_221y_170_1 (allC c_221y_170_2 (allC c_221y_170_3 allN))))⟩ allN)))
theorem m_221y (d : Nat) : eC e_221y (d + 11) := eC_OK (d := d + 10) o_221y rfl ⟨m_214w (d + 7), ⟨m_216 (d + 9), ⟨m_217w (d + 9), ⟨m_224y d, ⟨m_231w (d + 3), trivial⟩⟩⟩⟩⟩ rfl (.inl rfl) (by decide +kernel)
