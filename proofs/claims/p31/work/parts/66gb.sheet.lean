/-! CONTRACTS of methods told more fully. -/
/- MixStageModel.tellLay (I)V, more fully still -/
theorem o_228 : eOK e_228 L_228 cs_228 2000 A_228 mu_228 := eOK_of (tp := false) (p0 := p_228_s) (fun z => nomatch z) r_228_s (allC c_228_s_0 (allC c_228_s_1 (allC c_228_s_2 (allC c_228_s_3 (allC c_228_s_4 (allC c_228_s_5 (allC c_228_s_6 (allC c_228_s_7 (allC c_228_s_8 allN))))))))) (allC (.inl ⟨p_228_113, r_228_113, fun q0 => (allC c_228_113_0 (allC c_228_113_1 (allC c_228_113_2 allN)))⟩) (allC (.inl ⟨p_228_144, r_228_144, fun q0 => (allC c_228_144_0 (allC c_228_144_1 (allC c_228_144_2 allN)))⟩) (allC (.inl ⟨p_228_176, r_228_176, fun q0 => (allC c_228_176_0 (allC c_228_176_1 (allC c_228_176_2 (allC c_228_176_3 allN))))⟩) (allC (.inl ⟨p_228_231, r_228_231, fun q0 => (allC c_228_231_0 (allC c_228_231_1 allN))⟩) allN))))
theorem o_228w : eOK e_228w L_228w cs_228 2000 (eAB A_228 B_228) mu_228 := eOK_ref (p1 := p_228w_s) o_228 (sub0 (sub1 (sub1 (sub1 (sub1 trivial))))) r_228w_s (allC c_228w_s_0 (allC c_228w_s_1 allN)) (allC ⟨p_228w_113, r_228w_113, fun q0 => (allC c_228w_113_0 (allC c_228w_113_1 allN))⟩ (allC ⟨p_228w_144, r_228w_144, fun q0 => (allC c_228w_144_0 (allC c_228w_144_1 allN))⟩ (allC ⟨p_228w_176, r_228w_176, fun q0 => (allC c_228w_176_0 (allC c_228w_176_1 allN))⟩ (allC ⟨p_228w_231, r_228w_231, fun q0 => (allC c_228w_231_0 allN)⟩ allN))))
def yb_228 (a0 a1 : Int) (h0 h : gH) : Prop := RI h0 → CRo h0 h a1 ∧ hV h 298 = hV h0 298 ∧ hV h 299 = hV h0 299 ∧ hV h 303 = hV h0 303 ∧ hV h 304 = hV h0 304 ∧ (hV h 285 13 = 0 → hV h 300 (a1).toNat = tvl (vwR h0) (absR h0) ∧ hV h 301 (a1).toNat = mkA (vwR h0) (lyQ (vwR h0) (absR h0)) ∧ hV h 302 (a1).toNat = frA (vwR h0) (lyQ (vwR h0) (absR h0)) ∧ hV h 305 (6 * a1).toNat = opV (vwR h0) 27 0 (lyF (vwR h0) (absR h0)) ∧ hV h 305 (6 * a1 + 1).toNat = opV (vwR h0) 28 (-1) (lyS (vwR h0) (absR h0)) ∧ hV h 305 (6 * a1 + 2).toNat = opV (vwR h0) 29 100 (lyG (vwR h0) (absR h0)) ∧ hV h 305 (6 * a1 + 3).toNat = opV (vwR h0) 30 1 (lyU (vwR h0) (absR h0)) ∧ hV h 305 (6 * a1 + 4).toNat = opL (vwR h0) 1 (lyU (vwR h0) (absR h0)))
def y_228 : List Int → gH → gH → Prop := fun xs h0 h => match xs with
  | [a0, a1] => yb_228 a0 a1 h0 h
  | _ => True
noncomputable def e_228y : vE := eV e_228w y_228
noncomputable def L_228y : List vE := [e_216, e_219w, e_220w, e_223y, e_229y]
def Byb_228_113 (a0 a1 x0 x1 : Int) (h0 h : gH) : Prop := RI h0 → CRo h0 h a1 ∧ hV h 298 = hV h0 298 ∧ hV h 299 = hV h0 299 ∧ hV h 303 = hV h0 303 ∧ hV h 304 = hV h0 304 ∧ (hV h 285 13 = 0 → hV h 300 (a1).toNat = tvl (vwR h0) (absR h0) ∧ hV h 301 (a1).toNat = mkA (vwR h0) (lyQ (vwR h0) (absR h0)) ∧ hV h 302 (a1).toNat = frA (vwR h0) (lyQ (vwR h0) (absR h0)) ∧ hV h 305 (6 * a1).toNat = opV (vwR h0) 27 0 (lyF (vwR h0) (absR h0)) ∧ hV h 305 (6 * a1 + 1).toNat = -1 ∧ hV h 305 (6 * a1 + 2).toNat = 100 ∧ hV h 305 (6 * a1 + 3).toNat = 1 ∧ hV h 305 (6 * a1 + 4).toNat = 1)
def Byb_228_144 (a0 a1 x0 x1 : Int) (h0 h : gH) : Prop := RI h0 → CRo h0 h a1 ∧ hV h 298 = hV h0 298 ∧ hV h 299 = hV h0 299 ∧ hV h 303 = hV h0 303 ∧ hV h 304 = hV h0 304 ∧ (hV h 285 13 = 0 → hV h 300 (a1).toNat = tvl (vwR h0) (absR h0) ∧ hV h 301 (a1).toNat = mkA (vwR h0) (lyQ (vwR h0) (absR h0)) ∧ hV h 302 (a1).toNat = frA (vwR h0) (lyQ (vwR h0) (absR h0)) ∧ hV h 305 (6 * a1).toNat = opV (vwR h0) 27 0 (lyF (vwR h0) (absR h0)) ∧ hV h 305 (6 * a1 + 1).toNat = opV (vwR h0) 28 (-1) (lyS (vwR h0) (absR h0)) ∧ hV h 305 (6 * a1 + 2).toNat = 100 ∧ hV h 305 (6 * a1 + 3).toNat = 1 ∧ hV h 305 (6 * a1 + 4).toNat = 1)
def Byb_228_176 (a0 a1 x0 x1 : Int) (h0 h : gH) : Prop := RI h0 → CRo h0 h a1 ∧ hV h 298 = hV h0 298 ∧ hV h 299 = hV h0 299 ∧ hV h 303 = hV h0 303 ∧ hV h 304 = hV h0 304 ∧ (hV h 285 13 = 0 → hV h 300 (a1).toNat = tvl (vwR h0) (absR h0) ∧ hV h 301 (a1).toNat = mkA (vwR h0) (lyQ (vwR h0) (absR h0)) ∧ hV h 302 (a1).toNat = frA (vwR h0) (lyQ (vwR h0) (absR h0)) ∧ hV h 305 (6 * a1).toNat = opV (vwR h0) 27 0 (lyF (vwR h0) (absR h0)) ∧ hV h 305 (6 * a1 + 1).toNat = opV (vwR h0) 28 (-1) (lyS (vwR h0) (absR h0)) ∧ hV h 305 (6 * a1 + 2).toNat = opV (vwR h0) 29 100 (lyG (vwR h0) (absR h0)) ∧ hV h 305 (6 * a1 + 3).toNat = 1 ∧ hV h 305 (6 * a1 + 4).toNat = 1)
def Byb_228_231 (a0 a1 x0 x1 : Int) (h0 h : gH) : Prop := RI h0 → CRo h0 h a1 ∧ hV h 298 = hV h0 298 ∧ hV h 299 = hV h0 299 ∧ hV h 303 = hV h0 303 ∧ hV h 304 = hV h0 304 ∧ (hV h 285 13 = 0 → hV h 300 (a1).toNat = tvl (vwR h0) (absR h0) ∧ hV h 301 (a1).toNat = mkA (vwR h0) (lyQ (vwR h0) (absR h0)) ∧ hV h 302 (a1).toNat = frA (vwR h0) (lyQ (vwR h0) (absR h0)) ∧ hV h 305 (6 * a1).toNat = opV (vwR h0) 27 0 (lyF (vwR h0) (absR h0)) ∧ hV h 305 (6 * a1 + 1).toNat = opV (vwR h0) 28 (-1) (lyS (vwR h0) (absR h0)) ∧ hV h 305 (6 * a1 + 2).toNat = opV (vwR h0) 29 100 (lyG (vwR h0) (absR h0)) ∧ hV h 305 (6 * a1 + 3).toNat = opV (vwR h0) 30 1 (lyU (vwR h0) (absR h0)) ∧ hV h 305 (6 * a1 + 4).toNat = opL (vwR h0) 1 (lyU (vwR h0) (absR h0)))
def By_228 : Int → List Int → gH → gH → Prop := fun c xs h0 h => match c.toNat with
  | 113 => (match xs with
    | [a0, a1, x0, x1] => Byb_228_113 a0 a1 x0 x1 h0 h
    | _ => False)
  | 144 => (match xs with
    | [a0, a1, x0, x1] => Byb_228_144 a0 a1 x0 x1 h0 h
    | _ => False)
  | 176 => (match xs with
    | [a0, a1, x0, x1] => Byb_228_176 a0 a1 x0 x1 h0 h
    | _ => False)
  | 231 => (match xs with
    | [a0, a1, x0, x1] => Byb_228_231 a0 a1 x0 x1 h0 h
    | _ => False)
  | _ => True
theorem q_228y_0 {n0 n1 n2 n3 n4 n5 n6 n7 n8 n9 n10 n11 n12 n13 n14 n15 n16 n17 n18 n19 n20 n21 n22 n23 n24 n25 n26 n27 n28 n29 n30 n31 n32 n33 n34 n35 n36 n37 : Int} {H0 H1 H2 H3 H4 H5 H6 H7 H8 H9 H10 : gH} (f0 : n0 ≤ 1007) (f1 : 0 ≤ n0) (f2 : n1 = 285) (f3 : hWt T0 H0 ∧ preb_228 n1 n0 H0) (f4 : n2 = 300) (f5 : hK H0 (n1).toNat = 12) (f6 : n2 = hV H0 (n1).toNat 26) (f7 : n3 = 0) (f8 : n4 = 19) (f9 : n5 ≤ 9999) (f10 : 0 ≤ n5) (f11 : (hLe T0 H0 H1 ∧ hFr s_223.2.2.2.2 H0 H1 ∧ ((0 : Int) = 0 → H1.length = H0.length) ∧ hWt T0 H1) ∧ ((postb_223 n5 n1 n3 n4 H0 H1 ∧ nb_223 n5 n1 n3 n4 H0 H1) ∧ yb_223 n5 n1 n3 n4 H0 H1)) (f12 : hK H1 (n2).toNat = 228) (f13 : hUpd H2 H1 n2 n0 n5) (f14 : n6 = 25) (f15 : (hLe T0 H2 H3 ∧ hFr s_220.2.2.2.2 H2 H3 ∧ ((0 : Int) = 0 → H3.length = H2.length) ∧ hWt T0 H3) ∧ (postb_220 n1 n6 H2 H3 ∧ nb_220 n1 n6 H2 H3)) (f16 : n7 = 0) (f17 : (hLe T0 H3 H4 ∧ hFr s_229.2.2.2.2 H3 H4 ∧ ((0 : Int) = 0 → H4.length = H3.length) ∧ hWt T0 H4) ∧ ((postb_229 n1 n0 n7 H3 H4 ∧ nb_229 n1 n0 n7 H3 H4) ∧ yb_229 n1 n0 n7 H3 H4)) (f18 : n8 = 305) (f19 : hK H4 (n1).toNat = 12) (f20 : n8 = hV H4 (n1).toNat 31) (f21 : n9 = 6) (f22 : n10 = w32 (n9 * n0)) (f23 : n11 = 0) (f24 : hK H4 (n8).toNat = 268) (f25 : hUpd H5 H4 n8 n10 n11) (f26 : n12 = 305) (f27 : hK H5 (n1).toNat = 12) (f28 : n12 = hV H5 (n1).toNat 31) (f29 : n13 = 6) (f30 : n14 = w32 (n13 * n0)) (f31 : n15 = 1) (f32 : n16 = w32 (n14 + n15)) (f33 : n17 = (-1)) (f34 : hK H5 (n12).toNat = 268) (f35 : hUpd H6 H5 n12 n16 n17) (f36 : n18 = 305) (f37 : hK H6 (n1).toNat = 12) (f38 : n18 = hV H6 (n1).toNat 31) (f39 : n19 = 6) (f40 : n20 = w32 (n19 * n0)) (f41 : n21 = 2) (f42 : n22 = w32 (n20 + n21)) (f43 : n23 = 100) (f44 : hK H6 (n18).toNat = 268) (f45 : hUpd H7 H6 n18 n22 n23) (f46 : n24 = 305) (f47 : hK H7 (n1).toNat = 12) (f48 : n24 = hV H7 (n1).toNat 31) (f49 : n25 = 6) (f50 : n26 = w32 (n25 * n0)) (f51 : n27 = 3) (f52 : n28 = w32 (n26 + n27)) (f53 : n29 = 1) (f54 : hK H7 (n24).toNat = 268) (f55 : hUpd H8 H7 n24 n28 n29) (f56 : n30 = 305) (f57 : hK H8 (n1).toNat = 12) (f58 : n30 = hV H8 (n1).toNat 31) (f59 : n31 = 6) (f60 : n32 = w32 (n31 * n0)) (f61 : n33 = 4) (f62 : n34 = w32 (n32 + n33)) (f63 : n35 = 1) (f64 : hK H8 (n30).toNat = 268) (f65 : hUpd H9 H8 n30 n34 n35) (f66 : n36 = 26) (f67 : n37 ≤ 1) (f68 : 0 ≤ n37) (f69 : (hLe T0 H9 H10 ∧ hFr s_216.2.2.2.2 H9 H10 ∧ ((0 : Int) = 0 → H10.length = H9.length) ∧ hWt T0 H10) ∧ postb_216 n37 n1 n36 H9 H10) (f70 : n37 = 0) : Byb_228_113 n1 n0 n1 n0 H0 H10 := by
  unfold Byb_228_113
  intro z
  have c0 := f11.2.1.2 z
  try rw [f7] at c0
  try rw [f8] at c0
  have v0 : vwR H1 = vwR H0 := (vwR_fr f11.1.2.1 (by decide +kernel))
  have p1 := PR_row (q := 300) f13 f4 (by decide) c0.1
  have v1 : vwR H2 = vwR H0 := p1.2.1.trans v0
  have ah1 : absR H2 = (pnm (vwR H0) 0 19 (absR H0)) := p1.1.trans c0.2
  have c2 := f15.2.2 p1.2.2.1 (by rw [f14]; decide)
  try rw [f14] at c2
  rw [v1, ah1, kmc_25] at c2
  have v2 : vwR H3 = vwR H0 := (vwR_fr f15.1.2.1 (by decide +kernel)).trans v1
  have c3 := f17.2.1.2 c2.1
  try rw [f16] at c3
  rw [v2, c2.2] at c3
  have v3 : vwR H4 = vwR H0 := (vwR_fr f17.1.2.1 (by decide +kernel)).trans v2
  have p4 := PR_row (q := 305) f25 f18 (by decide) c3.1
  have v4 : vwR H5 = vwR H0 := p4.2.1.trans v3
  have ah4 : absR H5 = (pTime (vwR H0) (ptk (vwR H0) 26 (pnm (vwR H0) 0 19 (absR H0)))) := p4.1.trans c3.2
  have p5 := PR_row (q := 305) f35 f26 (by decide) p4.2.2.1
  have v5 : vwR H6 = vwR H0 := p5.2.1.trans v4
  have ah5 : absR H6 = (pTime (vwR H0) (ptk (vwR H0) 26 (pnm (vwR H0) 0 19 (absR H0)))) := p5.1.trans ah4
  have p6 := PR_row (q := 305) f45 f36 (by decide) p5.2.2.1
  have v6 : vwR H7 = vwR H0 := p6.2.1.trans v5
  have ah6 : absR H7 = (pTime (vwR H0) (ptk (vwR H0) 26 (pnm (vwR H0) 0 19 (absR H0)))) := p6.1.trans ah5
  have p7 := PR_row (q := 305) f55 f46 (by decide) p6.2.2.1
  have v7 : vwR H8 = vwR H0 := p7.2.1.trans v6
  have ah7 : absR H8 = (pTime (vwR H0) (ptk (vwR H0) 26 (pnm (vwR H0) 0 19 (absR H0)))) := p7.1.trans ah6
  have p8 := PR_row (q := 305) f65 f56 (by decide) p7.2.2.1
  have v8 : vwR H9 = vwR H0 := p8.2.1.trans v7
  have ah8 : absR H9 = (pTime (vwR H0) (ptk (vwR H0) 26 (pnm (vwR H0) 0 19 (absR H0)))) := p8.1.trans ah7
  have p9 := PR_fr f69.1.2.1 (by decide +kernel) p8.2.2.1
  have v9 : vwR H10 = vwR H0 := p9.2.1.trans v8
  have ah9 : absR H10 = (pTime (vwR H0) (ptk (vwR H0) 26 (pnm (vwR H0) 0 19 (absR H0)))) := p9.1.trans ah8
  have i9 := f69.2
  unfold postb_216 at i9
  rw [f66] at i9
  have cm9 := f70
  have b9 := (isR_or (k := 26) p9.2.2.1 (by decide) i9).resolve_left (fun w => absurd (w.1.symm.trans cm9) (by decide))
  replace b9 := b9.2
  rw [v9, ah9, kmc_26] at b9
  have tt17 := f17.2.2
  unfold yb_229 at tt17
  have tt17 := tt17 c2.1
  have tq17 := tt17.2.2.2.2.1 f16
  obtain ⟨x17_, y17_, ta17, tb17, td17⟩ := tq17.2.2
  have tc17 : CRo H3 H4 n0 := by
    refine ⟨fun q h1 h2 j n => ?_, fun j _ => congrFun tt17.2.2.2.1 j⟩
    have hq : q = 298 ∨ q = 299 ∨ q = 300 ∨ q = 301 ∨ q = 302 ∨ q = 303 ∨ q = 304 := by omega
    rcases hq with rfl | rfl | rfl | rfl | rfl | rfl | rfl
    · exact congrFun tt17.1 j
    · exact congrFun tt17.2.1 j
    · exact congrFun tt17.2.2.1 j
    · rw [ta17, uF_at, if_neg n]
    · rw [tb17, uF_at, if_neg n]
    · exact congrFun tq17.1 j
    · exact congrFun tq17.2.1 j
  have ix10 : n10 = 6 * n0 := by
    have w := f22
    rw [f21] at w
    unfold w32 at w
    omega
  have ix14 : n14 = 6 * n0 := by
    have w := f30
    rw [f29] at w
    unfold w32 at w
    omega
  have ix16 : n16 = 6 * n0 + 1 := by
    have w := f32
    rw [f31] at w
    unfold w32 at w
    omega
  have ix20 : n20 = 6 * n0 := by
    have w := f40
    rw [f39] at w
    unfold w32 at w
    omega
  have ix22 : n22 = 6 * n0 + 2 := by
    have w := f42
    rw [f41] at w
    unfold w32 at w
    omega
  have ix26 : n26 = 6 * n0 := by
    have w := f50
    rw [f49] at w
    unfold w32 at w
    omega
  have ix28 : n28 = 6 * n0 + 3 := by
    have w := f52
    rw [f51] at w
    unfold w32 at w
    omega
  have ix32 : n32 = 6 * n0 := by
    have w := f60
    rw [f59] at w
    unfold w32 at w
    omega
  have ix34 : n34 = 6 * n0 + 4 := by
    have w := f62
    rw [f61] at w
    unfold w32 at w
    omega
  refine ⟨(CRo_tr (CRo_8 (CR8_fr f11.1.2.1 (by decide +kernel))) (CRo_tr (CRo_up f13 rfl (by rw [f4]; decide)) (CRo_tr (CRo_8 (CR8_fr f15.1.2.1 (by decide +kernel))) (CRo_tr tc17 (CRo_tr (CRo_up5 f25 f18 (k := 0) (by omega) (by decide) (by decide)) (CRo_tr (CRo_up5 f35 f26 (k := 1) (by omega) (by decide) (by decide)) (CRo_tr (CRo_up5 f45 f36 (k := 2) (by omega) (by decide) (by decide)) (CRo_tr (CRo_up5 f55 f46 (k := 3) (by omega) (by decide) (by decide)) (CRo_tr (CRo_up5 f65 f56 (k := 4) (by omega) (by decide) (by decide)) (CRo_8 (CR8_fr f69.1.2.1 (by decide +kernel)))))))))))), (fRow f69.1.2.1 298 (by decide +kernel)).trans ((uRowNe f65 298 (by rw [f56]; decide)).trans ((uRowNe f55 298 (by rw [f46]; decide)).trans ((uRowNe f45 298 (by rw [f36]; decide)).trans ((uRowNe f35 298 (by rw [f26]; decide)).trans ((uRowNe f25 298 (by rw [f18]; decide)).trans ((tt17.1).trans ((fRow f15.1.2.1 298 (by decide +kernel)).trans ((uRowNe f13 298 (by rw [f4]; decide)).trans (fRow f11.1.2.1 298 (by decide +kernel)))))))))), (fRow f69.1.2.1 299 (by decide +kernel)).trans ((uRowNe f65 299 (by rw [f56]; decide)).trans ((uRowNe f55 299 (by rw [f46]; decide)).trans ((uRowNe f45 299 (by rw [f36]; decide)).trans ((uRowNe f35 299 (by rw [f26]; decide)).trans ((uRowNe f25 299 (by rw [f18]; decide)).trans ((tt17.2.1).trans ((fRow f15.1.2.1 299 (by decide +kernel)).trans ((uRowNe f13 299 (by rw [f4]; decide)).trans (fRow f11.1.2.1 299 (by decide +kernel)))))))))), (fRow f69.1.2.1 303 (by decide +kernel)).trans ((uRowNe f65 303 (by rw [f56]; decide)).trans ((uRowNe f55 303 (by rw [f46]; decide)).trans ((uRowNe f45 303 (by rw [f36]; decide)).trans ((uRowNe f35 303 (by rw [f26]; decide)).trans ((uRowNe f25 303 (by rw [f18]; decide)).trans ((tq17.1).trans ((fRow f15.1.2.1 303 (by decide +kernel)).trans ((uRowNe f13 303 (by rw [f4]; decide)).trans (fRow f11.1.2.1 303 (by decide +kernel)))))))))), (fRow f69.1.2.1 304 (by decide +kernel)).trans ((uRowNe f65 304 (by rw [f56]; decide)).trans ((uRowNe f55 304 (by rw [f46]; decide)).trans ((uRowNe f45 304 (by rw [f36]; decide)).trans ((uRowNe f35 304 (by rw [f26]; decide)).trans ((uRowNe f25 304 (by rw [f18]; decide)).trans ((tq17.2.1).trans ((fRow f15.1.2.1 304 (by decide +kernel)).trans ((uRowNe f13 304 (by rw [f4]; decide)).trans (fRow f11.1.2.1 304 (by decide +kernel)))))))))), fun hf => ?_⟩
  have hzH9 := fzR p8.2.2.1 p9.2.2.1 ah8 ah9 (fun _ _ => rfl) hf
  have hzH8 := fzR p7.2.2.1 p8.2.2.1 ah7 ah8 (fun _ _ => rfl) hzH9.1
  have hzH7 := fzR p6.2.2.1 p7.2.2.1 ah6 ah7 (fun _ _ => rfl) hzH8.1
  have hzH6 := fzR p5.2.2.1 p6.2.2.1 ah5 ah6 (fun _ _ => rfl) hzH7.1
  have hzH5 := fzR p4.2.2.1 p5.2.2.1 ah4 ah5 (fun _ _ => rfl) hzH6.1
  have hzH4 := fzR c3.1 p4.2.2.1 c3.2 ah4 (fun _ _ => rfl) hzH5.1
  have hzH3 := fzR c2.1 c3.1 c2.2 c3.2 (fun n k => pTime_neg (vwR_ok H0) n k) hzH4.1
  have hzH2 := fzR p1.2.2.1 c2.1 ah1 c2.2 (fun n k => ptk_neg n k) hzH3.1
  have hzH1 := fzR c0.1 p1.2.2.1 c0.2 ah1 (fun _ _ => rfl) hzH2.1
  have hzH0 := fzR z c0.1 rfl c0.2 (fun n k => pnm_neg n k) hzH1.1
  have tv11 := f11.2.2
  unfold yb_223 at tv11
  have tv11 := tv11 z hzH1.1
  have td17 := td17 hzH4.1
  rw [v2, c2.2] at td17
  exact ⟨((congrFun (fRow f69.1.2.1 300 (by decide +kernel)) _).trans ((congrFun (uRowNe f65 300 (by rw [f56]; decide)) _).trans ((congrFun (uRowNe f55 300 (by rw [f46]; decide)) _).trans ((congrFun (uRowNe f45 300 (by rw [f36]; decide)) _).trans ((congrFun (uRowNe f35 300 (by rw [f26]; decide)) _).trans ((congrFun (uRowNe f25 300 (by rw [f18]; decide)) _).trans ((congrFun tt17.2.2.1 _).trans ((congrFun (fRow f15.1.2.1 300 (by decide +kernel)) _).trans ((congrFun (uRowQ f13 300 f4) _).trans (by rw [uF_at, if_pos (Int.toNat_of_nonneg (by omega))])))))))))).trans tv11, ((congrFun (fRow f69.1.2.1 301 (by decide +kernel)) _).trans ((congrFun (uRowNe f65 301 (by rw [f56]; decide)) _).trans ((congrFun (uRowNe f55 301 (by rw [f46]; decide)) _).trans ((congrFun (uRowNe f45 301 (by rw [f36]; decide)) _).trans ((congrFun (uRowNe f35 301 (by rw [f26]; decide)) _).trans ((congrFun (uRowNe f25 301 (by rw [f18]; decide)) _).trans ((congrFun ta17 _).trans (by rw [uF_at, if_pos (Int.toNat_of_nonneg (by omega))])))))))).trans td17.1, ((congrFun (fRow f69.1.2.1 302 (by decide +kernel)) _).trans ((congrFun (uRowNe f65 302 (by rw [f56]; decide)) _).trans ((congrFun (uRowNe f55 302 (by rw [f46]; decide)) _).trans ((congrFun (uRowNe f45 302 (by rw [f36]; decide)) _).trans ((congrFun (uRowNe f35 302 (by rw [f26]; decide)) _).trans ((congrFun (uRowNe f25 302 (by rw [f18]; decide)) _).trans ((congrFun tb17 _).trans (by rw [uF_at, if_pos (Int.toNat_of_nonneg (by omega))])))))))).trans td17.2, ((congrFun (fRow f69.1.2.1 305 (by decide +kernel)) _).trans (((congrFun (uRowQ f65 305 f56) _).trans (by rw [uF_at, if_neg (by omega)])).trans (((congrFun (uRowQ f55 305 f46) _).trans (by rw [uF_at, if_neg (by omega)])).trans (((congrFun (uRowQ f45 305 f36) _).trans (by rw [uF_at, if_neg (by omega)])).trans (((congrFun (uRowQ f35 305 f26) _).trans (by rw [uF_at, if_neg (by omega)])).trans ((congrFun (uRowQ f25 305 f18) _).trans (by rw [uF_at, if_pos (by omega)]))))))).trans (f23.trans (opV_no (p := lyF (vwR H0) (absR H0)) b9).symm), ((congrFun (fRow f69.1.2.1 305 (by decide +kernel)) _).trans (((congrFun (uRowQ f65 305 f56) _).trans (by rw [uF_at, if_neg (by omega)])).trans (((congrFun (uRowQ f55 305 f46) _).trans (by rw [uF_at, if_neg (by omega)])).trans (((congrFun (uRowQ f45 305 f36) _).trans (by rw [uF_at, if_neg (by omega)])).trans ((congrFun (uRowQ f35 305 f26) _).trans (by rw [uF_at, if_pos (by omega)])))))).trans f33, ((congrFun (fRow f69.1.2.1 305 (by decide +kernel)) _).trans (((congrFun (uRowQ f65 305 f56) _).trans (by rw [uF_at, if_neg (by omega)])).trans (((congrFun (uRowQ f55 305 f46) _).trans (by rw [uF_at, if_neg (by omega)])).trans ((congrFun (uRowQ f45 305 f36) _).trans (by rw [uF_at, if_pos (by omega)]))))).trans f43, ((congrFun (fRow f69.1.2.1 305 (by decide +kernel)) _).trans (((congrFun (uRowQ f65 305 f56) _).trans (by rw [uF_at, if_neg (by omega)])).trans ((congrFun (uRowQ f55 305 f46) _).trans (by rw [uF_at, if_pos (by omega)])))).trans f53, ((congrFun (fRow f69.1.2.1 305 (by decide +kernel)) _).trans ((congrFun (uRowQ f65 305 f56) _).trans (by rw [uF_at, if_pos (by omega)]))).trans f63⟩
def g_228y_s_0 : vG := ([(30, [37], [], 0), (1216, [37, 0, 36], [9, 10], 0), (90, [37], [], 0), (91, [37], [], 1), (0, [36], [], 26), (80, [30, 34, 35], [9, 8], 0), (23, [30], [8], 268), (0, [35], [], 1), (1, [34, 32, 33], [], 0), (0, [33], [], 4), (3, [32, 31, 1], [], 0), (0, [31], [], 6), (20, [30, 0], [8], 31), (23, [0], [8], 12), (0, [30], [], 305), (80, [24, 28, 29], [8, 7], 0), (23, [24], [7], 268), (0, [29], [], 1), (1, [28, 26, 27], [], 0), (0, [27], [], 3), (3, [26, 25, 1], [], 0), (0, [25], [], 6), (20, [24, 0], [7], 31), (23, [0], [7], 12), (0, [24], [], 305), (80, [18, 22, 23], [7, 6], 0), (23, [18], [6], 268), (0, [23], [], 100), (1, [22, 20, 21], [], 0), (0, [21], [], 2), (3, [20, 19, 1], [], 0), (0, [19], [], 6), (20, [18, 0], [6], 31), (23, [0], [6], 12), (0, [18], [], 305), (80, [12, 16, 17], [6, 5], 0), (23, [12], [5], 268), (0, [17], [], -1), (1, [16, 14, 15], [], 0), (0, [15], [], 1), (3, [14, 13, 1], [], 0), (0, [13], [], 6), (20, [12, 0], [5], 31), (23, [0], [5], 12), (0, [12], [], 305), (80, [8, 10, 11], [5, 4], 0), (23, [8], [4], 268), (0, [11], [], 0), (3, [10, 9, 1], [], 0), (0, [9], [], 6), (20, [8, 0], [4], 31), (23, [0], [4], 12), (0, [8], [], 305), (1229, [0, 1, 7], [3, 4], 0), (0, [7], [], 0), (1220, [0, 6], [2, 3], 0), (0, [6], [], 25), (80, [2, 1, 5], [2, 1], 0), (23, [2], [1], 228), (1223, [5, 0, 3, 4], [0, 1], 0), (90, [5], [], 0), (91, [5], [], 9999), (0, [4], [], 19), (0, [3], [], 0), (20, [2, 0], [0], 26), (23, [0], [0], 12), (0, [2], [], 300), (6000, [0, 1], [0], 0), (0, [0], [], 285), (90, [1], [], 0), (91, [1], [], 1007)], (4000, [0, 1], [10], 113))
theorem c_228y_s_0 : vOkm T0 (eN e_228w L_228y (eAB A_228 B_228) mu_228 y_228 By_228 none) 2 g_228y_s_0 := vOk_inI fun ρ η f0 f1 f2 f3 f4 f5 f6 f7 f8 f9 f10 f11 f12 f13 f14 f15 f16 f17 f18 f19 f20 f21 f22 f23 f24 f25 f26 f27 f28 f29 f30 f31 f32 f33 f34 f35 f36 f37 f38 f39 f40 f41 f42 f43 f44 f45 f46 f47 f48 f49 f50 f51 f52 f53 f54 f55 f56 f57 f58 f59 f60 f61 f62 f63 f64 f65 f66 f67 f68 f69 f70 => q_228y_0 (n0 := ρ 1) (n1 := ρ 0) (n2 := ρ 2) (n3 := ρ 3) (n4 := ρ 4) (n5 := ρ 5) (n6 := ρ 6) (n7 := ρ 7) (n8 := ρ 8) (n9 := ρ 9) (n10 := ρ 10) (n11 := ρ 11) (n12 := ρ 12) (n13 := ρ 13) (n14 := ρ 14) (n15 := ρ 15) (n16 := ρ 16) (n17 := ρ 17) (n18 := ρ 18) (n19 := ρ 19) (n20 := ρ 20) (n21 := ρ 21) (n22 := ρ 22) (n23 := ρ 23) (n24 := ρ 24) (n25 := ρ 25) (n26 := ρ 26) (n27 := ρ 27) (n28 := ρ 28) (n29 := ρ 29) (n30 := ρ 30) (n31 := ρ 31) (n32 := ρ 32) (n33 := ρ 33) (n34 := ρ 34) (n35 := ρ 35) (n36 := ρ 36) (n37 := ρ 37) (H0 := η 0) (H1 := η 1) (H2 := η 2) (H3 := η 3) (H4 := η 4) (H5 := η 5) (H6 := η 6) (H7 := η 7) (H8 := η 8) (H9 := η 9) (H10 := η 10) f70 f69 f68 f67 f66 f65 f64 f63 f62 f61 f60 f59 f58 f57 f56 f55 f54 f53 f52 f51 f50 f49 f48 f47 f46 f45 f44 f43 f42 f41 f40 f39 f38 f37 f36 f35 f34 f33 f32 f31 f30 f29 f28 f27 f26 f25 f24 f23 f22 f21 f20 f19 f18 f17 f16 f15 f14 f13 f12 f11 f10 f9 f8 f7 f6 f5 f4 f3 f2 f1 f0
theorem q_228y_1 {n0 n1 n2 n3 n4 n5 n6 n7 n8 n9 n10 n11 n12 n13 n14 n15 n16 n17 n18 n19 n20 n21 n22 n23 n24 n25 n26 n27 n28 n29 n30 n31 n32 n33 n34 n35 n36 n37 n38 n39 n40 n41 n42 n43 : Int} {H0 H1 H2 H3 H4 H5 H6 H7 H8 H9 H10 H11 H12 H13 : gH} (f0 : n0 ≤ 1007) (f1 : 0 ≤ n0) (f2 : n1 = 285) (f3 : hWt T0 H0 ∧ preb_228 n1 n0 H0) (f4 : n2 = 300) (f5 : hK H0 (n1).toNat = 12) (f6 : n2 = hV H0 (n1).toNat 26) (f7 : n3 = 0) (f8 : n4 = 19) (f9 : n5 ≤ 9999) (f10 : 0 ≤ n5) (f11 : (hLe T0 H0 H1 ∧ hFr s_223.2.2.2.2 H0 H1 ∧ ((0 : Int) = 0 → H1.length = H0.length) ∧ hWt T0 H1) ∧ ((postb_223 n5 n1 n3 n4 H0 H1 ∧ nb_223 n5 n1 n3 n4 H0 H1) ∧ yb_223 n5 n1 n3 n4 H0 H1)) (f12 : hK H1 (n2).toNat = 228) (f13 : hUpd H2 H1 n2 n0 n5) (f14 : n6 = 25) (f15 : (hLe T0 H2 H3 ∧ hFr s_220.2.2.2.2 H2 H3 ∧ ((0 : Int) = 0 → H3.length = H2.length) ∧ hWt T0 H3) ∧ (postb_220 n1 n6 H2 H3 ∧ nb_220 n1 n6 H2 H3)) (f16 : n7 = 0) (f17 : (hLe T0 H3 H4 ∧ hFr s_229.2.2.2.2 H3 H4 ∧ ((0 : Int) = 0 → H4.length = H3.length) ∧ hWt T0 H4) ∧ ((postb_229 n1 n0 n7 H3 H4 ∧ nb_229 n1 n0 n7 H3 H4) ∧ yb_229 n1 n0 n7 H3 H4)) (f18 : n8 = 305) (f19 : hK H4 (n1).toNat = 12) (f20 : n8 = hV H4 (n1).toNat 31) (f21 : n9 = 6) (f22 : n10 = w32 (n9 * n0)) (f23 : n11 = 0) (f24 : hK H4 (n8).toNat = 268) (f25 : hUpd H5 H4 n8 n10 n11) (f26 : n12 = 305) (f27 : hK H5 (n1).toNat = 12) (f28 : n12 = hV H5 (n1).toNat 31) (f29 : n13 = 6) (f30 : n14 = w32 (n13 * n0)) (f31 : n15 = 1) (f32 : n16 = w32 (n14 + n15)) (f33 : n17 = (-1)) (f34 : hK H5 (n12).toNat = 268) (f35 : hUpd H6 H5 n12 n16 n17) (f36 : n18 = 305) (f37 : hK H6 (n1).toNat = 12) (f38 : n18 = hV H6 (n1).toNat 31) (f39 : n19 = 6) (f40 : n20 = w32 (n19 * n0)) (f41 : n21 = 2) (f42 : n22 = w32 (n20 + n21)) (f43 : n23 = 100) (f44 : hK H6 (n18).toNat = 268) (f45 : hUpd H7 H6 n18 n22 n23) (f46 : n24 = 305) (f47 : hK H7 (n1).toNat = 12) (f48 : n24 = hV H7 (n1).toNat 31) (f49 : n25 = 6) (f50 : n26 = w32 (n25 * n0)) (f51 : n27 = 3) (f52 : n28 = w32 (n26 + n27)) (f53 : n29 = 1) (f54 : hK H7 (n24).toNat = 268) (f55 : hUpd H8 H7 n24 n28 n29) (f56 : n30 = 305) (f57 : hK H8 (n1).toNat = 12) (f58 : n30 = hV H8 (n1).toNat 31) (f59 : n31 = 6) (f60 : n32 = w32 (n31 * n0)) (f61 : n33 = 4) (f62 : n34 = w32 (n32 + n33)) (f63 : n35 = 1) (f64 : hK H8 (n30).toNat = 268) (f65 : hUpd H9 H8 n30 n34 n35) (f66 : n36 = 26) (f67 : n37 ≤ 1) (f68 : 0 ≤ n37) (f69 : (hLe T0 H9 H10 ∧ hFr s_216.2.2.2.2 H9 H10 ∧ ((0 : Int) = 0 → H10.length = H9.length) ∧ hWt T0 H10) ∧ postb_216 n37 n1 n36 H9 H10) (f70 : n37 ≠ 0) (f71 : (hLe T0 H10 H11 ∧ hFr s_219.2.2.2.2 H10 H11 ∧ ((0 : Int) = 0 → H11.length = H10.length) ∧ hWt T0 H11) ∧ (postb_219 n1 H10 H11 ∧ nb_219 n1 H10 H11)) (f72 : n38 = 305) (f73 : hK H11 (n1).toNat = 12) (f74 : n38 = hV H11 (n1).toNat 31) (f75 : n39 = 6) (f76 : n40 = w32 (n39 * n0)) (f77 : n41 = 0) (f78 : n42 = 60) (f79 : n43 ≤ 9999) (f80 : 0 ≤ n43) (f81 : (hLe T0 H11 H12 ∧ hFr s_223.2.2.2.2 H11 H12 ∧ ((0 : Int) = 0 → H12.length = H11.length) ∧ hWt T0 H12) ∧ ((postb_223 n43 n1 n41 n42 H11 H12 ∧ nb_223 n43 n1 n41 n42 H11 H12) ∧ yb_223 n43 n1 n41 n42 H11 H12)) (f82 : hK H12 (n38).toNat = 268) (f83 : hUpd H13 H12 n38 n40 n43) : Byb_228_113 n1 n0 n1 n0 H0 H13 := by
  unfold Byb_228_113
  intro z
  have c0 := f11.2.1.2 z
  try rw [f7] at c0
  try rw [f8] at c0
  have v0 : vwR H1 = vwR H0 := (vwR_fr f11.1.2.1 (by decide +kernel))
  have p1 := PR_row (q := 300) f13 f4 (by decide) c0.1
  have v1 : vwR H2 = vwR H0 := p1.2.1.trans v0
  have ah1 : absR H2 = (pnm (vwR H0) 0 19 (absR H0)) := p1.1.trans c0.2
  have c2 := f15.2.2 p1.2.2.1 (by rw [f14]; decide)
  try rw [f14] at c2
  rw [v1, ah1, kmc_25] at c2
  have v2 : vwR H3 = vwR H0 := (vwR_fr f15.1.2.1 (by decide +kernel)).trans v1
  have c3 := f17.2.1.2 c2.1
  try rw [f16] at c3
  rw [v2, c2.2] at c3
  have v3 : vwR H4 = vwR H0 := (vwR_fr f17.1.2.1 (by decide +kernel)).trans v2
  have p4 := PR_row (q := 305) f25 f18 (by decide) c3.1
  have v4 : vwR H5 = vwR H0 := p4.2.1.trans v3
  have ah4 : absR H5 = (pTime (vwR H0) (ptk (vwR H0) 26 (pnm (vwR H0) 0 19 (absR H0)))) := p4.1.trans c3.2
  have p5 := PR_row (q := 305) f35 f26 (by decide) p4.2.2.1
  have v5 : vwR H6 = vwR H0 := p5.2.1.trans v4
  have ah5 : absR H6 = (pTime (vwR H0) (ptk (vwR H0) 26 (pnm (vwR H0) 0 19 (absR H0)))) := p5.1.trans ah4
  have p6 := PR_row (q := 305) f45 f36 (by decide) p5.2.2.1
  have v6 : vwR H7 = vwR H0 := p6.2.1.trans v5
  have ah6 : absR H7 = (pTime (vwR H0) (ptk (vwR H0) 26 (pnm (vwR H0) 0 19 (absR H0)))) := p6.1.trans ah5
  have p7 := PR_row (q := 305) f55 f46 (by decide) p6.2.2.1
  have v7 : vwR H8 = vwR H0 := p7.2.1.trans v6
  have ah7 : absR H8 = (pTime (vwR H0) (ptk (vwR H0) 26 (pnm (vwR H0) 0 19 (absR H0)))) := p7.1.trans ah6
  have p8 := PR_row (q := 305) f65 f56 (by decide) p7.2.2.1
  have v8 : vwR H9 = vwR H0 := p8.2.1.trans v7
  have ah8 : absR H9 = (pTime (vwR H0) (ptk (vwR H0) 26 (pnm (vwR H0) 0 19 (absR H0)))) := p8.1.trans ah7
  have p9 := PR_fr f69.1.2.1 (by decide +kernel) p8.2.2.1
  have v9 : vwR H10 = vwR H0 := p9.2.1.trans v8
  have ah9 : absR H10 = (pTime (vwR H0) (ptk (vwR H0) 26 (pnm (vwR H0) 0 19 (absR H0)))) := p9.1.trans ah8
  have i9 := f69.2
  unfold postb_216 at i9
  rw [f66] at i9
  have cm9 := f70
  have b9 := (isR_or (k := 26) p9.2.2.1 (by decide) i9).resolve_right (fun w => cm9 w.1)
  replace b9 := b9.2
  rw [v9, ah9, kmc_26] at b9
  have c10 := f71.2.2 p9.2.2.1 (by rw [v9, ah9]; rw [b9]; decide)
  rw [v9, ah9, b9] at c10
  have v10 : vwR H11 = vwR H0 := (vwR_fr f71.1.2.1 (by decide +kernel)).trans v9
  have c11 := f81.2.1.2 c10.1
  try rw [f77] at c11
  try rw [f78] at c11
  rw [v10, c10.2] at c11
  have v11 : vwR H12 = vwR H0 := (vwR_fr f81.1.2.1 (by decide +kernel)).trans v10
  have p12 := PR_row (q := 305) f83 f72 (by decide) c11.1
  have v12 : vwR H13 = vwR H0 := p12.2.1.trans v11
  have ah12 : absR H13 = (pnm (vwR H0) 0 60 (ptk (vwR H0) 27 (pTime (vwR H0) (ptk (vwR H0) 26 (pnm (vwR H0) 0 19 (absR H0)))))) := p12.1.trans c11.2
  have tt17 := f17.2.2
  unfold yb_229 at tt17
  have tt17 := tt17 c2.1
  have tq17 := tt17.2.2.2.2.1 f16
  obtain ⟨x17_, y17_, ta17, tb17, td17⟩ := tq17.2.2
  have tc17 : CRo H3 H4 n0 := by
    refine ⟨fun q h1 h2 j n => ?_, fun j _ => congrFun tt17.2.2.2.1 j⟩
    have hq : q = 298 ∨ q = 299 ∨ q = 300 ∨ q = 301 ∨ q = 302 ∨ q = 303 ∨ q = 304 := by omega
    rcases hq with rfl | rfl | rfl | rfl | rfl | rfl | rfl
    · exact congrFun tt17.1 j
    · exact congrFun tt17.2.1 j
    · exact congrFun tt17.2.2.1 j
    · rw [ta17, uF_at, if_neg n]
    · rw [tb17, uF_at, if_neg n]
    · exact congrFun tq17.1 j
    · exact congrFun tq17.2.1 j
  have ix10 : n10 = 6 * n0 := by
    have w := f22
    rw [f21] at w
    unfold w32 at w
    omega
  have ix14 : n14 = 6 * n0 := by
    have w := f30
    rw [f29] at w
    unfold w32 at w
    omega
  have ix16 : n16 = 6 * n0 + 1 := by
    have w := f32
    rw [f31] at w
    unfold w32 at w
    omega
  have ix20 : n20 = 6 * n0 := by
    have w := f40
    rw [f39] at w
    unfold w32 at w
    omega
  have ix22 : n22 = 6 * n0 + 2 := by
    have w := f42
    rw [f41] at w
    unfold w32 at w
    omega
  have ix26 : n26 = 6 * n0 := by
    have w := f50
    rw [f49] at w
    unfold w32 at w
    omega
  have ix28 : n28 = 6 * n0 + 3 := by
    have w := f52
    rw [f51] at w
    unfold w32 at w
    omega
  have ix32 : n32 = 6 * n0 := by
    have w := f60
    rw [f59] at w
    unfold w32 at w
    omega
  have ix34 : n34 = 6 * n0 + 4 := by
    have w := f62
    rw [f61] at w
    unfold w32 at w
    omega
  have ix40 : n40 = 6 * n0 := by
    have w := f76
    rw [f75] at w
    unfold w32 at w
    omega
  refine ⟨(CRo_tr (CRo_8 (CR8_fr f11.1.2.1 (by decide +kernel))) (CRo_tr (CRo_up f13 rfl (by rw [f4]; decide)) (CRo_tr (CRo_8 (CR8_fr f15.1.2.1 (by decide +kernel))) (CRo_tr tc17 (CRo_tr (CRo_up5 f25 f18 (k := 0) (by omega) (by decide) (by decide)) (CRo_tr (CRo_up5 f35 f26 (k := 1) (by omega) (by decide) (by decide)) (CRo_tr (CRo_up5 f45 f36 (k := 2) (by omega) (by decide) (by decide)) (CRo_tr (CRo_up5 f55 f46 (k := 3) (by omega) (by decide) (by decide)) (CRo_tr (CRo_up5 f65 f56 (k := 4) (by omega) (by decide) (by decide)) (CRo_tr (CRo_8 (CR8_fr f69.1.2.1 (by decide +kernel))) (CRo_tr (CRo_8 (CR8_fr f71.1.2.1 (by decide +kernel))) (CRo_tr (CRo_8 (CR8_fr f81.1.2.1 (by decide +kernel))) (CRo_up5 f83 f72 (k := 0) (by omega) (by decide) (by decide)))))))))))))), (uRowNe f83 298 (by rw [f72]; decide)).trans ((fRow f81.1.2.1 298 (by decide +kernel)).trans ((fRow f71.1.2.1 298 (by decide +kernel)).trans ((fRow f69.1.2.1 298 (by decide +kernel)).trans ((uRowNe f65 298 (by rw [f56]; decide)).trans ((uRowNe f55 298 (by rw [f46]; decide)).trans ((uRowNe f45 298 (by rw [f36]; decide)).trans ((uRowNe f35 298 (by rw [f26]; decide)).trans ((uRowNe f25 298 (by rw [f18]; decide)).trans ((tt17.1).trans ((fRow f15.1.2.1 298 (by decide +kernel)).trans ((uRowNe f13 298 (by rw [f4]; decide)).trans (fRow f11.1.2.1 298 (by decide +kernel))))))))))))), (uRowNe f83 299 (by rw [f72]; decide)).trans ((fRow f81.1.2.1 299 (by decide +kernel)).trans ((fRow f71.1.2.1 299 (by decide +kernel)).trans ((fRow f69.1.2.1 299 (by decide +kernel)).trans ((uRowNe f65 299 (by rw [f56]; decide)).trans ((uRowNe f55 299 (by rw [f46]; decide)).trans ((uRowNe f45 299 (by rw [f36]; decide)).trans ((uRowNe f35 299 (by rw [f26]; decide)).trans ((uRowNe f25 299 (by rw [f18]; decide)).trans ((tt17.2.1).trans ((fRow f15.1.2.1 299 (by decide +kernel)).trans ((uRowNe f13 299 (by rw [f4]; decide)).trans (fRow f11.1.2.1 299 (by decide +kernel))))))))))))), (uRowNe f83 303 (by rw [f72]; decide)).trans ((fRow f81.1.2.1 303 (by decide +kernel)).trans ((fRow f71.1.2.1 303 (by decide +kernel)).trans ((fRow f69.1.2.1 303 (by decide +kernel)).trans ((uRowNe f65 303 (by rw [f56]; decide)).trans ((uRowNe f55 303 (by rw [f46]; decide)).trans ((uRowNe f45 303 (by rw [f36]; decide)).trans ((uRowNe f35 303 (by rw [f26]; decide)).trans ((uRowNe f25 303 (by rw [f18]; decide)).trans ((tq17.1).trans ((fRow f15.1.2.1 303 (by decide +kernel)).trans ((uRowNe f13 303 (by rw [f4]; decide)).trans (fRow f11.1.2.1 303 (by decide +kernel))))))))))))), (uRowNe f83 304 (by rw [f72]; decide)).trans ((fRow f81.1.2.1 304 (by decide +kernel)).trans ((fRow f71.1.2.1 304 (by decide +kernel)).trans ((fRow f69.1.2.1 304 (by decide +kernel)).trans ((uRowNe f65 304 (by rw [f56]; decide)).trans ((uRowNe f55 304 (by rw [f46]; decide)).trans ((uRowNe f45 304 (by rw [f36]; decide)).trans ((uRowNe f35 304 (by rw [f26]; decide)).trans ((uRowNe f25 304 (by rw [f18]; decide)).trans ((tq17.2.1).trans ((fRow f15.1.2.1 304 (by decide +kernel)).trans ((uRowNe f13 304 (by rw [f4]; decide)).trans (fRow f11.1.2.1 304 (by decide +kernel))))))))))))), fun hf => ?_⟩
  have hzH12 := fzR c11.1 p12.2.2.1 c11.2 ah12 (fun _ _ => rfl) hf
  have hzH11 := fzR c10.1 c11.1 c10.2 c11.2 (fun n k => pnm_neg n k) hzH12.1
  have hzH10 := fzR p9.2.2.1 c10.1 ah9 c10.2 (fun n k => ptk_neg n k) hzH11.1
  have hzH9 := fzR p8.2.2.1 p9.2.2.1 ah8 ah9 (fun _ _ => rfl) hzH10.1
  have hzH8 := fzR p7.2.2.1 p8.2.2.1 ah7 ah8 (fun _ _ => rfl) hzH9.1
  have hzH7 := fzR p6.2.2.1 p7.2.2.1 ah6 ah7 (fun _ _ => rfl) hzH8.1
  have hzH6 := fzR p5.2.2.1 p6.2.2.1 ah5 ah6 (fun _ _ => rfl) hzH7.1
  have hzH5 := fzR p4.2.2.1 p5.2.2.1 ah4 ah5 (fun _ _ => rfl) hzH6.1
  have hzH4 := fzR c3.1 p4.2.2.1 c3.2 ah4 (fun _ _ => rfl) hzH5.1
  have hzH3 := fzR c2.1 c3.1 c2.2 c3.2 (fun n k => pTime_neg (vwR_ok H0) n k) hzH4.1
  have hzH2 := fzR p1.2.2.1 c2.1 ah1 c2.2 (fun n k => ptk_neg n k) hzH3.1
  have hzH1 := fzR c0.1 p1.2.2.1 c0.2 ah1 (fun _ _ => rfl) hzH2.1
  have hzH0 := fzR z c0.1 rfl c0.2 (fun n k => pnm_neg n k) hzH1.1
  have tv11 := f11.2.2
  unfold yb_223 at tv11
  have tv11 := tv11 z hzH1.1
  have tv81 := f81.2.2
  unfold yb_223 at tv81
  have tv81 := tv81 c10.1 hzH12.1
  rw [v10, c10.2] at tv81
  have td17 := td17 hzH4.1
  rw [v2, c2.2] at td17
  exact ⟨((congrFun (uRowNe f83 300 (by rw [f72]; decide)) _).trans ((congrFun (fRow f81.1.2.1 300 (by decide +kernel)) _).trans ((congrFun (fRow f71.1.2.1 300 (by decide +kernel)) _).trans ((congrFun (fRow f69.1.2.1 300 (by decide +kernel)) _).trans ((congrFun (uRowNe f65 300 (by rw [f56]; decide)) _).trans ((congrFun (uRowNe f55 300 (by rw [f46]; decide)) _).trans ((congrFun (uRowNe f45 300 (by rw [f36]; decide)) _).trans ((congrFun (uRowNe f35 300 (by rw [f26]; decide)) _).trans ((congrFun (uRowNe f25 300 (by rw [f18]; decide)) _).trans ((congrFun tt17.2.2.1 _).trans ((congrFun (fRow f15.1.2.1 300 (by decide +kernel)) _).trans ((congrFun (uRowQ f13 300 f4) _).trans (by rw [uF_at, if_pos (Int.toNat_of_nonneg (by omega))]))))))))))))).trans tv11, ((congrFun (uRowNe f83 301 (by rw [f72]; decide)) _).trans ((congrFun (fRow f81.1.2.1 301 (by decide +kernel)) _).trans ((congrFun (fRow f71.1.2.1 301 (by decide +kernel)) _).trans ((congrFun (fRow f69.1.2.1 301 (by decide +kernel)) _).trans ((congrFun (uRowNe f65 301 (by rw [f56]; decide)) _).trans ((congrFun (uRowNe f55 301 (by rw [f46]; decide)) _).trans ((congrFun (uRowNe f45 301 (by rw [f36]; decide)) _).trans ((congrFun (uRowNe f35 301 (by rw [f26]; decide)) _).trans ((congrFun (uRowNe f25 301 (by rw [f18]; decide)) _).trans ((congrFun ta17 _).trans (by rw [uF_at, if_pos (Int.toNat_of_nonneg (by omega))]))))))))))).trans td17.1, ((congrFun (uRowNe f83 302 (by rw [f72]; decide)) _).trans ((congrFun (fRow f81.1.2.1 302 (by decide +kernel)) _).trans ((congrFun (fRow f71.1.2.1 302 (by decide +kernel)) _).trans ((congrFun (fRow f69.1.2.1 302 (by decide +kernel)) _).trans ((congrFun (uRowNe f65 302 (by rw [f56]; decide)) _).trans ((congrFun (uRowNe f55 302 (by rw [f46]; decide)) _).trans ((congrFun (uRowNe f45 302 (by rw [f36]; decide)) _).trans ((congrFun (uRowNe f35 302 (by rw [f26]; decide)) _).trans ((congrFun (uRowNe f25 302 (by rw [f18]; decide)) _).trans ((congrFun tb17 _).trans (by rw [uF_at, if_pos (Int.toNat_of_nonneg (by omega))]))))))))))).trans td17.2, ((congrFun (uRowQ f83 305 f72) _).trans (by rw [uF_at, if_pos (by omega)])).trans (tv81.trans (opV_yes (p := lyF (vwR H0) (absR H0)) b9).symm), (((congrFun (uRowQ f83 305 f72) _).trans (by rw [uF_at, if_neg (by omega)])).trans ((congrFun (fRow f81.1.2.1 305 (by decide +kernel)) _).trans ((congrFun (fRow f71.1.2.1 305 (by decide +kernel)) _).trans ((congrFun (fRow f69.1.2.1 305 (by decide +kernel)) _).trans (((congrFun (uRowQ f65 305 f56) _).trans (by rw [uF_at, if_neg (by omega)])).trans (((congrFun (uRowQ f55 305 f46) _).trans (by rw [uF_at, if_neg (by omega)])).trans (((congrFun (uRowQ f45 305 f36) _).trans (by rw [uF_at, if_neg (by omega)])).trans ((congrFun (uRowQ f35 305 f26) _).trans (by rw [uF_at, if_pos (by omega)]))))))))).trans f33, (((congrFun (uRowQ f83 305 f72) _).trans (by rw [uF_at, if_neg (by omega)])).trans ((congrFun (fRow f81.1.2.1 305 (by decide +kernel)) _).trans ((congrFun (fRow f71.1.2.1 305 (by decide +kernel)) _).trans ((congrFun (fRow f69.1.2.1 305 (by decide +kernel)) _).trans (((congrFun (uRowQ f65 305 f56) _).trans (by rw [uF_at, if_neg (by omega)])).trans (((congrFun (uRowQ f55 305 f46) _).trans (by rw [uF_at, if_neg (by omega)])).trans ((congrFun (uRowQ f45 305 f36) _).trans (by rw [uF_at, if_pos (by omega)])))))))).trans f43, (((congrFun (uRowQ f83 305 f72) _).trans (by rw [uF_at, if_neg (by omega)])).trans ((congrFun (fRow f81.1.2.1 305 (by decide +kernel)) _).trans ((congrFun (fRow f71.1.2.1 305 (by decide +kernel)) _).trans ((congrFun (fRow f69.1.2.1 305 (by decide +kernel)) _).trans (((congrFun (uRowQ f65 305 f56) _).trans (by rw [uF_at, if_neg (by omega)])).trans ((congrFun (uRowQ f55 305 f46) _).trans (by rw [uF_at, if_pos (by omega)]))))))).trans f53, (((congrFun (uRowQ f83 305 f72) _).trans (by rw [uF_at, if_neg (by omega)])).trans ((congrFun (fRow f81.1.2.1 305 (by decide +kernel)) _).trans ((congrFun (fRow f71.1.2.1 305 (by decide +kernel)) _).trans ((congrFun (fRow f69.1.2.1 305 (by decide +kernel)) _).trans ((congrFun (uRowQ f65 305 f56) _).trans (by rw [uF_at, if_pos (by omega)])))))).trans f63⟩
def g_228y_s_1 : vG := ([(80, [38, 40, 43], [13, 12], 0), (23, [38], [12], 268), (1223, [43, 0, 41, 42], [11, 12], 0), (90, [43], [], 0), (91, [43], [], 9999), (0, [42], [], 60), (0, [41], [], 0), (3, [40, 39, 1], [], 0), (0, [39], [], 6), (20, [38, 0], [11], 31), (23, [0], [11], 12), (0, [38], [], 305), (1219, [0], [10, 11], 0), (31, [37], [], 0), (1216, [37, 0, 36], [9, 10], 0), (90, [37], [], 0), (91, [37], [], 1), (0, [36], [], 26), (80, [30, 34, 35], [9, 8], 0), (23, [30], [8], 268), (0, [35], [], 1), (1, [34, 32, 33], [], 0), (0, [33], [], 4), (3, [32, 31, 1], [], 0), (0, [31], [], 6), (20, [30, 0], [8], 31), (23, [0], [8], 12), (0, [30], [], 305), (80, [24, 28, 29], [8, 7], 0), (23, [24], [7], 268), (0, [29], [], 1), (1, [28, 26, 27], [], 0), (0, [27], [], 3), (3, [26, 25, 1], [], 0), (0, [25], [], 6), (20, [24, 0], [7], 31), (23, [0], [7], 12), (0, [24], [], 305), (80, [18, 22, 23], [7, 6], 0), (23, [18], [6], 268), (0, [23], [], 100), (1, [22, 20, 21], [], 0), (0, [21], [], 2), (3, [20, 19, 1], [], 0), (0, [19], [], 6), (20, [18, 0], [6], 31), (23, [0], [6], 12), (0, [18], [], 305), (80, [12, 16, 17], [6, 5], 0), (23, [12], [5], 268), (0, [17], [], -1), (1, [16, 14, 15], [], 0), (0, [15], [], 1), (3, [14, 13, 1], [], 0), (0, [13], [], 6), (20, [12, 0], [5], 31), (23, [0], [5], 12), (0, [12], [], 305), (80, [8, 10, 11], [5, 4], 0), (23, [8], [4], 268), (0, [11], [], 0), (3, [10, 9, 1], [], 0), (0, [9], [], 6), (20, [8, 0], [4], 31), (23, [0], [4], 12), (0, [8], [], 305), (1229, [0, 1, 7], [3, 4], 0), (0, [7], [], 0), (1220, [0, 6], [2, 3], 0), (0, [6], [], 25), (80, [2, 1, 5], [2, 1], 0), (23, [2], [1], 228), (1223, [5, 0, 3, 4], [0, 1], 0), (90, [5], [], 0), (91, [5], [], 9999), (0, [4], [], 19), (0, [3], [], 0), (20, [2, 0], [0], 26), (23, [0], [0], 12), (0, [2], [], 300), (6000, [0, 1], [0], 0), (0, [0], [], 285), (90, [1], [], 0), (91, [1], [], 1007)], (4000, [0, 1], [13], 113))
theorem c_228y_s_1 : vOkm T0 (eN e_228w L_228y (eAB A_228 B_228) mu_228 y_228 By_228 none) 2 g_228y_s_1 := vOk_inI fun ρ η f0 f1 f2 f3 f4 f5 f6 f7 f8 f9 f10 f11 f12 f13 f14 f15 f16 f17 f18 f19 f20 f21 f22 f23 f24 f25 f26 f27 f28 f29 f30 f31 f32 f33 f34 f35 f36 f37 f38 f39 f40 f41 f42 f43 f44 f45 f46 f47 f48 f49 f50 f51 f52 f53 f54 f55 f56 f57 f58 f59 f60 f61 f62 f63 f64 f65 f66 f67 f68 f69 f70 f71 f72 f73 f74 f75 f76 f77 f78 f79 f80 f81 f82 f83 => q_228y_1 (n0 := ρ 1) (n1 := ρ 0) (n2 := ρ 2) (n3 := ρ 3) (n4 := ρ 4) (n5 := ρ 5) (n6 := ρ 6) (n7 := ρ 7) (n8 := ρ 8) (n9 := ρ 9) (n10 := ρ 10) (n11 := ρ 11) (n12 := ρ 12) (n13 := ρ 13) (n14 := ρ 14) (n15 := ρ 15) (n16 := ρ 16) (n17 := ρ 17) (n18 := ρ 18) (n19 := ρ 19) (n20 := ρ 20) (n21 := ρ 21) (n22 := ρ 22) (n23 := ρ 23) (n24 := ρ 24) (n25 := ρ 25) (n26 := ρ 26) (n27 := ρ 27) (n28 := ρ 28) (n29 := ρ 29) (n30 := ρ 30) (n31 := ρ 31) (n32 := ρ 32) (n33 := ρ 33) (n34 := ρ 34) (n35 := ρ 35) (n36 := ρ 36) (n37 := ρ 37) (n38 := ρ 38) (n39 := ρ 39) (n40 := ρ 40) (n41 := ρ 41) (n42 := ρ 42) (n43 := ρ 43) (H0 := η 0) (H1 := η 1) (H2 := η 2) (H3 := η 3) (H4 := η 4) (H5 := η 5) (H6 := η 6) (H7 := η 7) (H8 := η 8) (H9 := η 9) (H10 := η 10) (H11 := η 11) (H12 := η 12) (H13 := η 13) f83 f82 f81 f80 f79 f78 f77 f76 f75 f74 f73 f72 f71 f70 f69 f68 f67 f66 f65 f64 f63 f62 f61 f60 f59 f58 f57 f56 f55 f54 f53 f52 f51 f50 f49 f48 f47 f46 f45 f44 f43 f42 f41 f40 f39 f38 f37 f36 f35 f34 f33 f32 f31 f30 f29 f28 f27 f26 f25 f24 f23 f22 f21 f20 f19 f18 f17 f16 f15 f14 f13 f12 f11 f10 f9 f8 f7 f6 f5 f4 f3 f2 f1 f0
def p_228y_s : List vG := [g_228y_s_0,
  g_228y_s_1]
theorem r_228y_s : vCovBO (eR0 e_228w L_228w cs_228 2000) p_228y_s = true := by decide +kernel
theorem q_228y_2 {q0 : Nat} {n0 n1 n2 n3 n4 n5 : Int} {H0 H1 H2 : gH} (f0 : n0 ≤ 1007) (f1 : 0 ≤ n0) (f2 : n1 = 285) (f3 : n2 ≤ 1007) (f4 : 0 ≤ n2) (f5 : n3 = 285) (f6 : (hLe T0 H0 H1 ∧ hFr s_228.2.2.2.2 H0 H1 ∧ hWt T0 H1) ∧ (((Ab_228_113 n3 n2 n1 n0 H0 H1 ∧ Bb_228_113 n3 n2 n1 n0 H0 H1) ∧ Byb_228_113 n3 n2 n1 n0 H0 H1) ∧ preb_228 n3 n2 H0) ∧ some q0 = some (mub_228_113 n3 n2 n1 n0 H0 H1)) (f7 : n4 = 27) (f8 : n5 ≤ 1) (f9 : 0 ≤ n5) (f10 : (hLe T0 H1 H2 ∧ hFr s_216.2.2.2.2 H1 H2 ∧ ((0 : Int) = 0 → H2.length = H1.length) ∧ hWt T0 H2) ∧ postb_216 n5 n1 n4 H1 H2) (f11 : n5 = 0) : Byb_228_144 n3 n2 n1 n0 H0 H2 := by
  unfold Byb_228_144
  intro z
  have ga := f6.2.1.1.1.2
  unfold Bb_228_113 at ga
  have gb := ga z
  have vz : vwR H1 = vwR H0 := vwR_fr f6.1.2.1 (by decide +kernel)
  have gy := f6.2.1.1.2
  unfold Byb_228_113 at gy
  obtain ⟨y1, y2, y3, y4, y5, y6⟩ := gy z
  have aa := f6.2.1.1.1.1
  unfold Ab_228_113 at aa
  have ea := aa.1
  clear aa
  subst ea
  have p0 := PR_fr f10.1.2.1 (by decide +kernel) gb.1
  have v0 : vwR H2 = vwR H0 := p0.2.1.trans vz
  have ah0 : absR H2 = (pOpt (vwR H0) 27 0 60 (pTime (vwR H0) (ptk (vwR H0) 26 (pnm (vwR H0) 0 19 (absR H0))))) := p0.1.trans gb.2
  have i0 := f10.2
  unfold postb_216 at i0
  rw [f7] at i0
  have cm0 := f11
  have b0 := (isR_or (k := 27) p0.2.2.1 (by decide) i0).resolve_left (fun w => absurd (w.1.symm.trans cm0) (by decide))
  replace b0 := b0.2
  rw [v0, ah0, kmc_27] at b0
  have cu : CRo H1 H2 n0 := (CRo_8 (CR8_fr f10.1.2.1 (by decide +kernel)))
  refine ⟨CRo_tr y1 cu, (fRow f10.1.2.1 298 (by decide +kernel)).trans y2, (fRow f10.1.2.1 299 (by decide +kernel)).trans y3, (fRow f10.1.2.1 303 (by decide +kernel)).trans y4, (fRow f10.1.2.1 304 (by decide +kernel)).trans y5, fun hf => ?_⟩
  have hzH1 := fzR gb.1 p0.2.2.1 gb.2 ah0 (fun _ _ => rfl) hf
  have y6 := y6 hzH1.1
  obtain ⟨g300_0, g301_0, g302_0, g305_0, g305_1, g305_2, g305_3, g305_4⟩ := y6
  exact ⟨(congrFun (fRow f10.1.2.1 300 (by decide +kernel)) _).trans g300_0, (congrFun (fRow f10.1.2.1 301 (by decide +kernel)) _).trans g301_0, (congrFun (fRow f10.1.2.1 302 (by decide +kernel)) _).trans g302_0, (congrFun (fRow f10.1.2.1 305 (by decide +kernel)) _).trans g305_0, (congrFun (fRow f10.1.2.1 305 (by decide +kernel)) _).trans (g305_1.trans (opV_no (p := lyS (vwR H0) (absR H0)) b0).symm), (congrFun (fRow f10.1.2.1 305 (by decide +kernel)) _).trans g305_2, (congrFun (fRow f10.1.2.1 305 (by decide +kernel)) _).trans g305_3, (congrFun (fRow f10.1.2.1 305 (by decide +kernel)) _).trans g305_4⟩
def g_228y_113_0 : vG := ([(30, [5], [], 0), (1216, [5, 2, 4], [1, 2], 0), (90, [5], [], 0), (91, [5], [], 1), (0, [4], [], 27), (5000, [0, 1, 2, 3], [0, 1], 113), (0, [0], [], 285), (90, [1], [], 0), (91, [1], [], 1007), (0, [2], [], 285), (90, [3], [], 0), (91, [3], [], 1007)], (4000, [2, 3], [2], 144))
theorem c_228y_113_0 {q0 : Nat} : vOkm T0 (eN e_228w L_228y (eAB A_228 B_228) mu_228 y_228 By_228 (some q0)) 2 g_228y_113_0 := vOk_inI fun ρ η f0 f1 f2 f3 f4 f5 f6 f7 f8 f9 f10 f11 => q_228y_2 (q0 := q0) (n0 := ρ 3) (n1 := ρ 2) (n2 := ρ 1) (n3 := ρ 0) (n4 := ρ 4) (n5 := ρ 5) (H0 := η 0) (H1 := η 1) (H2 := η 2) f11 f10 f9 f8 f7 f6 f5 f4 f3 f2 f1 f0
theorem q_228y_3 {q0 : Nat} {n0 n1 n2 n3 n4 n5 n6 n7 n8 n9 n10 n11 n12 n13 : Int} {H0 H1 H2 H3 H4 H5 : gH} (f0 : n0 ≤ 1007) (f1 : 0 ≤ n0) (f2 : n1 = 285) (f3 : n2 ≤ 1007) (f4 : 0 ≤ n2) (f5 : n3 = 285) (f6 : (hLe T0 H0 H1 ∧ hFr s_228.2.2.2.2 H0 H1 ∧ hWt T0 H1) ∧ (((Ab_228_113 n3 n2 n1 n0 H0 H1 ∧ Bb_228_113 n3 n2 n1 n0 H0 H1) ∧ Byb_228_113 n3 n2 n1 n0 H0 H1) ∧ preb_228 n3 n2 H0) ∧ some q0 = some (mub_228_113 n3 n2 n1 n0 H0 H1)) (f7 : n4 = 27) (f8 : n5 ≤ 1) (f9 : 0 ≤ n5) (f10 : (hLe T0 H1 H2 ∧ hFr s_216.2.2.2.2 H1 H2 ∧ ((0 : Int) = 0 → H2.length = H1.length) ∧ hWt T0 H2) ∧ postb_216 n5 n1 n4 H1 H2) (f11 : n5 ≠ 0) (f12 : (hLe T0 H2 H3 ∧ hFr s_219.2.2.2.2 H2 H3 ∧ ((0 : Int) = 0 → H3.length = H2.length) ∧ hWt T0 H3) ∧ (postb_219 n1 H2 H3 ∧ nb_219 n1 H2 H3)) (f13 : n6 = 305) (f14 : hK H3 (n1).toNat = 12) (f15 : n6 = hV H3 (n1).toNat 31) (f16 : n7 = 6) (f17 : n8 = w32 (n7 * n0)) (f18 : n9 = 1) (f19 : n10 = w32 (n8 + n9)) (f20 : n11 = 0) (f21 : n12 = 60) (f22 : n13 ≤ 9999) (f23 : 0 ≤ n13) (f24 : (hLe T0 H3 H4 ∧ hFr s_223.2.2.2.2 H3 H4 ∧ ((0 : Int) = 0 → H4.length = H3.length) ∧ hWt T0 H4) ∧ ((postb_223 n13 n1 n11 n12 H3 H4 ∧ nb_223 n13 n1 n11 n12 H3 H4) ∧ yb_223 n13 n1 n11 n12 H3 H4)) (f25 : hK H4 (n6).toNat = 268) (f26 : hUpd H5 H4 n6 n10 n13) : Byb_228_144 n3 n2 n1 n0 H0 H5 := by
  unfold Byb_228_144
  intro z
  have ga := f6.2.1.1.1.2
  unfold Bb_228_113 at ga
  have gb := ga z
  have vz : vwR H1 = vwR H0 := vwR_fr f6.1.2.1 (by decide +kernel)
  have gy := f6.2.1.1.2
  unfold Byb_228_113 at gy
  obtain ⟨y1, y2, y3, y4, y5, y6⟩ := gy z
  have aa := f6.2.1.1.1.1
  unfold Ab_228_113 at aa
  have ea := aa.1
  clear aa
  subst ea
  have p0 := PR_fr f10.1.2.1 (by decide +kernel) gb.1
  have v0 : vwR H2 = vwR H0 := p0.2.1.trans vz
  have ah0 : absR H2 = (pOpt (vwR H0) 27 0 60 (pTime (vwR H0) (ptk (vwR H0) 26 (pnm (vwR H0) 0 19 (absR H0))))) := p0.1.trans gb.2
  have i0 := f10.2
  unfold postb_216 at i0
  rw [f7] at i0
  have cm0 := f11
  have b0 := (isR_or (k := 27) p0.2.2.1 (by decide) i0).resolve_right (fun w => cm0 w.1)
  replace b0 := b0.2
  rw [v0, ah0, kmc_27] at b0
  have c1 := f12.2.2 p0.2.2.1 (by rw [v0, ah0]; rw [b0]; decide)
  rw [v0, ah0, b0] at c1
  have v1 : vwR H3 = vwR H0 := (vwR_fr f12.1.2.1 (by decide +kernel)).trans v0
  have c2 := f24.2.1.2 c1.1
  try rw [f20] at c2
  try rw [f21] at c2
  rw [v1, c1.2] at c2
  have v2 : vwR H4 = vwR H0 := (vwR_fr f24.1.2.1 (by decide +kernel)).trans v1
  have p3 := PR_row (q := 305) f26 f13 (by decide) c2.1
  have v3 : vwR H5 = vwR H0 := p3.2.1.trans v2
  have ah3 : absR H5 = (pnm (vwR H0) 0 60 (ptk (vwR H0) 28 (pOpt (vwR H0) 27 0 60 (pTime (vwR H0) (ptk (vwR H0) 26 (pnm (vwR H0) 0 19 (absR H0))))))) := p3.1.trans c2.2
  have ix8 : n8 = 6 * n0 := by
    have w := f17
    rw [f16] at w
    unfold w32 at w
    omega
  have ix10 : n10 = 6 * n0 + 1 := by
    have w := f19
    rw [f18] at w
    unfold w32 at w
    omega
  have cu : CRo H1 H5 n0 := (CRo_tr (CRo_8 (CR8_fr f10.1.2.1 (by decide +kernel))) (CRo_tr (CRo_8 (CR8_fr f12.1.2.1 (by decide +kernel))) (CRo_tr (CRo_8 (CR8_fr f24.1.2.1 (by decide +kernel))) (CRo_up5 f26 f13 (k := 1) (by omega) (by decide) (by decide)))))
  refine ⟨CRo_tr y1 cu, ((uRowNe f26 298 (by rw [f13]; decide)).trans ((fRow f24.1.2.1 298 (by decide +kernel)).trans ((fRow f12.1.2.1 298 (by decide +kernel)).trans (fRow f10.1.2.1 298 (by decide +kernel))))).trans y2, ((uRowNe f26 299 (by rw [f13]; decide)).trans ((fRow f24.1.2.1 299 (by decide +kernel)).trans ((fRow f12.1.2.1 299 (by decide +kernel)).trans (fRow f10.1.2.1 299 (by decide +kernel))))).trans y3, ((uRowNe f26 303 (by rw [f13]; decide)).trans ((fRow f24.1.2.1 303 (by decide +kernel)).trans ((fRow f12.1.2.1 303 (by decide +kernel)).trans (fRow f10.1.2.1 303 (by decide +kernel))))).trans y4, ((uRowNe f26 304 (by rw [f13]; decide)).trans ((fRow f24.1.2.1 304 (by decide +kernel)).trans ((fRow f12.1.2.1 304 (by decide +kernel)).trans (fRow f10.1.2.1 304 (by decide +kernel))))).trans y5, fun hf => ?_⟩
  have hzH4 := fzR c2.1 p3.2.2.1 c2.2 ah3 (fun _ _ => rfl) hf
  have hzH3 := fzR c1.1 c2.1 c1.2 c2.2 (fun n k => pnm_neg n k) hzH4.1
  have hzH2 := fzR p0.2.2.1 c1.1 ah0 c1.2 (fun n k => ptk_neg n k) hzH3.1
  have hzH1 := fzR gb.1 p0.2.2.1 gb.2 ah0 (fun _ _ => rfl) hzH2.1
  have tv24 := f24.2.2
  unfold yb_223 at tv24
  have tv24 := tv24 c1.1 hzH4.1
  rw [v1, c1.2] at tv24
  have y6 := y6 hzH1.1
  obtain ⟨g300_0, g301_0, g302_0, g305_0, g305_1, g305_2, g305_3, g305_4⟩ := y6
  exact ⟨((congrFun (uRowNe f26 300 (by rw [f13]; decide)) _).trans ((congrFun (fRow f24.1.2.1 300 (by decide +kernel)) _).trans ((congrFun (fRow f12.1.2.1 300 (by decide +kernel)) _).trans (congrFun (fRow f10.1.2.1 300 (by decide +kernel)) _)))).trans g300_0, ((congrFun (uRowNe f26 301 (by rw [f13]; decide)) _).trans ((congrFun (fRow f24.1.2.1 301 (by decide +kernel)) _).trans ((congrFun (fRow f12.1.2.1 301 (by decide +kernel)) _).trans (congrFun (fRow f10.1.2.1 301 (by decide +kernel)) _)))).trans g301_0, ((congrFun (uRowNe f26 302 (by rw [f13]; decide)) _).trans ((congrFun (fRow f24.1.2.1 302 (by decide +kernel)) _).trans ((congrFun (fRow f12.1.2.1 302 (by decide +kernel)) _).trans (congrFun (fRow f10.1.2.1 302 (by decide +kernel)) _)))).trans g302_0, (((congrFun (uRowQ f26 305 f13) _).trans (by rw [uF_at, if_neg (by omega)])).trans ((congrFun (fRow f24.1.2.1 305 (by decide +kernel)) _).trans ((congrFun (fRow f12.1.2.1 305 (by decide +kernel)) _).trans (congrFun (fRow f10.1.2.1 305 (by decide +kernel)) _)))).trans g305_0, ((congrFun (uRowQ f26 305 f13) _).trans (by rw [uF_at, if_pos (by omega)])).trans (tv24.trans (opV_yes (p := lyS (vwR H0) (absR H0)) b0).symm), (((congrFun (uRowQ f26 305 f13) _).trans (by rw [uF_at, if_neg (by omega)])).trans ((congrFun (fRow f24.1.2.1 305 (by decide +kernel)) _).trans ((congrFun (fRow f12.1.2.1 305 (by decide +kernel)) _).trans (congrFun (fRow f10.1.2.1 305 (by decide +kernel)) _)))).trans g305_2, (((congrFun (uRowQ f26 305 f13) _).trans (by rw [uF_at, if_neg (by omega)])).trans ((congrFun (fRow f24.1.2.1 305 (by decide +kernel)) _).trans ((congrFun (fRow f12.1.2.1 305 (by decide +kernel)) _).trans (congrFun (fRow f10.1.2.1 305 (by decide +kernel)) _)))).trans g305_3, (((congrFun (uRowQ f26 305 f13) _).trans (by rw [uF_at, if_neg (by omega)])).trans ((congrFun (fRow f24.1.2.1 305 (by decide +kernel)) _).trans ((congrFun (fRow f12.1.2.1 305 (by decide +kernel)) _).trans (congrFun (fRow f10.1.2.1 305 (by decide +kernel)) _)))).trans g305_4⟩
def g_228y_113_1 : vG := ([(80, [6, 10, 13], [5, 4], 0), (23, [6], [4], 268), (1223, [13, 2, 11, 12], [3, 4], 0), (90, [13], [], 0), (91, [13], [], 9999), (0, [12], [], 60), (0, [11], [], 0), (1, [10, 8, 9], [], 0), (0, [9], [], 1), (3, [8, 7, 3], [], 0), (0, [7], [], 6), (20, [6, 2], [3], 31), (23, [2], [3], 12), (0, [6], [], 305), (1219, [2], [2, 3], 0), (31, [5], [], 0), (1216, [5, 2, 4], [1, 2], 0), (90, [5], [], 0), (91, [5], [], 1), (0, [4], [], 27), (5000, [0, 1, 2, 3], [0, 1], 113), (0, [0], [], 285), (90, [1], [], 0), (91, [1], [], 1007), (0, [2], [], 285), (90, [3], [], 0), (91, [3], [], 1007)], (4000, [2, 3], [5], 144))
theorem c_228y_113_1 {q0 : Nat} : vOkm T0 (eN e_228w L_228y (eAB A_228 B_228) mu_228 y_228 By_228 (some q0)) 2 g_228y_113_1 := vOk_inI fun ρ η f0 f1 f2 f3 f4 f5 f6 f7 f8 f9 f10 f11 f12 f13 f14 f15 f16 f17 f18 f19 f20 f21 f22 f23 f24 f25 f26 => q_228y_3 (q0 := q0) (n0 := ρ 3) (n1 := ρ 2) (n2 := ρ 1) (n3 := ρ 0) (n4 := ρ 4) (n5 := ρ 5) (n6 := ρ 6) (n7 := ρ 7) (n8 := ρ 8) (n9 := ρ 9) (n10 := ρ 10) (n11 := ρ 11) (n12 := ρ 12) (n13 := ρ 13) (H0 := η 0) (H1 := η 1) (H2 := η 2) (H3 := η 3) (H4 := η 4) (H5 := η 5) f26 f25 f24 f23 f22 f21 f20 f19 f18 f17 f16 f15 f14 f13 f12 f11 f10 f9 f8 f7 f6 f5 f4 f3 f2 f1 f0
def p_228y_113 : List vG := [g_228y_113_0,
  g_228y_113_1]
theorem r_228y_113 : vCovBO (eRc e_228w L_228w cs_228 2000 (113, [(0, (3, 12, 285, 0)), (1, (0, 0, 1007, 0))])) p_228y_113 = true := by decide +kernel
theorem q_228y_4 {q0 : Nat} {n0 n1 n2 n3 n4 n5 : Int} {H0 H1 H2 : gH} (f0 : n0 ≤ 1007) (f1 : 0 ≤ n0) (f2 : n1 = 285) (f3 : n2 ≤ 1007) (f4 : 0 ≤ n2) (f5 : n3 = 285) (f6 : (hLe T0 H0 H1 ∧ hFr s_228.2.2.2.2 H0 H1 ∧ hWt T0 H1) ∧ (((Ab_228_144 n3 n2 n1 n0 H0 H1 ∧ Bb_228_144 n3 n2 n1 n0 H0 H1) ∧ Byb_228_144 n3 n2 n1 n0 H0 H1) ∧ preb_228 n3 n2 H0) ∧ some q0 = some (mub_228_144 n3 n2 n1 n0 H0 H1)) (f7 : n4 = 28) (f8 : n5 ≤ 1) (f9 : 0 ≤ n5) (f10 : (hLe T0 H1 H2 ∧ hFr s_216.2.2.2.2 H1 H2 ∧ ((0 : Int) = 0 → H2.length = H1.length) ∧ hWt T0 H2) ∧ postb_216 n5 n1 n4 H1 H2) (f11 : n5 = 0) : Byb_228_176 n3 n2 n1 n0 H0 H2 := by
  unfold Byb_228_176
  intro z
  have ga := f6.2.1.1.1.2
  unfold Bb_228_144 at ga
  have gb := ga z
  have vz : vwR H1 = vwR H0 := vwR_fr f6.1.2.1 (by decide +kernel)
  have gy := f6.2.1.1.2
  unfold Byb_228_144 at gy
  obtain ⟨y1, y2, y3, y4, y5, y6⟩ := gy z
  have aa := f6.2.1.1.1.1
  unfold Ab_228_144 at aa
  have ea := aa.1
  clear aa
  subst ea
  have p0 := PR_fr f10.1.2.1 (by decide +kernel) gb.1
  have v0 : vwR H2 = vwR H0 := p0.2.1.trans vz
  have ah0 : absR H2 = (pOpt (vwR H0) 28 0 60 (pOpt (vwR H0) 27 0 60 (pTime (vwR H0) (ptk (vwR H0) 26 (pnm (vwR H0) 0 19 (absR H0)))))) := p0.1.trans gb.2
  have i0 := f10.2
  unfold postb_216 at i0
  rw [f7] at i0
  have cm0 := f11
  have b0 := (isR_or (k := 28) p0.2.2.1 (by decide) i0).resolve_left (fun w => absurd (w.1.symm.trans cm0) (by decide))
  replace b0 := b0.2
  rw [v0, ah0, kmc_28] at b0
  have cu : CRo H1 H2 n0 := (CRo_8 (CR8_fr f10.1.2.1 (by decide +kernel)))
  refine ⟨CRo_tr y1 cu, (fRow f10.1.2.1 298 (by decide +kernel)).trans y2, (fRow f10.1.2.1 299 (by decide +kernel)).trans y3, (fRow f10.1.2.1 303 (by decide +kernel)).trans y4, (fRow f10.1.2.1 304 (by decide +kernel)).trans y5, fun hf => ?_⟩
  have hzH1 := fzR gb.1 p0.2.2.1 gb.2 ah0 (fun _ _ => rfl) hf
  have y6 := y6 hzH1.1
  obtain ⟨g300_0, g301_0, g302_0, g305_0, g305_1, g305_2, g305_3, g305_4⟩ := y6
  exact ⟨(congrFun (fRow f10.1.2.1 300 (by decide +kernel)) _).trans g300_0, (congrFun (fRow f10.1.2.1 301 (by decide +kernel)) _).trans g301_0, (congrFun (fRow f10.1.2.1 302 (by decide +kernel)) _).trans g302_0, (congrFun (fRow f10.1.2.1 305 (by decide +kernel)) _).trans g305_0, (congrFun (fRow f10.1.2.1 305 (by decide +kernel)) _).trans g305_1, (congrFun (fRow f10.1.2.1 305 (by decide +kernel)) _).trans (g305_2.trans (opV_no (p := lyG (vwR H0) (absR H0)) b0).symm), (congrFun (fRow f10.1.2.1 305 (by decide +kernel)) _).trans g305_3, (congrFun (fRow f10.1.2.1 305 (by decide +kernel)) _).trans g305_4⟩
def g_228y_144_0 : vG := ([(30, [5], [], 0), (1216, [5, 2, 4], [1, 2], 0), (90, [5], [], 0), (91, [5], [], 1), (0, [4], [], 28), (5000, [0, 1, 2, 3], [0, 1], 144), (0, [0], [], 285), (90, [1], [], 0), (91, [1], [], 1007), (0, [2], [], 285), (90, [3], [], 0), (91, [3], [], 1007)], (4000, [2, 3], [2], 176))
theorem c_228y_144_0 {q0 : Nat} : vOkm T0 (eN e_228w L_228y (eAB A_228 B_228) mu_228 y_228 By_228 (some q0)) 2 g_228y_144_0 := vOk_inI fun ρ η f0 f1 f2 f3 f4 f5 f6 f7 f8 f9 f10 f11 => q_228y_4 (q0 := q0) (n0 := ρ 3) (n1 := ρ 2) (n2 := ρ 1) (n3 := ρ 0) (n4 := ρ 4) (n5 := ρ 5) (H0 := η 0) (H1 := η 1) (H2 := η 2) f11 f10 f9 f8 f7 f6 f5 f4 f3 f2 f1 f0
theorem q_228y_5 {q0 : Nat} {n0 n1 n2 n3 n4 n5 n6 n7 n8 n9 n10 n11 n12 n13 : Int} {H0 H1 H2 H3 H4 H5 : gH} (f0 : n0 ≤ 1007) (f1 : 0 ≤ n0) (f2 : n1 = 285) (f3 : n2 ≤ 1007) (f4 : 0 ≤ n2) (f5 : n3 = 285) (f6 : (hLe T0 H0 H1 ∧ hFr s_228.2.2.2.2 H0 H1 ∧ hWt T0 H1) ∧ (((Ab_228_144 n3 n2 n1 n0 H0 H1 ∧ Bb_228_144 n3 n2 n1 n0 H0 H1) ∧ Byb_228_144 n3 n2 n1 n0 H0 H1) ∧ preb_228 n3 n2 H0) ∧ some q0 = some (mub_228_144 n3 n2 n1 n0 H0 H1)) (f7 : n4 = 28) (f8 : n5 ≤ 1) (f9 : 0 ≤ n5) (f10 : (hLe T0 H1 H2 ∧ hFr s_216.2.2.2.2 H1 H2 ∧ ((0 : Int) = 0 → H2.length = H1.length) ∧ hWt T0 H2) ∧ postb_216 n5 n1 n4 H1 H2) (f11 : n5 ≠ 0) (f12 : (hLe T0 H2 H3 ∧ hFr s_219.2.2.2.2 H2 H3 ∧ ((0 : Int) = 0 → H3.length = H2.length) ∧ hWt T0 H3) ∧ (postb_219 n1 H2 H3 ∧ nb_219 n1 H2 H3)) (f13 : n6 = 305) (f14 : hK H3 (n1).toNat = 12) (f15 : n6 = hV H3 (n1).toNat 31) (f16 : n7 = 6) (f17 : n8 = w32 (n7 * n0)) (f18 : n9 = 2) (f19 : n10 = w32 (n8 + n9)) (f20 : n11 = 0) (f21 : n12 = 400) (f22 : n13 ≤ 9999) (f23 : 0 ≤ n13) (f24 : (hLe T0 H3 H4 ∧ hFr s_223.2.2.2.2 H3 H4 ∧ ((0 : Int) = 0 → H4.length = H3.length) ∧ hWt T0 H4) ∧ ((postb_223 n13 n1 n11 n12 H3 H4 ∧ nb_223 n13 n1 n11 n12 H3 H4) ∧ yb_223 n13 n1 n11 n12 H3 H4)) (f25 : hK H4 (n6).toNat = 268) (f26 : hUpd H5 H4 n6 n10 n13) : Byb_228_176 n3 n2 n1 n0 H0 H5 := by
  unfold Byb_228_176
  intro z
  have ga := f6.2.1.1.1.2
  unfold Bb_228_144 at ga
  have gb := ga z
  have vz : vwR H1 = vwR H0 := vwR_fr f6.1.2.1 (by decide +kernel)
  have gy := f6.2.1.1.2
  unfold Byb_228_144 at gy
  obtain ⟨y1, y2, y3, y4, y5, y6⟩ := gy z
  have aa := f6.2.1.1.1.1
  unfold Ab_228_144 at aa
  have ea := aa.1
  clear aa
  subst ea
  have p0 := PR_fr f10.1.2.1 (by decide +kernel) gb.1
  have v0 : vwR H2 = vwR H0 := p0.2.1.trans vz
  have ah0 : absR H2 = (pOpt (vwR H0) 28 0 60 (pOpt (vwR H0) 27 0 60 (pTime (vwR H0) (ptk (vwR H0) 26 (pnm (vwR H0) 0 19 (absR H0)))))) := p0.1.trans gb.2
  have i0 := f10.2
  unfold postb_216 at i0
  rw [f7] at i0
  have cm0 := f11
  have b0 := (isR_or (k := 28) p0.2.2.1 (by decide) i0).resolve_right (fun w => cm0 w.1)
  replace b0 := b0.2
  rw [v0, ah0, kmc_28] at b0
  have c1 := f12.2.2 p0.2.2.1 (by rw [v0, ah0]; rw [b0]; decide)
  rw [v0, ah0, b0] at c1
  have v1 : vwR H3 = vwR H0 := (vwR_fr f12.1.2.1 (by decide +kernel)).trans v0
  have c2 := f24.2.1.2 c1.1
  try rw [f20] at c2
  try rw [f21] at c2
  rw [v1, c1.2] at c2
  have v2 : vwR H4 = vwR H0 := (vwR_fr f24.1.2.1 (by decide +kernel)).trans v1
  have p3 := PR_row (q := 305) f26 f13 (by decide) c2.1
  have v3 : vwR H5 = vwR H0 := p3.2.1.trans v2
  have ah3 : absR H5 = (pnm (vwR H0) 0 400 (ptk (vwR H0) 29 (pOpt (vwR H0) 28 0 60 (pOpt (vwR H0) 27 0 60 (pTime (vwR H0) (ptk (vwR H0) 26 (pnm (vwR H0) 0 19 (absR H0)))))))) := p3.1.trans c2.2
  have ix8 : n8 = 6 * n0 := by
    have w := f17
    rw [f16] at w
    unfold w32 at w
    omega
  have ix10 : n10 = 6 * n0 + 2 := by
    have w := f19
    rw [f18] at w
    unfold w32 at w
    omega
  have cu : CRo H1 H5 n0 := (CRo_tr (CRo_8 (CR8_fr f10.1.2.1 (by decide +kernel))) (CRo_tr (CRo_8 (CR8_fr f12.1.2.1 (by decide +kernel))) (CRo_tr (CRo_8 (CR8_fr f24.1.2.1 (by decide +kernel))) (CRo_up5 f26 f13 (k := 2) (by omega) (by decide) (by decide)))))
  refine ⟨CRo_tr y1 cu, ((uRowNe f26 298 (by rw [f13]; decide)).trans ((fRow f24.1.2.1 298 (by decide +kernel)).trans ((fRow f12.1.2.1 298 (by decide +kernel)).trans (fRow f10.1.2.1 298 (by decide +kernel))))).trans y2, ((uRowNe f26 299 (by rw [f13]; decide)).trans ((fRow f24.1.2.1 299 (by decide +kernel)).trans ((fRow f12.1.2.1 299 (by decide +kernel)).trans (fRow f10.1.2.1 299 (by decide +kernel))))).trans y3, ((uRowNe f26 303 (by rw [f13]; decide)).trans ((fRow f24.1.2.1 303 (by decide +kernel)).trans ((fRow f12.1.2.1 303 (by decide +kernel)).trans (fRow f10.1.2.1 303 (by decide +kernel))))).trans y4, ((uRowNe f26 304 (by rw [f13]; decide)).trans ((fRow f24.1.2.1 304 (by decide +kernel)).trans ((fRow f12.1.2.1 304 (by decide +kernel)).trans (fRow f10.1.2.1 304 (by decide +kernel))))).trans y5, fun hf => ?_⟩
  have hzH4 := fzR c2.1 p3.2.2.1 c2.2 ah3 (fun _ _ => rfl) hf
  have hzH3 := fzR c1.1 c2.1 c1.2 c2.2 (fun n k => pnm_neg n k) hzH4.1
  have hzH2 := fzR p0.2.2.1 c1.1 ah0 c1.2 (fun n k => ptk_neg n k) hzH3.1
  have hzH1 := fzR gb.1 p0.2.2.1 gb.2 ah0 (fun _ _ => rfl) hzH2.1
  have tv24 := f24.2.2
  unfold yb_223 at tv24
  have tv24 := tv24 c1.1 hzH4.1
  rw [v1, c1.2] at tv24
  have y6 := y6 hzH1.1
  obtain ⟨g300_0, g301_0, g302_0, g305_0, g305_1, g305_2, g305_3, g305_4⟩ := y6
  exact ⟨((congrFun (uRowNe f26 300 (by rw [f13]; decide)) _).trans ((congrFun (fRow f24.1.2.1 300 (by decide +kernel)) _).trans ((congrFun (fRow f12.1.2.1 300 (by decide +kernel)) _).trans (congrFun (fRow f10.1.2.1 300 (by decide +kernel)) _)))).trans g300_0, ((congrFun (uRowNe f26 301 (by rw [f13]; decide)) _).trans ((congrFun (fRow f24.1.2.1 301 (by decide +kernel)) _).trans ((congrFun (fRow f12.1.2.1 301 (by decide +kernel)) _).trans (congrFun (fRow f10.1.2.1 301 (by decide +kernel)) _)))).trans g301_0, ((congrFun (uRowNe f26 302 (by rw [f13]; decide)) _).trans ((congrFun (fRow f24.1.2.1 302 (by decide +kernel)) _).trans ((congrFun (fRow f12.1.2.1 302 (by decide +kernel)) _).trans (congrFun (fRow f10.1.2.1 302 (by decide +kernel)) _)))).trans g302_0, (((congrFun (uRowQ f26 305 f13) _).trans (by rw [uF_at, if_neg (by omega)])).trans ((congrFun (fRow f24.1.2.1 305 (by decide +kernel)) _).trans ((congrFun (fRow f12.1.2.1 305 (by decide +kernel)) _).trans (congrFun (fRow f10.1.2.1 305 (by decide +kernel)) _)))).trans g305_0, (((congrFun (uRowQ f26 305 f13) _).trans (by rw [uF_at, if_neg (by omega)])).trans ((congrFun (fRow f24.1.2.1 305 (by decide +kernel)) _).trans ((congrFun (fRow f12.1.2.1 305 (by decide +kernel)) _).trans (congrFun (fRow f10.1.2.1 305 (by decide +kernel)) _)))).trans g305_1, ((congrFun (uRowQ f26 305 f13) _).trans (by rw [uF_at, if_pos (by omega)])).trans (tv24.trans (opV_yes (p := lyG (vwR H0) (absR H0)) b0).symm), (((congrFun (uRowQ f26 305 f13) _).trans (by rw [uF_at, if_neg (by omega)])).trans ((congrFun (fRow f24.1.2.1 305 (by decide +kernel)) _).trans ((congrFun (fRow f12.1.2.1 305 (by decide +kernel)) _).trans (congrFun (fRow f10.1.2.1 305 (by decide +kernel)) _)))).trans g305_3, (((congrFun (uRowQ f26 305 f13) _).trans (by rw [uF_at, if_neg (by omega)])).trans ((congrFun (fRow f24.1.2.1 305 (by decide +kernel)) _).trans ((congrFun (fRow f12.1.2.1 305 (by decide +kernel)) _).trans (congrFun (fRow f10.1.2.1 305 (by decide +kernel)) _)))).trans g305_4⟩
def g_228y_144_1 : vG := ([(80, [6, 10, 13], [5, 4], 0), (23, [6], [4], 268), (1223, [13, 2, 11, 12], [3, 4], 0), (90, [13], [], 0), (91, [13], [], 9999), (0, [12], [], 400), (0, [11], [], 0), (1, [10, 8, 9], [], 0), (0, [9], [], 2), (3, [8, 7, 3], [], 0), (0, [7], [], 6), (20, [6, 2], [3], 31), (23, [2], [3], 12), (0, [6], [], 305), (1219, [2], [2, 3], 0), (31, [5], [], 0), (1216, [5, 2, 4], [1, 2], 0), (90, [5], [], 0), (91, [5], [], 1), (0, [4], [], 28), (5000, [0, 1, 2, 3], [0, 1], 144), (0, [0], [], 285), (90, [1], [], 0), (91, [1], [], 1007), (0, [2], [], 285), (90, [3], [], 0), (91, [3], [], 1007)], (4000, [2, 3], [5], 176))
theorem c_228y_144_1 {q0 : Nat} : vOkm T0 (eN e_228w L_228y (eAB A_228 B_228) mu_228 y_228 By_228 (some q0)) 2 g_228y_144_1 := vOk_inI fun ρ η f0 f1 f2 f3 f4 f5 f6 f7 f8 f9 f10 f11 f12 f13 f14 f15 f16 f17 f18 f19 f20 f21 f22 f23 f24 f25 f26 => q_228y_5 (q0 := q0) (n0 := ρ 3) (n1 := ρ 2) (n2 := ρ 1) (n3 := ρ 0) (n4 := ρ 4) (n5 := ρ 5) (n6 := ρ 6) (n7 := ρ 7) (n8 := ρ 8) (n9 := ρ 9) (n10 := ρ 10) (n11 := ρ 11) (n12 := ρ 12) (n13 := ρ 13) (H0 := η 0) (H1 := η 1) (H2 := η 2) (H3 := η 3) (H4 := η 4) (H5 := η 5) f26 f25 f24 f23 f22 f21 f20 f19 f18 f17 f16 f15 f14 f13 f12 f11 f10 f9 f8 f7 f6 f5 f4 f3 f2 f1 f0
def p_228y_144 : List vG := [g_228y_144_0,
  g_228y_144_1]
theorem r_228y_144 : vCovBO (eRc e_228w L_228w cs_228 2000 (144, [(0, (3, 12, 285, 0)), (1, (0, 0, 1007, 0))])) p_228y_144 = true := by decide +kernel
theorem q_228y_6 {q0 : Nat} {n0 n1 n2 n3 n4 n5 : Int} {H0 H1 H2 : gH} (f0 : n0 ≤ 1007) (f1 : 0 ≤ n0) (f2 : n1 = 285) (f3 : n2 ≤ 1007) (f4 : 0 ≤ n2) (f5 : n3 = 285) (f6 : (hLe T0 H0 H1 ∧ hFr s_228.2.2.2.2 H0 H1 ∧ hWt T0 H1) ∧ (((Ab_228_176 n3 n2 n1 n0 H0 H1 ∧ Bb_228_176 n3 n2 n1 n0 H0 H1) ∧ Byb_228_176 n3 n2 n1 n0 H0 H1) ∧ preb_228 n3 n2 H0) ∧ some q0 = some (mub_228_176 n3 n2 n1 n0 H0 H1)) (f7 : n4 = 29) (f8 : n5 ≤ 1) (f9 : 0 ≤ n5) (f10 : (hLe T0 H1 H2 ∧ hFr s_216.2.2.2.2 H1 H2 ∧ ((0 : Int) = 0 → H2.length = H1.length) ∧ hWt T0 H2) ∧ postb_216 n5 n1 n4 H1 H2) (f11 : n5 = 0) : Byb_228_231 n3 n2 n1 n0 H0 H2 := by
  unfold Byb_228_231
  intro z
  have ga := f6.2.1.1.1.2
  unfold Bb_228_176 at ga
  have gb := ga z
  have vz : vwR H1 = vwR H0 := vwR_fr f6.1.2.1 (by decide +kernel)
  have gy := f6.2.1.1.2
  unfold Byb_228_176 at gy
  obtain ⟨y1, y2, y3, y4, y5, y6⟩ := gy z
  have aa := f6.2.1.1.1.1
  unfold Ab_228_176 at aa
  have ea := aa.1
  clear aa
  subst ea
  have p0 := PR_fr f10.1.2.1 (by decide +kernel) gb.1
  have v0 : vwR H2 = vwR H0 := p0.2.1.trans vz
  have ah0 : absR H2 = (pOpt (vwR H0) 29 0 400 (pOpt (vwR H0) 28 0 60 (pOpt (vwR H0) 27 0 60 (pTime (vwR H0) (ptk (vwR H0) 26 (pnm (vwR H0) 0 19 (absR H0))))))) := p0.1.trans gb.2
  have i0 := f10.2
  unfold postb_216 at i0
  rw [f7] at i0
  have cm0 := f11
  have b0 := (isR_or (k := 29) p0.2.2.1 (by decide) i0).resolve_left (fun w => absurd (w.1.symm.trans cm0) (by decide))
  replace b0 := b0.2
  rw [v0, ah0, kmc_29] at b0
  have cu : CRo H1 H2 n0 := (CRo_8 (CR8_fr f10.1.2.1 (by decide +kernel)))
  refine ⟨CRo_tr y1 cu, (fRow f10.1.2.1 298 (by decide +kernel)).trans y2, (fRow f10.1.2.1 299 (by decide +kernel)).trans y3, (fRow f10.1.2.1 303 (by decide +kernel)).trans y4, (fRow f10.1.2.1 304 (by decide +kernel)).trans y5, fun hf => ?_⟩
  have hzH1 := fzR gb.1 p0.2.2.1 gb.2 ah0 (fun _ _ => rfl) hf
  have y6 := y6 hzH1.1
  obtain ⟨g300_0, g301_0, g302_0, g305_0, g305_1, g305_2, g305_3, g305_4⟩ := y6
  exact ⟨(congrFun (fRow f10.1.2.1 300 (by decide +kernel)) _).trans g300_0, (congrFun (fRow f10.1.2.1 301 (by decide +kernel)) _).trans g301_0, (congrFun (fRow f10.1.2.1 302 (by decide +kernel)) _).trans g302_0, (congrFun (fRow f10.1.2.1 305 (by decide +kernel)) _).trans g305_0, (congrFun (fRow f10.1.2.1 305 (by decide +kernel)) _).trans g305_1, (congrFun (fRow f10.1.2.1 305 (by decide +kernel)) _).trans g305_2, (congrFun (fRow f10.1.2.1 305 (by decide +kernel)) _).trans (g305_3.trans (opV_no (p := lyU (vwR H0) (absR H0)) b0).symm), (congrFun (fRow f10.1.2.1 305 (by decide +kernel)) _).trans (g305_4.trans (opL_no (p := lyU (vwR H0) (absR H0)) b0).symm)⟩
def g_228y_176_0 : vG := ([(30, [5], [], 0), (1216, [5, 2, 4], [1, 2], 0), (90, [5], [], 0), (91, [5], [], 1), (0, [4], [], 29), (5000, [0, 1, 2, 3], [0, 1], 176), (0, [0], [], 285), (90, [1], [], 0), (91, [1], [], 1007), (0, [2], [], 285), (90, [3], [], 0), (91, [3], [], 1007)], (4000, [2, 3], [2], 231))
theorem c_228y_176_0 {q0 : Nat} : vOkm T0 (eN e_228w L_228y (eAB A_228 B_228) mu_228 y_228 By_228 (some q0)) 2 g_228y_176_0 := vOk_inI fun ρ η f0 f1 f2 f3 f4 f5 f6 f7 f8 f9 f10 f11 => q_228y_6 (q0 := q0) (n0 := ρ 3) (n1 := ρ 2) (n2 := ρ 1) (n3 := ρ 0) (n4 := ρ 4) (n5 := ρ 5) (H0 := η 0) (H1 := η 1) (H2 := η 2) f11 f10 f9 f8 f7 f6 f5 f4 f3 f2 f1 f0
theorem q_228y_7 {q0 : Nat} {n0 n1 n2 n3 n4 n5 n6 n7 n8 n9 n10 n11 n12 n13 n14 n15 n16 n17 n18 n19 n20 n21 n22 : Int} {H0 H1 H2 H3 H4 H5 H6 H7 H8 : gH} (f0 : n0 ≤ 1007) (f1 : 0 ≤ n0) (f2 : n1 = 285) (f3 : n2 ≤ 1007) (f4 : 0 ≤ n2) (f5 : n3 = 285) (f6 : (hLe T0 H0 H1 ∧ hFr s_228.2.2.2.2 H0 H1 ∧ hWt T0 H1) ∧ (((Ab_228_176 n3 n2 n1 n0 H0 H1 ∧ Bb_228_176 n3 n2 n1 n0 H0 H1) ∧ Byb_228_176 n3 n2 n1 n0 H0 H1) ∧ preb_228 n3 n2 H0) ∧ some q0 = some (mub_228_176 n3 n2 n1 n0 H0 H1)) (f7 : n4 = 29) (f8 : n5 ≤ 1) (f9 : 0 ≤ n5) (f10 : (hLe T0 H1 H2 ∧ hFr s_216.2.2.2.2 H1 H2 ∧ ((0 : Int) = 0 → H2.length = H1.length) ∧ hWt T0 H2) ∧ postb_216 n5 n1 n4 H1 H2) (f11 : n5 ≠ 0) (f12 : (hLe T0 H2 H3 ∧ hFr s_219.2.2.2.2 H2 H3 ∧ ((0 : Int) = 0 → H3.length = H2.length) ∧ hWt T0 H3) ∧ (postb_219 n1 H2 H3 ∧ nb_219 n1 H2 H3)) (f13 : n6 = 305) (f14 : hK H3 (n1).toNat = 12) (f15 : n6 = hV H3 (n1).toNat 31) (f16 : n7 = 6) (f17 : n8 = w32 (n7 * n0)) (f18 : n9 = 3) (f19 : n10 = w32 (n8 + n9)) (f20 : n11 = 1) (f21 : n12 = 9) (f22 : n13 ≤ 9999) (f23 : 0 ≤ n13) (f24 : (hLe T0 H3 H4 ∧ hFr s_223.2.2.2.2 H3 H4 ∧ ((0 : Int) = 0 → H4.length = H3.length) ∧ hWt T0 H4) ∧ ((postb_223 n13 n1 n11 n12 H3 H4 ∧ nb_223 n13 n1 n11 n12 H3 H4) ∧ yb_223 n13 n1 n11 n12 H3 H4)) (f25 : hK H4 (n6).toNat = 268) (f26 : hUpd H5 H4 n6 n10 n13) (f27 : n14 = 15) (f28 : (hLe T0 H5 H6 ∧ hFr s_220.2.2.2.2 H5 H6 ∧ ((0 : Int) = 0 → H6.length = H5.length) ∧ hWt T0 H6) ∧ (postb_220 n1 n14 H5 H6 ∧ nb_220 n1 n14 H5 H6)) (f29 : n15 = 305) (f30 : hK H6 (n1).toNat = 12) (f31 : n15 = hV H6 (n1).toNat 31) (f32 : n16 = 6) (f33 : n17 = w32 (n16 * n0)) (f34 : n18 = 4) (f35 : n19 = w32 (n17 + n18)) (f36 : n20 = 1) (f37 : n21 = 9) (f38 : n22 ≤ 9999) (f39 : 0 ≤ n22) (f40 : (hLe T0 H6 H7 ∧ hFr s_223.2.2.2.2 H6 H7 ∧ ((0 : Int) = 0 → H7.length = H6.length) ∧ hWt T0 H7) ∧ ((postb_223 n22 n1 n20 n21 H6 H7 ∧ nb_223 n22 n1 n20 n21 H6 H7) ∧ yb_223 n22 n1 n20 n21 H6 H7)) (f41 : hK H7 (n15).toNat = 268) (f42 : hUpd H8 H7 n15 n19 n22) : Byb_228_231 n3 n2 n1 n0 H0 H8 := by
  unfold Byb_228_231
  intro z
  have ga := f6.2.1.1.1.2
  unfold Bb_228_176 at ga
  have gb := ga z
  have vz : vwR H1 = vwR H0 := vwR_fr f6.1.2.1 (by decide +kernel)
  have gy := f6.2.1.1.2
  unfold Byb_228_176 at gy
  obtain ⟨y1, y2, y3, y4, y5, y6⟩ := gy z
  have aa := f6.2.1.1.1.1
  unfold Ab_228_176 at aa
  have ea := aa.1
  clear aa
  subst ea
  have p0 := PR_fr f10.1.2.1 (by decide +kernel) gb.1
  have v0 : vwR H2 = vwR H0 := p0.2.1.trans vz
  have ah0 : absR H2 = (pOpt (vwR H0) 29 0 400 (pOpt (vwR H0) 28 0 60 (pOpt (vwR H0) 27 0 60 (pTime (vwR H0) (ptk (vwR H0) 26 (pnm (vwR H0) 0 19 (absR H0))))))) := p0.1.trans gb.2
  have i0 := f10.2
  unfold postb_216 at i0
  rw [f7] at i0
  have cm0 := f11
  have b0 := (isR_or (k := 29) p0.2.2.1 (by decide) i0).resolve_right (fun w => cm0 w.1)
  replace b0 := b0.2
  rw [v0, ah0, kmc_29] at b0
  have c1 := f12.2.2 p0.2.2.1 (by rw [v0, ah0]; rw [b0]; decide)
  rw [v0, ah0, b0] at c1
  have v1 : vwR H3 = vwR H0 := (vwR_fr f12.1.2.1 (by decide +kernel)).trans v0
  have c2 := f24.2.1.2 c1.1
  try rw [f20] at c2
  try rw [f21] at c2
  rw [v1, c1.2] at c2
  have v2 : vwR H4 = vwR H0 := (vwR_fr f24.1.2.1 (by decide +kernel)).trans v1
  have p3 := PR_row (q := 305) f26 f13 (by decide) c2.1
  have v3 : vwR H5 = vwR H0 := p3.2.1.trans v2
  have ah3 : absR H5 = (pnm (vwR H0) 1 9 (ptk (vwR H0) 30 (pOpt (vwR H0) 29 0 400 (pOpt (vwR H0) 28 0 60 (pOpt (vwR H0) 27 0 60 (pTime (vwR H0) (ptk (vwR H0) 26 (pnm (vwR H0) 0 19 (absR H0))))))))) := p3.1.trans c2.2
  have c4 := f28.2.2 p3.2.2.1 (by rw [f27]; decide)
  try rw [f27] at c4
  rw [v3, ah3, kmc_15] at c4
  have v4 : vwR H6 = vwR H0 := (vwR_fr f28.1.2.1 (by decide +kernel)).trans v3
  have c5 := f40.2.1.2 c4.1
  try rw [f36] at c5
  try rw [f37] at c5
  rw [v4, c4.2] at c5
  have v5 : vwR H7 = vwR H0 := (vwR_fr f40.1.2.1 (by decide +kernel)).trans v4
  have p6 := PR_row (q := 305) f42 f29 (by decide) c5.1
  have v6 : vwR H8 = vwR H0 := p6.2.1.trans v5
  have ah6 : absR H8 = (pnm (vwR H0) 1 9 (ptk (vwR H0) 9 (pnm (vwR H0) 1 9 (ptk (vwR H0) 30 (pOpt (vwR H0) 29 0 400 (pOpt (vwR H0) 28 0 60 (pOpt (vwR H0) 27 0 60 (pTime (vwR H0) (ptk (vwR H0) 26 (pnm (vwR H0) 0 19 (absR H0))))))))))) := p6.1.trans c5.2
  have ix8 : n8 = 6 * n0 := by
    have w := f17
    rw [f16] at w
    unfold w32 at w
    omega
  have ix10 : n10 = 6 * n0 + 3 := by
    have w := f19
    rw [f18] at w
    unfold w32 at w
    omega
  have ix17 : n17 = 6 * n0 := by
    have w := f33
    rw [f32] at w
    unfold w32 at w
    omega
  have ix19 : n19 = 6 * n0 + 4 := by
    have w := f35
    rw [f34] at w
    unfold w32 at w
    omega
  have cu : CRo H1 H8 n0 := (CRo_tr (CRo_8 (CR8_fr f10.1.2.1 (by decide +kernel))) (CRo_tr (CRo_8 (CR8_fr f12.1.2.1 (by decide +kernel))) (CRo_tr (CRo_8 (CR8_fr f24.1.2.1 (by decide +kernel))) (CRo_tr (CRo_up5 f26 f13 (k := 3) (by omega) (by decide) (by decide)) (CRo_tr (CRo_8 (CR8_fr f28.1.2.1 (by decide +kernel))) (CRo_tr (CRo_8 (CR8_fr f40.1.2.1 (by decide +kernel))) (CRo_up5 f42 f29 (k := 4) (by omega) (by decide) (by decide))))))))
  refine ⟨CRo_tr y1 cu, ((uRowNe f42 298 (by rw [f29]; decide)).trans ((fRow f40.1.2.1 298 (by decide +kernel)).trans ((fRow f28.1.2.1 298 (by decide +kernel)).trans ((uRowNe f26 298 (by rw [f13]; decide)).trans ((fRow f24.1.2.1 298 (by decide +kernel)).trans ((fRow f12.1.2.1 298 (by decide +kernel)).trans (fRow f10.1.2.1 298 (by decide +kernel)))))))).trans y2, ((uRowNe f42 299 (by rw [f29]; decide)).trans ((fRow f40.1.2.1 299 (by decide +kernel)).trans ((fRow f28.1.2.1 299 (by decide +kernel)).trans ((uRowNe f26 299 (by rw [f13]; decide)).trans ((fRow f24.1.2.1 299 (by decide +kernel)).trans ((fRow f12.1.2.1 299 (by decide +kernel)).trans (fRow f10.1.2.1 299 (by decide +kernel)))))))).trans y3, ((uRowNe f42 303 (by rw [f29]; decide)).trans ((fRow f40.1.2.1 303 (by decide +kernel)).trans ((fRow f28.1.2.1 303 (by decide +kernel)).trans ((uRowNe f26 303 (by rw [f13]; decide)).trans ((fRow f24.1.2.1 303 (by decide +kernel)).trans ((fRow f12.1.2.1 303 (by decide +kernel)).trans (fRow f10.1.2.1 303 (by decide +kernel)))))))).trans y4, ((uRowNe f42 304 (by rw [f29]; decide)).trans ((fRow f40.1.2.1 304 (by decide +kernel)).trans ((fRow f28.1.2.1 304 (by decide +kernel)).trans ((uRowNe f26 304 (by rw [f13]; decide)).trans ((fRow f24.1.2.1 304 (by decide +kernel)).trans ((fRow f12.1.2.1 304 (by decide +kernel)).trans (fRow f10.1.2.1 304 (by decide +kernel)))))))).trans y5, fun hf => ?_⟩
  have hzH7 := fzR c5.1 p6.2.2.1 c5.2 ah6 (fun _ _ => rfl) hf
  have hzH6 := fzR c4.1 c5.1 c4.2 c5.2 (fun n k => pnm_neg n k) hzH7.1
  have hzH5 := fzR p3.2.2.1 c4.1 ah3 c4.2 (fun n k => ptk_neg n k) hzH6.1
  have hzH4 := fzR c2.1 p3.2.2.1 c2.2 ah3 (fun _ _ => rfl) hzH5.1
  have hzH3 := fzR c1.1 c2.1 c1.2 c2.2 (fun n k => pnm_neg n k) hzH4.1
  have hzH2 := fzR p0.2.2.1 c1.1 ah0 c1.2 (fun n k => ptk_neg n k) hzH3.1
  have hzH1 := fzR gb.1 p0.2.2.1 gb.2 ah0 (fun _ _ => rfl) hzH2.1
  have tv24 := f24.2.2
  unfold yb_223 at tv24
  have tv24 := tv24 c1.1 hzH4.1
  rw [v1, c1.2] at tv24
  have tv40 := f40.2.2
  unfold yb_223 at tv40
  have tv40 := tv40 c4.1 hzH7.1
  rw [v4, c4.2] at tv40
  have y6 := y6 hzH1.1
  obtain ⟨g300_0, g301_0, g302_0, g305_0, g305_1, g305_2, g305_3, g305_4⟩ := y6
  exact ⟨((congrFun (uRowNe f42 300 (by rw [f29]; decide)) _).trans ((congrFun (fRow f40.1.2.1 300 (by decide +kernel)) _).trans ((congrFun (fRow f28.1.2.1 300 (by decide +kernel)) _).trans ((congrFun (uRowNe f26 300 (by rw [f13]; decide)) _).trans ((congrFun (fRow f24.1.2.1 300 (by decide +kernel)) _).trans ((congrFun (fRow f12.1.2.1 300 (by decide +kernel)) _).trans (congrFun (fRow f10.1.2.1 300 (by decide +kernel)) _))))))).trans g300_0, ((congrFun (uRowNe f42 301 (by rw [f29]; decide)) _).trans ((congrFun (fRow f40.1.2.1 301 (by decide +kernel)) _).trans ((congrFun (fRow f28.1.2.1 301 (by decide +kernel)) _).trans ((congrFun (uRowNe f26 301 (by rw [f13]; decide)) _).trans ((congrFun (fRow f24.1.2.1 301 (by decide +kernel)) _).trans ((congrFun (fRow f12.1.2.1 301 (by decide +kernel)) _).trans (congrFun (fRow f10.1.2.1 301 (by decide +kernel)) _))))))).trans g301_0, ((congrFun (uRowNe f42 302 (by rw [f29]; decide)) _).trans ((congrFun (fRow f40.1.2.1 302 (by decide +kernel)) _).trans ((congrFun (fRow f28.1.2.1 302 (by decide +kernel)) _).trans ((congrFun (uRowNe f26 302 (by rw [f13]; decide)) _).trans ((congrFun (fRow f24.1.2.1 302 (by decide +kernel)) _).trans ((congrFun (fRow f12.1.2.1 302 (by decide +kernel)) _).trans (congrFun (fRow f10.1.2.1 302 (by decide +kernel)) _))))))).trans g302_0, (((congrFun (uRowQ f42 305 f29) _).trans (by rw [uF_at, if_neg (by omega)])).trans ((congrFun (fRow f40.1.2.1 305 (by decide +kernel)) _).trans ((congrFun (fRow f28.1.2.1 305 (by decide +kernel)) _).trans (((congrFun (uRowQ f26 305 f13) _).trans (by rw [uF_at, if_neg (by omega)])).trans ((congrFun (fRow f24.1.2.1 305 (by decide +kernel)) _).trans ((congrFun (fRow f12.1.2.1 305 (by decide +kernel)) _).trans (congrFun (fRow f10.1.2.1 305 (by decide +kernel)) _))))))).trans g305_0, (((congrFun (uRowQ f42 305 f29) _).trans (by rw [uF_at, if_neg (by omega)])).trans ((congrFun (fRow f40.1.2.1 305 (by decide +kernel)) _).trans ((congrFun (fRow f28.1.2.1 305 (by decide +kernel)) _).trans (((congrFun (uRowQ f26 305 f13) _).trans (by rw [uF_at, if_neg (by omega)])).trans ((congrFun (fRow f24.1.2.1 305 (by decide +kernel)) _).trans ((congrFun (fRow f12.1.2.1 305 (by decide +kernel)) _).trans (congrFun (fRow f10.1.2.1 305 (by decide +kernel)) _))))))).trans g305_1, (((congrFun (uRowQ f42 305 f29) _).trans (by rw [uF_at, if_neg (by omega)])).trans ((congrFun (fRow f40.1.2.1 305 (by decide +kernel)) _).trans ((congrFun (fRow f28.1.2.1 305 (by decide +kernel)) _).trans (((congrFun (uRowQ f26 305 f13) _).trans (by rw [uF_at, if_neg (by omega)])).trans ((congrFun (fRow f24.1.2.1 305 (by decide +kernel)) _).trans ((congrFun (fRow f12.1.2.1 305 (by decide +kernel)) _).trans (congrFun (fRow f10.1.2.1 305 (by decide +kernel)) _))))))).trans g305_2, (((congrFun (uRowQ f42 305 f29) _).trans (by rw [uF_at, if_neg (by omega)])).trans ((congrFun (fRow f40.1.2.1 305 (by decide +kernel)) _).trans ((congrFun (fRow f28.1.2.1 305 (by decide +kernel)) _).trans ((congrFun (uRowQ f26 305 f13) _).trans (by rw [uF_at, if_pos (by omega)]))))).trans (tv24.trans (opV_yes (p := lyU (vwR H0) (absR H0)) b0).symm), ((congrFun (uRowQ f42 305 f29) _).trans (by rw [uF_at, if_pos (by omega)])).trans (tv40.trans (opL_yes (p := lyU (vwR H0) (absR H0)) b0).symm)⟩
def g_228y_176_1 : vG := ([(80, [15, 19, 22], [8, 7], 0), (23, [15], [7], 268), (1223, [22, 2, 20, 21], [6, 7], 0), (90, [22], [], 0), (91, [22], [], 9999), (0, [21], [], 9), (0, [20], [], 1), (1, [19, 17, 18], [], 0), (0, [18], [], 4), (3, [17, 16, 3], [], 0), (0, [16], [], 6), (20, [15, 2], [6], 31), (23, [2], [6], 12), (0, [15], [], 305), (1220, [2, 14], [5, 6], 0), (0, [14], [], 15), (80, [6, 10, 13], [5, 4], 0), (23, [6], [4], 268), (1223, [13, 2, 11, 12], [3, 4], 0), (90, [13], [], 0), (91, [13], [], 9999), (0, [12], [], 9), (0, [11], [], 1), (1, [10, 8, 9], [], 0), (0, [9], [], 3), (3, [8, 7, 3], [], 0), (0, [7], [], 6), (20, [6, 2], [3], 31), (23, [2], [3], 12), (0, [6], [], 305), (1219, [2], [2, 3], 0), (31, [5], [], 0), (1216, [5, 2, 4], [1, 2], 0), (90, [5], [], 0), (91, [5], [], 1), (0, [4], [], 29), (5000, [0, 1, 2, 3], [0, 1], 176), (0, [0], [], 285), (90, [1], [], 0), (91, [1], [], 1007), (0, [2], [], 285), (90, [3], [], 0), (91, [3], [], 1007)], (4000, [2, 3], [8], 231))
theorem c_228y_176_1 {q0 : Nat} : vOkm T0 (eN e_228w L_228y (eAB A_228 B_228) mu_228 y_228 By_228 (some q0)) 2 g_228y_176_1 := vOk_inI fun ρ η f0 f1 f2 f3 f4 f5 f6 f7 f8 f9 f10 f11 f12 f13 f14 f15 f16 f17 f18 f19 f20 f21 f22 f23 f24 f25 f26 f27 f28 f29 f30 f31 f32 f33 f34 f35 f36 f37 f38 f39 f40 f41 f42 => q_228y_7 (q0 := q0) (n0 := ρ 3) (n1 := ρ 2) (n2 := ρ 1) (n3 := ρ 0) (n4 := ρ 4) (n5 := ρ 5) (n6 := ρ 6) (n7 := ρ 7) (n8 := ρ 8) (n9 := ρ 9) (n10 := ρ 10) (n11 := ρ 11) (n12 := ρ 12) (n13 := ρ 13) (n14 := ρ 14) (n15 := ρ 15) (n16 := ρ 16) (n17 := ρ 17) (n18 := ρ 18) (n19 := ρ 19) (n20 := ρ 20) (n21 := ρ 21) (n22 := ρ 22) (H0 := η 0) (H1 := η 1) (H2 := η 2) (H3 := η 3) (H4 := η 4) (H5 := η 5) (H6 := η 6) (H7 := η 7) (H8 := η 8) f42 f41 f40 f39 f38 f37 f36 f35 f34 f33 f32 f31 f30 f29 f28 f27 f26 f25 f24 f23 f22 f21 f20 f19 f18 f17 f16 f15 f14 f13 f12 f11 f10 f9 f8 f7 f6 f5 f4 f3 f2 f1 f0
def p_228y_176 : List vG := [g_228y_176_0,
  g_228y_176_1]
theorem r_228y_176 : vCovBO (eRc e_228w L_228w cs_228 2000 (176, [(0, (3, 12, 285, 0)), (1, (0, 0, 1007, 0))])) p_228y_176 = true := by decide +kernel
theorem q_228y_8 {q0 : Nat} {n0 n1 n2 n3 n4 n5 n6 n7 n8 n9 n10 n11 n12 : Int} {H0 H1 H2 H3 H4 : gH} (f0 : n0 ≤ 1007) (f1 : 0 ≤ n0) (f2 : n1 = 285) (f3 : n2 ≤ 1007) (f4 : 0 ≤ n2) (f5 : n3 = 285) (f6 : (hLe T0 H0 H1 ∧ hFr s_228.2.2.2.2 H0 H1 ∧ hWt T0 H1) ∧ (((Ab_228_231 n3 n2 n1 n0 H0 H1 ∧ Bb_228_231 n3 n2 n1 n0 H0 H1) ∧ Byb_228_231 n3 n2 n1 n0 H0 H1) ∧ preb_228 n3 n2 H0) ∧ some q0 = some (mub_228_231 n3 n2 n1 n0 H0 H1)) (f7 : n4 = 30) (f8 : (hLe T0 H1 H2 ∧ hFr s_220.2.2.2.2 H1 H2 ∧ ((0 : Int) = 0 → H2.length = H1.length) ∧ hWt T0 H2) ∧ (postb_220 n1 n4 H1 H2 ∧ nb_220 n1 n4 H1 H2)) (f9 : n5 = 305) (f10 : hK H2 (n1).toNat = 12) (f11 : n5 = hV H2 (n1).toNat 31) (f12 : n6 = 6) (f13 : n7 = w32 (n6 * n0)) (f14 : n8 = 5) (f15 : n9 = w32 (n7 + n8)) (f16 : n10 = 0) (f17 : n11 = 2) (f18 : n12 ≤ 9999) (f19 : 0 ≤ n12) (f20 : (hLe T0 H2 H3 ∧ hFr s_223.2.2.2.2 H2 H3 ∧ ((0 : Int) = 0 → H3.length = H2.length) ∧ hWt T0 H3) ∧ ((postb_223 n12 n1 n10 n11 H2 H3 ∧ nb_223 n12 n1 n10 n11 H2 H3) ∧ yb_223 n12 n1 n10 n11 H2 H3)) (f21 : hK H3 (n5).toNat = 268) (f22 : hUpd H4 H3 n5 n9 n12) : yb_228 n3 n2 H0 H4 := by
  unfold yb_228
  intro z
  have ga := f6.2.1.1.1.2
  unfold Bb_228_231 at ga
  have gb := ga z
  have vz : vwR H1 = vwR H0 := vwR_fr f6.1.2.1 (by decide +kernel)
  have gy := f6.2.1.1.2
  unfold Byb_228_231 at gy
  obtain ⟨y1, y2, y3, y4, y5, y6⟩ := gy z
  have aa := f6.2.1.1.1.1
  unfold Ab_228_231 at aa
  have ea := aa.1
  clear aa
  subst ea
  have c0 := f8.2.2 gb.1 (by rw [f7]; decide)
  try rw [f7] at c0
  rw [vz, gb.2, kmc_30] at c0
  have v0 : vwR H2 = vwR H0 := (vwR_fr f8.1.2.1 (by decide +kernel)).trans vz
  have c1 := f20.2.1.2 c0.1
  try rw [f16] at c1
  try rw [f17] at c1
  rw [v0, c0.2] at c1
  have v1 : vwR H3 = vwR H0 := (vwR_fr f20.1.2.1 (by decide +kernel)).trans v0
  have p2 := PR_row (q := 305) f22 f9 (by decide) c1.1
  have v2 : vwR H4 = vwR H0 := p2.2.1.trans v1
  have ah2 : absR H4 = (pnm (vwR H0) 0 2 (ptk (vwR H0) 31 (pSpd (vwR H0) (pOpt (vwR H0) 29 0 400 (pOpt (vwR H0) 28 0 60 (pOpt (vwR H0) 27 0 60 (pTime (vwR H0) (ptk (vwR H0) 26 (pnm (vwR H0) 0 19 (absR H0)))))))))) := p2.1.trans c1.2
  have ix7 : n7 = 6 * n0 := by
    have w := f13
    rw [f12] at w
    unfold w32 at w
    omega
  have ix9 : n9 = 6 * n0 + 5 := by
    have w := f15
    rw [f14] at w
    unfold w32 at w
    omega
  have cu : CRo H1 H4 n0 := (CRo_tr (CRo_8 (CR8_fr f8.1.2.1 (by decide +kernel))) (CRo_tr (CRo_8 (CR8_fr f20.1.2.1 (by decide +kernel))) (CRo_up5 f22 f9 (k := 5) (by omega) (by decide) (by decide))))
  refine ⟨CRo_tr y1 cu, ((uRowNe f22 298 (by rw [f9]; decide)).trans ((fRow f20.1.2.1 298 (by decide +kernel)).trans (fRow f8.1.2.1 298 (by decide +kernel)))).trans y2, ((uRowNe f22 299 (by rw [f9]; decide)).trans ((fRow f20.1.2.1 299 (by decide +kernel)).trans (fRow f8.1.2.1 299 (by decide +kernel)))).trans y3, ((uRowNe f22 303 (by rw [f9]; decide)).trans ((fRow f20.1.2.1 303 (by decide +kernel)).trans (fRow f8.1.2.1 303 (by decide +kernel)))).trans y4, ((uRowNe f22 304 (by rw [f9]; decide)).trans ((fRow f20.1.2.1 304 (by decide +kernel)).trans (fRow f8.1.2.1 304 (by decide +kernel)))).trans y5, fun hf => ?_⟩
  have hzH3 := fzR c1.1 p2.2.2.1 c1.2 ah2 (fun _ _ => rfl) hf
  have hzH2 := fzR c0.1 c1.1 c0.2 c1.2 (fun n k => pnm_neg n k) hzH3.1
  have hzH1 := fzR gb.1 c0.1 gb.2 c0.2 (fun n k => ptk_neg n k) hzH2.1
  have tv20 := f20.2.2
  unfold yb_223 at tv20
  have tv20 := tv20 c0.1 hzH3.1
  rw [v0, c0.2] at tv20
  have y6 := y6 hzH1.1
  obtain ⟨g300_0, g301_0, g302_0, g305_0, g305_1, g305_2, g305_3, g305_4⟩ := y6
  exact ⟨((congrFun (uRowNe f22 300 (by rw [f9]; decide)) _).trans ((congrFun (fRow f20.1.2.1 300 (by decide +kernel)) _).trans (congrFun (fRow f8.1.2.1 300 (by decide +kernel)) _))).trans g300_0, ((congrFun (uRowNe f22 301 (by rw [f9]; decide)) _).trans ((congrFun (fRow f20.1.2.1 301 (by decide +kernel)) _).trans (congrFun (fRow f8.1.2.1 301 (by decide +kernel)) _))).trans g301_0, ((congrFun (uRowNe f22 302 (by rw [f9]; decide)) _).trans ((congrFun (fRow f20.1.2.1 302 (by decide +kernel)) _).trans (congrFun (fRow f8.1.2.1 302 (by decide +kernel)) _))).trans g302_0, (((congrFun (uRowQ f22 305 f9) _).trans (by rw [uF_at, if_neg (by omega)])).trans ((congrFun (fRow f20.1.2.1 305 (by decide +kernel)) _).trans (congrFun (fRow f8.1.2.1 305 (by decide +kernel)) _))).trans g305_0, (((congrFun (uRowQ f22 305 f9) _).trans (by rw [uF_at, if_neg (by omega)])).trans ((congrFun (fRow f20.1.2.1 305 (by decide +kernel)) _).trans (congrFun (fRow f8.1.2.1 305 (by decide +kernel)) _))).trans g305_1, (((congrFun (uRowQ f22 305 f9) _).trans (by rw [uF_at, if_neg (by omega)])).trans ((congrFun (fRow f20.1.2.1 305 (by decide +kernel)) _).trans (congrFun (fRow f8.1.2.1 305 (by decide +kernel)) _))).trans g305_2, (((congrFun (uRowQ f22 305 f9) _).trans (by rw [uF_at, if_neg (by omega)])).trans ((congrFun (fRow f20.1.2.1 305 (by decide +kernel)) _).trans (congrFun (fRow f8.1.2.1 305 (by decide +kernel)) _))).trans g305_3, (((congrFun (uRowQ f22 305 f9) _).trans (by rw [uF_at, if_neg (by omega)])).trans ((congrFun (fRow f20.1.2.1 305 (by decide +kernel)) _).trans (congrFun (fRow f8.1.2.1 305 (by decide +kernel)) _))).trans g305_4⟩
def g_228y_231_0 : vG := ([(80, [5, 9, 12], [4, 3], 0), (23, [5], [3], 268), (1223, [12, 2, 10, 11], [2, 3], 0), (90, [12], [], 0), (91, [12], [], 9999), (0, [11], [], 2), (0, [10], [], 0), (1, [9, 7, 8], [], 0), (0, [8], [], 5), (3, [7, 6, 3], [], 0), (0, [6], [], 6), (20, [5, 2], [2], 31), (23, [2], [2], 12), (0, [5], [], 305), (1220, [2, 4], [1, 2], 0), (0, [4], [], 30), (5000, [0, 1, 2, 3], [0, 1], 231), (0, [0], [], 285), (90, [1], [], 0), (91, [1], [], 1007), (0, [2], [], 285), (90, [3], [], 0), (91, [3], [], 1007)], (3000, [], [4], 254))
theorem c_228y_231_0 {q0 : Nat} : vOkm T0 (eN e_228w L_228y (eAB A_228 B_228) mu_228 y_228 By_228 (some q0)) 2 g_228y_231_0 := vOk_inI fun ρ η f0 f1 f2 f3 f4 f5 f6 f7 f8 f9 f10 f11 f12 f13 f14 f15 f16 f17 f18 f19 f20 f21 f22 => q_228y_8 (q0 := q0) (n0 := ρ 3) (n1 := ρ 2) (n2 := ρ 1) (n3 := ρ 0) (n4 := ρ 4) (n5 := ρ 5) (n6 := ρ 6) (n7 := ρ 7) (n8 := ρ 8) (n9 := ρ 9) (n10 := ρ 10) (n11 := ρ 11) (n12 := ρ 12) (H0 := η 0) (H1 := η 1) (H2 := η 2) (H3 := η 3) (H4 := η 4) f22 f21 f20 f19 f18 f17 f16 f15 f14 f13 f12 f11 f10 f9 f8 f7 f6 f5 f4 f3 f2 f1 f0
def p_228y_231 : List vG := [g_228y_231_0]
theorem r_228y_231 : vCovBO (eRc e_228w L_228w cs_228 2000 (231, [(0, (3, 12, 285, 0)), (1, (0, 0, 1007, 0))])) p_228y_231 = true := by decide +kernel
theorem o_228y : eOK e_228y L_228y cs_228 2000 (eAB (eAB A_228 B_228) By_228) mu_228 := eOK_ref (p1 := p_228y_s) o_228w (sub0 (sub0 (sub0 (sub1 (sub1 trivial))))) r_228y_s (allC c_228y_s_0 (allC c_228y_s_1 allN)) (allC ⟨p_228y_113, r_228y_113, fun q0 => (allC c_228y_113_0 (allC c_228y_113_1 allN))⟩ (allC ⟨p_228y_144, r_228y_144, fun q0 => (allC c_228y_144_0 (allC c_228y_144_1 allN))⟩ (allC ⟨p_228y_176, r_228y_176, fun q0 => (allC c_228y_176_0 (allC c_228y_176_1 allN))⟩ (allC ⟨p_228y_231, r_228y_231, fun q0 => (allC c_228y_231_0 allN)⟩ allN))))
theorem m_228y (d : Nat) : eC e_228y (d + 6) := eC_OK (d := d + 5) o_228y rfl ⟨m_216 (d + 4), ⟨m_219w (d + 3), ⟨m_220w (d + 2), ⟨m_223y (d + 1), ⟨m_229y d, trivial⟩⟩⟩⟩⟩ rfl (.inl rfl) (by decide +kernel)
