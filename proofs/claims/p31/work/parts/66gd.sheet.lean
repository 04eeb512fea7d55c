/-! CONTRACTS of methods told more fully. -/
/- MixStageModel.tellCue ()V, more fully still -/
theorem o_227 : eOK e_227 L_227 cs_227 2000 A_227 mu_227 := eOK_of (tp := false) (p0 := p_227_s) (fun z => nomatch z) r_227_s (allC c_227_s_0 (allC c_227_s_1 (allC c_227_s_2 (allC c_227_s_3 (allC c_227_s_4 (allC c_227_s_5 (allC c_227_s_6 allN))))))) (allC (.inl ⟨p_227_80, r_227_80, fun q0 => (allC c_227_80_0 (allC c_227_80_1 (allC c_227_80_2 (allC c_227_80_3 (allC c_227_80_4 (allC c_227_80_5 (allC c_227_80_6 (allC c_227_80_7 (allC c_227_80_8 allN)))))))))⟩) (allC (.inl ⟨p_227_120, r_227_120, fun q0 => (allC c_227_120_0 (allC c_227_120_1 (allC c_227_120_2 (allC c_227_120_3 (allC c_227_120_4 (allC c_227_120_5 (allC c_227_120_6 allN)))))))⟩) (allC (.inl ⟨p_227_180, r_227_180, fun q0 => (allC c_227_180_0 (allC c_227_180_1 (allC c_227_180_2 (allC c_227_180_3 (allC c_227_180_4 (allC c_227_180_5 (allC c_227_180_6 (allC c_227_180_7 (allC c_227_180_8 (allC c_227_180_9 (allC c_227_180_10 (allC c_227_180_11 (allC c_227_180_12 (allC c_227_180_13 (allC c_227_180_14 (allC c_227_180_15 (allC c_227_180_16 (allC c_227_180_17 (allC c_227_180_18 (allC c_227_180_19 (allC c_227_180_20 (allC c_227_180_21 (allC c_227_180_22 (allC c_227_180_23 allN))))))))))))))))))))))))⟩) (allC (.inl ⟨p_227_471, r_227_471, fun q0 => (allC c_227_471_0 (allC c_227_471_1 (allC c_227_471_2 (allC c_227_471_3 (allC c_227_471_4 (allC c_227_471_5 (allC c_227_471_6 (allC c_227_471_7 (allC c_227_471_8 (allC c_227_471_9 (allC c_227_471_10 (allC c_227_471_11 (allC c_227_471_12 (allC c_227_471_13 (allC c_227_471_14 allN)))))))))))))))⟩) (allC (.inl ⟨p_227_567, r_227_567, fun q0 => (allC c_227_567_0 (allC c_227_567_1 (allC c_227_567_2 (allC c_227_567_3 (allC c_227_567_4 (allC c_227_567_5 (allC c_227_567_6 allN)))))))⟩) allN)))))
theorem o_227w : eOK e_227w L_227w cs_227 2000 (eAB A_227 B_227) mu_227 := eOK_ref (p1 := p_227w_s) o_227 (sub0 (sub1 (sub1 (sub1 (sub1 (sub1 (sub1 (sub1 (sub1 trivial))))))))) r_227w_s (allC c_227w_s_0 (allC c_227w_s_1 (allC c_227w_s_2 (allC c_227w_s_3 (allC c_227w_s_4 (allC c_227w_s_5 (allC c_227w_s_6 allN))))))) (allC ⟨p_227w_80, r_227w_80, fun q0 => (allC c_227w_80_0 (allC c_227w_80_1 (allC c_227w_80_2 (allC c_227w_80_3 (allC c_227w_80_4 (allC c_227w_80_5 allN))))))⟩ (allC ⟨p_227w_120, r_227w_120, fun q0 => (allC c_227w_120_0 allN)⟩ (allC ⟨p_227w_180, r_227w_180, fun q0 => (allC c_227w_180_0 (allC c_227w_180_1 (allC c_227w_180_2 (allC c_227w_180_3 (allC c_227w_180_4 (allC c_227w_180_5 (allC c_227w_180_6 (allC c_227w_180_7 (allC c_227w_180_8 allN)))))))))⟩ (allC ⟨p_227w_471, r_227w_471, fun q0 => (allC c_227w_471_0 (allC c_227w_471_1 (allC c_227w_471_2 (allC c_227w_471_3 (allC c_227w_471_4 (allC c_227w_471_5 allN))))))⟩ (allC ⟨p_227w_567, r_227w_567, fun q0 => (allC c_227w_567_0 (allC c_227w_567_1 (allC c_227w_567_2 allN)))⟩ allN)))))
def yb_227 (a0 : Int) (h0 h : gH) : Prop := RI h0 → (hV h0 285 13 = 0 → ZR h0) → CRo h0 h (16 * hV h0 285 33 + hV h0 296 ((hV h0 285 33).toNat)) ∧ (hV h 285 13 = 0 → recR h (16 * hV h0 285 33 + hV h0 296 ((hV h0 285 33).toNat)).toNat = cuT (vwR h0) (BLr h0) (absR h0))
def y_227 : List Int → gH → gH → Prop := fun xs h0 h => match xs with
  | [a0] => yb_227 a0 h0 h
  | _ => True
noncomputable def e_227y : vE := eV e_227w y_227
noncomputable def L_227y : List vE := [e_216, e_217w, e_218w, e_219w, e_220w, e_223y, e_228y, e_229y, e_230y]
def Byb_227_80 (a0 x0 x1 : Int) (h0 h : gH) : Prop := RI h0 → (hV h0 285 13 = 0 → ZR h0) → CR8 h0 h
def Byb_227_120 (a0 x0 x1 : Int) (h0 h : gH) : Prop := RI h0 → (hV h0 285 13 = 0 → ZR h0) → CR8 h0 h
def Byb_227_180 (a0 x0 x1 x2 x3 : Int) (h0 h : gH) : Prop := RI h0 → (hV h0 285 13 = 0 → ZR h0) → x2 = 16 * hV h0 285 33 + hV h0 296 ((hV h0 285 33).toNat) ∧ CRo h0 h x2 ∧ hV h 298 (x2).toNat = x1 ∧ hV h 299 (x2).toNat = (vwR h0).2.2.2 (absR h0).1 ∧ hV h 301 (x2).toNat = -1 ∧ hV h 303 (x2).toNat = -1
def Byb_227_471 (a0 x0 x1 x2 x3 x4 x5 : Int) (h0 h : gH) : Prop := RI h0 → (hV h0 285 13 = 0 → ZR h0) → x2 = 16 * hV h0 285 33 + hV h0 296 ((hV h0 285 33).toNat) ∧ CRo h0 h x2 ∧ hV h 298 (x2).toNat = 5 ∧ hV h 299 (x2).toNat = (vwR h0).2.2.2 (absR h0).1 ∧ hV h 301 (x2).toNat = mkA (vwR h0) (usQ (vwR h0) (ptk (vwR h0) 25 (absR h0))) ∧ hV h 302 (x2).toNat = frA (vwR h0) (usQ (vwR h0) (ptk (vwR h0) 25 (absR h0))) ∧ hV h 303 (x2).toNat = -1 ∧ SPi h0 ((vwR h0).2.2.1 (ptk (vwR h0) 25 (absR h0)).1) x5 (hV h 300 (x2).toNat)
def Byb_227_567 (a0 x0 x1 x2 x3 : Int) (h0 h : gH) : Prop := RI h0 → (hV h0 285 13 = 0 → ZR h0) → x2 = 16 * hV h0 285 33 + hV h0 296 ((hV h0 285 33).toNat) ∧ CRo h0 h x2 ∧ (hV h 285 13 = 0 → recR h (x2).toNat = cuT (vwR h0) (BLr h0) (absR h0))
def By_227 : Int → List Int → gH → gH → Prop := fun c xs h0 h => match c.toNat with
  | 80 => (match xs with
    | [a0, x0, x1] => Byb_227_80 a0 x0 x1 h0 h
    | _ => False)
  | 120 => (match xs with
    | [a0, x0, x1] => Byb_227_120 a0 x0 x1 h0 h
    | _ => False)
  | 180 => (match xs with
    | [a0, x0, x1, x2, x3] => Byb_227_180 a0 x0 x1 x2 x3 h0 h
    | _ => False)
  | 471 => (match xs with
    | [a0, x0, x1, x2, x3, x4, x5] => Byb_227_471 a0 x0 x1 x2 x3 x4 x5 h0 h
    | _ => False)
  | 567 => (match xs with
    | [a0, x0, x1, x2, x3] => Byb_227_567 a0 x0 x1 x2 x3 h0 h
    | _ => False)
  | _ => True
theorem q_227y_0 {n0 n1 n2 n3 n4 n5 n6 n7 n8 n9 n10 n11 n12 n13 : Int} {H0 H1 H2 H3 H4 H5 H6 : gH} (f0 : n0 = 285) (f1 : hWt T0 H0 ∧ preb_227 n0 H0) (f2 : n1 = 24) (f3 : n2 ≤ 1) (f4 : 0 ≤ n2) (f5 : (hLe T0 H0 H1 ∧ hFr s_216.2.2.2.2 H0 H1 ∧ ((0 : Int) = 0 → H1.length = H0.length) ∧ hWt T0 H1) ∧ postb_216 n2 n0 n1 H0 H1) (f6 : n2 = 0) (f7 : n3 = 31) (f8 : n4 ≤ 1) (f9 : 0 ≤ n4) (f10 : (hLe T0 H1 H2 ∧ hFr s_216.2.2.2.2 H1 H2 ∧ ((0 : Int) = 0 → H2.length = H1.length) ∧ hWt T0 H2) ∧ postb_216 n4 n0 n3 H1 H2) (f11 : n4 = 0) (f12 : n5 = 33) (f13 : n6 ≤ 1) (f14 : 0 ≤ n6) (f15 : (hLe T0 H2 H3 ∧ hFr s_216.2.2.2.2 H2 H3 ∧ ((0 : Int) = 0 → H3.length = H2.length) ∧ hWt T0 H3) ∧ postb_216 n6 n0 n5 H2 H3) (f16 : n6 = 0) (f17 : n7 = 37) (f18 : n8 ≤ 1) (f19 : 0 ≤ n8) (f20 : (hLe T0 H3 H4 ∧ hFr s_216.2.2.2.2 H3 H4 ∧ ((0 : Int) = 0 → H4.length = H3.length) ∧ hWt T0 H4) ∧ postb_216 n8 n0 n7 H3 H4) (f21 : n8 = 0) (f22 : n9 = 39) (f23 : n10 ≤ 1) (f24 : 0 ≤ n10) (f25 : (hLe T0 H4 H5 ∧ hFr s_216.2.2.2.2 H4 H5 ∧ ((0 : Int) = 0 → H5.length = H4.length) ∧ hWt T0 H5) ∧ postb_216 n10 n0 n9 H4 H5) (f26 : n10 = 0) (f27 : n11 = 40) (f28 : n12 ≤ 1) (f29 : 0 ≤ n12) (f30 : (hLe T0 H5 H6 ∧ hFr s_216.2.2.2.2 H5 H6 ∧ ((0 : Int) = 0 → H6.length = H5.length) ∧ hWt T0 H6) ∧ postb_216 n12 n0 n11 H5 H6) (f31 : n12 = 0) (f32 : n13 = (-1)) : Byb_227_80 n0 n0 n13 H0 H6 := by
  unfold Byb_227_80
  intro z zr
  exact (CR8_tr (CR8_fr f5.1.2.1 (by decide +kernel)) (CR8_tr (CR8_fr f10.1.2.1 (by decide +kernel)) (CR8_tr (CR8_fr f15.1.2.1 (by decide +kernel)) (CR8_tr (CR8_fr f20.1.2.1 (by decide +kernel)) (CR8_tr (CR8_fr f25.1.2.1 (by decide +kernel)) (CR8_fr f30.1.2.1 (by decide +kernel)))))))
def g_227y_s_0 : vG := ([(0, [13], [], -1), (30, [12], [], 0), (1216, [12, 0, 11], [5, 6], 0), (90, [12], [], 0), (91, [12], [], 1), (0, [11], [], 40), (30, [10], [], 0), (1216, [10, 0, 9], [4, 5], 0), (90, [10], [], 0), (91, [10], [], 1), (0, [9], [], 39), (30, [8], [], 0), (1216, [8, 0, 7], [3, 4], 0), (90, [8], [], 0), (91, [8], [], 1), (0, [7], [], 37), (30, [6], [], 0), (1216, [6, 0, 5], [2, 3], 0), (90, [6], [], 0), (91, [6], [], 1), (0, [5], [], 33), (30, [4], [], 0), (1216, [4, 0, 3], [1, 2], 0), (90, [4], [], 0), (91, [4], [], 1), (0, [3], [], 31), (30, [2], [], 0), (1216, [2, 0, 1], [0, 1], 0), (90, [2], [], 0), (91, [2], [], 1), (0, [1], [], 24), (6000, [0], [0], 0), (0, [0], [], 285)], (4000, [0, 13], [6], 80))
theorem c_227y_s_0 : vOkm T0 (eN e_227w L_227y (eAB A_227 B_227) mu_227 y_227 By_227 none) 1 g_227y_s_0 := vOk_inI fun ρ η f0 f1 f2 f3 f4 f5 f6 f7 f8 f9 f10 f11 f12 f13 f14 f15 f16 f17 f18 f19 f20 f21 f22 f23 f24 f25 f26 f27 f28 f29 f30 f31 f32 => q_227y_0 (n0 := ρ 0) (n1 := ρ 1) (n2 := ρ 2) (n3 := ρ 3) (n4 := ρ 4) (n5 := ρ 5) (n6 := ρ 6) (n7 := ρ 7) (n8 := ρ 8) (n9 := ρ 9) (n10 := ρ 10) (n11 := ρ 11) (n12 := ρ 12) (n13 := ρ 13) (H0 := η 0) (H1 := η 1) (H2 := η 2) (H3 := η 3) (H4 := η 4) (H5 := η 5) (H6 := η 6) f32 f31 f30 f29 f28 f27 f26 f25 f24 f23 f22 f21 f20 f19 f18 f17 f16 f15 f14 f13 f12 f11 f10 f9 f8 f7 f6 f5 f4 f3 f2 f1 f0
theorem q_227y_1 {n0 n1 n2 n3 n4 n5 n6 n7 n8 n9 n10 n11 n12 n13 : Int} {H0 H1 H2 H3 H4 H5 H6 : gH} (f0 : n0 = 285) (f1 : hWt T0 H0 ∧ preb_227 n0 H0) (f2 : n1 = 24) (f3 : n2 ≤ 1) (f4 : 0 ≤ n2) (f5 : (hLe T0 H0 H1 ∧ hFr s_216.2.2.2.2 H0 H1 ∧ ((0 : Int) = 0 → H1.length = H0.length) ∧ hWt T0 H1) ∧ postb_216 n2 n0 n1 H0 H1) (f6 : n2 = 0) (f7 : n3 = 31) (f8 : n4 ≤ 1) (f9 : 0 ≤ n4) (f10 : (hLe T0 H1 H2 ∧ hFr s_216.2.2.2.2 H1 H2 ∧ ((0 : Int) = 0 → H2.length = H1.length) ∧ hWt T0 H2) ∧ postb_216 n4 n0 n3 H1 H2) (f11 : n4 = 0) (f12 : n5 = 33) (f13 : n6 ≤ 1) (f14 : 0 ≤ n6) (f15 : (hLe T0 H2 H3 ∧ hFr s_216.2.2.2.2 H2 H3 ∧ ((0 : Int) = 0 → H3.length = H2.length) ∧ hWt T0 H3) ∧ postb_216 n6 n0 n5 H2 H3) (f16 : n6 = 0) (f17 : n7 = 37) (f18 : n8 ≤ 1) (f19 : 0 ≤ n8) (f20 : (hLe T0 H3 H4 ∧ hFr s_216.2.2.2.2 H3 H4 ∧ ((0 : Int) = 0 → H4.length = H3.length) ∧ hWt T0 H4) ∧ postb_216 n8 n0 n7 H3 H4) (f21 : n8 = 0) (f22 : n9 = 39) (f23 : n10 ≤ 1) (f24 : 0 ≤ n10) (f25 : (hLe T0 H4 H5 ∧ hFr s_216.2.2.2.2 H4 H5 ∧ ((0 : Int) = 0 → H5.length = H4.length) ∧ hWt T0 H5) ∧ postb_216 n10 n0 n9 H4 H5) (f26 : n10 = 0) (f27 : n11 = 40) (f28 : n12 ≤ 1) (f29 : 0 ≤ n12) (f30 : (hLe T0 H5 H6 ∧ hFr s_216.2.2.2.2 H5 H6 ∧ ((0 : Int) = 0 → H6.length = H5.length) ∧ hWt T0 H6) ∧ postb_216 n12 n0 n11 H5 H6) (f31 : n12 ≠ 0) (f32 : n13 = 5) : Byb_227_80 n0 n0 n13 H0 H6 := by
  unfold Byb_227_80
  intro z zr
  exact (CR8_tr (CR8_fr f5.1.2.1 (by decide +kernel)) (CR8_tr (CR8_fr f10.1.2.1 (by decide +kernel)) (CR8_tr (CR8_fr f15.1.2.1 (by decide +kernel)) (CR8_tr (CR8_fr f20.1.2.1 (by decide +kernel)) (CR8_tr (CR8_fr f25.1.2.1 (by decide +kernel)) (CR8_fr f30.1.2.1 (by decide +kernel)))))))
def g_227y_s_1 : vG := ([(0, [13], [], 5), (31, [12], [], 0), (1216, [12, 0, 11], [5, 6], 0), (90, [12], [], 0), (91, [12], [], 1), (0, [11], [], 40), (30, [10], [], 0), (1216, [10, 0, 9], [4, 5], 0), (90, [10], [], 0), (91, [10], [], 1), (0, [9], [], 39), (30, [8], [], 0), (1216, [8, 0, 7], [3, 4], 0), (90, [8], [], 0), (91, [8], [], 1), (0, [7], [], 37), (30, [6], [], 0), (1216, [6, 0, 5], [2, 3], 0), (90, [6], [], 0), (91, [6], [], 1), (0, [5], [], 33), (30, [4], [], 0), (1216, [4, 0, 3], [1, 2], 0), (90, [4], [], 0), (91, [4], [], 1), (0, [3], [], 31), (30, [2], [], 0), (1216, [2, 0, 1], [0, 1], 0), (90, [2], [], 0), (91, [2], [], 1), (0, [1], [], 24), (6000, [0], [0], 0), (0, [0], [], 285)], (4000, [0, 13], [6], 80))
theorem c_227y_s_1 : vOkm T0 (eN e_227w L_227y (eAB A_227 B_227) mu_227 y_227 By_227 none) 1 g_227y_s_1 := vOk_inI fun ρ η f0 f1 f2 f3 f4 f5 f6 f7 f8 f9 f10 f11 f12 f13 f14 f15 f16 f17 f18 f19 f20 f21 f22 f23 f24 f25 f26 f27 f28 f29 f30 f31 f32 => q_227y_1 (n0 := ρ 0) (n1 := ρ 1) (n2 := ρ 2) (n3 := ρ 3) (n4 := ρ 4) (n5 := ρ 5) (n6 := ρ 6) (n7 := ρ 7) (n8 := ρ 8) (n9 := ρ 9) (n10 := ρ 10) (n11 := ρ 11) (n12 := ρ 12) (n13 := ρ 13) (H0 := η 0) (H1 := η 1) (H2 := η 2) (H3 := η 3) (H4 := η 4) (H5 := η 5) (H6 := η 6) f32 f31 f30 f29 f28 f27 f26 f25 f24 f23 f22 f21 f20 f19 f18 f17 f16 f15 f14 f13 f12 f11 f10 f9 f8 f7 f6 f5 f4 f3 f2 f1 f0
theorem q_227y_2 {n0 n1 n2 n3 n4 n5 n6 n7 n8 n9 n10 n11 : Int} {H0 H1 H2 H3 H4 H5 : gH} (f0 : n0 = 285) (f1 : hWt T0 H0 ∧ preb_227 n0 H0) (f2 : n1 = 24) (f3 : n2 ≤ 1) (f4 : 0 ≤ n2) (f5 : (hLe T0 H0 H1 ∧ hFr s_216.2.2.2.2 H0 H1 ∧ ((0 : Int) = 0 → H1.length = H0.length) ∧ hWt T0 H1) ∧ postb_216 n2 n0 n1 H0 H1) (f6 : n2 = 0) (f7 : n3 = 31) (f8 : n4 ≤ 1) (f9 : 0 ≤ n4) (f10 : (hLe T0 H1 H2 ∧ hFr s_216.2.2.2.2 H1 H2 ∧ ((0 : Int) = 0 → H2.length = H1.length) ∧ hWt T0 H2) ∧ postb_216 n4 n0 n3 H1 H2) (f11 : n4 = 0) (f12 : n5 = 33) (f13 : n6 ≤ 1) (f14 : 0 ≤ n6) (f15 : (hLe T0 H2 H3 ∧ hFr s_216.2.2.2.2 H2 H3 ∧ ((0 : Int) = 0 → H3.length = H2.length) ∧ hWt T0 H3) ∧ postb_216 n6 n0 n5 H2 H3) (f16 : n6 = 0) (f17 : n7 = 37) (f18 : n8 ≤ 1) (f19 : 0 ≤ n8) (f20 : (hLe T0 H3 H4 ∧ hFr s_216.2.2.2.2 H3 H4 ∧ ((0 : Int) = 0 → H4.length = H3.length) ∧ hWt T0 H4) ∧ postb_216 n8 n0 n7 H3 H4) (f21 : n8 = 0) (f22 : n9 = 39) (f23 : n10 ≤ 1) (f24 : 0 ≤ n10) (f25 : (hLe T0 H4 H5 ∧ hFr s_216.2.2.2.2 H4 H5 ∧ ((0 : Int) = 0 → H5.length = H4.length) ∧ hWt T0 H5) ∧ postb_216 n10 n0 n9 H4 H5) (f26 : n10 ≠ 0) (f27 : n11 = 4) : Byb_227_80 n0 n0 n11 H0 H5 := by
  unfold Byb_227_80
  intro z zr
  exact (CR8_tr (CR8_fr f5.1.2.1 (by decide +kernel)) (CR8_tr (CR8_fr f10.1.2.1 (by decide +kernel)) (CR8_tr (CR8_fr f15.1.2.1 (by decide +kernel)) (CR8_tr (CR8_fr f20.1.2.1 (by decide +kernel)) (CR8_fr f25.1.2.1 (by decide +kernel))))))
def g_227y_s_2 : vG := ([(0, [11], [], 4), (31, [10], [], 0), (1216, [10, 0, 9], [4, 5], 0), (90, [10], [], 0), (91, [10], [], 1), (0, [9], [], 39), (30, [8], [], 0), (1216, [8, 0, 7], [3, 4], 0), (90, [8], [], 0), (91, [8], [], 1), (0, [7], [], 37), (30, [6], [], 0), (1216, [6, 0, 5], [2, 3], 0), (90, [6], [], 0), (91, [6], [], 1), (0, [5], [], 33), (30, [4], [], 0), (1216, [4, 0, 3], [1, 2], 0), (90, [4], [], 0), (91, [4], [], 1), (0, [3], [], 31), (30, [2], [], 0), (1216, [2, 0, 1], [0, 1], 0), (90, [2], [], 0), (91, [2], [], 1), (0, [1], [], 24), (6000, [0], [0], 0), (0, [0], [], 285)], (4000, [0, 11], [5], 80))
theorem c_227y_s_2 : vOkm T0 (eN e_227w L_227y (eAB A_227 B_227) mu_227 y_227 By_227 none) 1 g_227y_s_2 := vOk_inI fun ρ η f0 f1 f2 f3 f4 f5 f6 f7 f8 f9 f10 f11 f12 f13 f14 f15 f16 f17 f18 f19 f20 f21 f22 f23 f24 f25 f26 f27 => q_227y_2 (n0 := ρ 0) (n1 := ρ 1) (n2 := ρ 2) (n3 := ρ 3) (n4 := ρ 4) (n5 := ρ 5) (n6 := ρ 6) (n7 := ρ 7) (n8 := ρ 8) (n9 := ρ 9) (n10 := ρ 10) (n11 := ρ 11) (H0 := η 0) (H1 := η 1) (H2 := η 2) (H3 := η 3) (H4 := η 4) (H5 := η 5) f27 f26 f25 f24 f23 f22 f21 f20 f19 f18 f17 f16 f15 f14 f13 f12 f11 f10 f9 f8 f7 f6 f5 f4 f3 f2 f1 f0
theorem q_227y_3 {n0 n1 n2 n3 n4 n5 n6 n7 n8 n9 : Int} {H0 H1 H2 H3 H4 : gH} (f0 : n0 = 285) (f1 : hWt T0 H0 ∧ preb_227 n0 H0) (f2 : n1 = 24) (f3 : n2 ≤ 1) (f4 : 0 ≤ n2) (f5 : (hLe T0 H0 H1 ∧ hFr s_216.2.2.2.2 H0 H1 ∧ ((0 : Int) = 0 → H1.length = H0.length) ∧ hWt T0 H1) ∧ postb_216 n2 n0 n1 H0 H1) (f6 : n2 = 0) (f7 : n3 = 31) (f8 : n4 ≤ 1) (f9 : 0 ≤ n4) (f10 : (hLe T0 H1 H2 ∧ hFr s_216.2.2.2.2 H1 H2 ∧ ((0 : Int) = 0 → H2.length = H1.length) ∧ hWt T0 H2) ∧ postb_216 n4 n0 n3 H1 H2) (f11 : n4 = 0) (f12 : n5 = 33) (f13 : n6 ≤ 1) (f14 : 0 ≤ n6) (f15 : (hLe T0 H2 H3 ∧ hFr s_216.2.2.2.2 H2 H3 ∧ ((0 : Int) = 0 → H3.length = H2.length) ∧ hWt T0 H3) ∧ postb_216 n6 n0 n5 H2 H3) (f16 : n6 = 0) (f17 : n7 = 37) (f18 : n8 ≤ 1) (f19 : 0 ≤ n8) (f20 : (hLe T0 H3 H4 ∧ hFr s_216.2.2.2.2 H3 H4 ∧ ((0 : Int) = 0 → H4.length = H3.length) ∧ hWt T0 H4) ∧ postb_216 n8 n0 n7 H3 H4) (f21 : n8 ≠ 0) (f22 : n9 = 3) : Byb_227_80 n0 n0 n9 H0 H4 := by
  unfold Byb_227_80
  intro z zr
  exact (CR8_tr (CR8_fr f5.1.2.1 (by decide +kernel)) (CR8_tr (CR8_fr f10.1.2.1 (by decide +kernel)) (CR8_tr (CR8_fr f15.1.2.1 (by decide +kernel)) (CR8_fr f20.1.2.1 (by decide +kernel)))))
def g_227y_s_3 : vG := ([(0, [9], [], 3), (31, [8], [], 0), (1216, [8, 0, 7], [3, 4], 0), (90, [8], [], 0), (91, [8], [], 1), (0, [7], [], 37), (30, [6], [], 0), (1216, [6, 0, 5], [2, 3], 0), (90, [6], [], 0), (91, [6], [], 1), (0, [5], [], 33), (30, [4], [], 0), (1216, [4, 0, 3], [1, 2], 0), (90, [4], [], 0), (91, [4], [], 1), (0, [3], [], 31), (30, [2], [], 0), (1216, [2, 0, 1], [0, 1], 0), (90, [2], [], 0), (91, [2], [], 1), (0, [1], [], 24), (6000, [0], [0], 0), (0, [0], [], 285)], (4000, [0, 9], [4], 80))
theorem c_227y_s_3 : vOkm T0 (eN e_227w L_227y (eAB A_227 B_227) mu_227 y_227 By_227 none) 1 g_227y_s_3 := vOk_inI fun ρ η f0 f1 f2 f3 f4 f5 f6 f7 f8 f9 f10 f11 f12 f13 f14 f15 f16 f17 f18 f19 f20 f21 f22 => q_227y_3 (n0 := ρ 0) (n1 := ρ 1) (n2 := ρ 2) (n3 := ρ 3) (n4 := ρ 4) (n5 := ρ 5) (n6 := ρ 6) (n7 := ρ 7) (n8 := ρ 8) (n9 := ρ 9) (H0 := η 0) (H1 := η 1) (H2 := η 2) (H3 := η 3) (H4 := η 4) f22 f21 f20 f19 f18 f17 f16 f15 f14 f13 f12 f11 f10 f9 f8 f7 f6 f5 f4 f3 f2 f1 f0
theorem q_227y_4 {n0 n1 n2 n3 n4 n5 n6 n7 : Int} {H0 H1 H2 H3 : gH} (f0 : n0 = 285) (f1 : hWt T0 H0 ∧ preb_227 n0 H0) (f2 : n1 = 24) (f3 : n2 ≤ 1) (f4 : 0 ≤ n2) (f5 : (hLe T0 H0 H1 ∧ hFr s_216.2.2.2.2 H0 H1 ∧ ((0 : Int) = 0 → H1.length = H0.length) ∧ hWt T0 H1) ∧ postb_216 n2 n0 n1 H0 H1) (f6 : n2 = 0) (f7 : n3 = 31) (f8 : n4 ≤ 1) (f9 : 0 ≤ n4) (f10 : (hLe T0 H1 H2 ∧ hFr s_216.2.2.2.2 H1 H2 ∧ ((0 : Int) = 0 → H2.length = H1.length) ∧ hWt T0 H2) ∧ postb_216 n4 n0 n3 H1 H2) (f11 : n4 = 0) (f12 : n5 = 33) (f13 : n6 ≤ 1) (f14 : 0 ≤ n6) (f15 : (hLe T0 H2 H3 ∧ hFr s_216.2.2.2.2 H2 H3 ∧ ((0 : Int) = 0 → H3.length = H2.length) ∧ hWt T0 H3) ∧ postb_216 n6 n0 n5 H2 H3) (f16 : n6 ≠ 0) (f17 : n7 = 2) : Byb_227_80 n0 n0 n7 H0 H3 := by
  unfold Byb_227_80
  intro z zr
  exact (CR8_tr (CR8_fr f5.1.2.1 (by decide +kernel)) (CR8_tr (CR8_fr f10.1.2.1 (by decide +kernel)) (CR8_fr f15.1.2.1 (by decide +kernel))))
def g_227y_s_4 : vG := ([(0, [7], [], 2), (31, [6], [], 0), (1216, [6, 0, 5], [2, 3], 0), (90, [6], [], 0), (91, [6], [], 1), (0, [5], [], 33), (30, [4], [], 0), (1216, [4, 0, 3], [1, 2], 0), (90, [4], [], 0), (91, [4], [], 1), (0, [3], [], 31), (30, [2], [], 0), (1216, [2, 0, 1], [0, 1], 0), (90, [2], [], 0), (91, [2], [], 1), (0, [1], [], 24), (6000, [0], [0], 0), (0, [0], [], 285)], (4000, [0, 7], [3], 80))
theorem c_227y_s_4 : vOkm T0 (eN e_227w L_227y (eAB A_227 B_227) mu_227 y_227 By_227 none) 1 g_227y_s_4 := vOk_inI fun ρ η f0 f1 f2 f3 f4 f5 f6 f7 f8 f9 f10 f11 f12 f13 f14 f15 f16 f17 => q_227y_4 (n0 := ρ 0) (n1 := ρ 1) (n2 := ρ 2) (n3 := ρ 3) (n4 := ρ 4) (n5 := ρ 5) (n6 := ρ 6) (n7 := ρ 7) (H0 := η 0) (H1 := η 1) (H2 := η 2) (H3 := η 3) f17 f16 f15 f14 f13 f12 f11 f10 f9 f8 f7 f6 f5 f4 f3 f2 f1 f0
theorem q_227y_5 {n0 n1 n2 n3 n4 n5 : Int} {H0 H1 H2 : gH} (f0 : n0 = 285) (f1 : hWt T0 H0 ∧ preb_227 n0 H0) (f2 : n1 = 24) (f3 : n2 ≤ 1) (f4 : 0 ≤ n2) (f5 : (hLe T0 H0 H1 ∧ hFr s_216.2.2.2.2 H0 H1 ∧ ((0 : Int) = 0 → H1.length = H0.length) ∧ hWt T0 H1) ∧ postb_216 n2 n0 n1 H0 H1) (f6 : n2 = 0) (f7 : n3 = 31) (f8 : n4 ≤ 1) (f9 : 0 ≤ n4) (f10 : (hLe T0 H1 H2 ∧ hFr s_216.2.2.2.2 H1 H2 ∧ ((0 : Int) = 0 → H2.length = H1.length) ∧ hWt T0 H2) ∧ postb_216 n4 n0 n3 H1 H2) (f11 : n4 ≠ 0) (f12 : n5 = 1) : Byb_227_80 n0 n0 n5 H0 H2 := by
  unfold Byb_227_80
  intro z zr
  exact (CR8_tr (CR8_fr f5.1.2.1 (by decide +kernel)) (CR8_fr f10.1.2.1 (by decide +kernel)))
def g_227y_s_5 : vG := ([(0, [5], [], 1), (31, [4], [], 0), (1216, [4, 0, 3], [1, 2], 0), (90, [4], [], 0), (91, [4], [], 1), (0, [3], [], 31), (30, [2], [], 0), (1216, [2, 0, 1], [0, 1], 0), (90, [2], [], 0), (91, [2], [], 1), (0, [1], [], 24), (6000, [0], [0], 0), (0, [0], [], 285)], (4000, [0, 5], [2], 80))
theorem c_227y_s_5 : vOkm T0 (eN e_227w L_227y (eAB A_227 B_227) mu_227 y_227 By_227 none) 1 g_227y_s_5 := vOk_inI fun ρ η f0 f1 f2 f3 f4 f5 f6 f7 f8 f9 f10 f11 f12 => q_227y_5 (n0 := ρ 0) (n1 := ρ 1) (n2 := ρ 2) (n3 := ρ 3) (n4 := ρ 4) (n5 := ρ 5) (H0 := η 0) (H1 := η 1) (H2 := η 2) f12 f11 f10 f9 f8 f7 f6 f5 f4 f3 f2 f1 f0
theorem q_227y_6 {n0 n1 n2 n3 : Int} {H0 H1 : gH} (f0 : n0 = 285) (f1 : hWt T0 H0 ∧ preb_227 n0 H0) (f2 : n1 = 24) (f3 : n2 ≤ 1) (f4 : 0 ≤ n2) (f5 : (hLe T0 H0 H1 ∧ hFr s_216.2.2.2.2 H0 H1 ∧ ((0 : Int) = 0 → H1.length = H0.length) ∧ hWt T0 H1) ∧ postb_216 n2 n0 n1 H0 H1) (f6 : n2 ≠ 0) (f7 : n3 = 0) : Byb_227_80 n0 n0 n3 H0 H1 := by
  unfold Byb_227_80
  intro z zr
  exact (CR8_fr f5.1.2.1 (by decide +kernel))
def g_227y_s_6 : vG := ([(0, [3], [], 0), (31, [2], [], 0), (1216, [2, 0, 1], [0, 1], 0), (90, [2], [], 0), (91, [2], [], 1), (0, [1], [], 24), (6000, [0], [0], 0), (0, [0], [], 285)], (4000, [0, 3], [1], 80))
theorem c_227y_s_6 : vOkm T0 (eN e_227w L_227y (eAB A_227 B_227) mu_227 y_227 By_227 none) 1 g_227y_s_6 := vOk_inI fun ρ η f0 f1 f2 f3 f4 f5 f6 f7 => q_227y_6 (n0 := ρ 0) (n1 := ρ 1) (n2 := ρ 2) (n3 := ρ 3) (H0 := η 0) (H1 := η 1) f7 f6 f5 f4 f3 f2 f1 f0
def p_227y_s : List vG := [g_227y_s_0,
  g_227y_s_1,
  g_227y_s_2,
  g_227y_s_3,
  g_227y_s_4,
  g_227y_s_5,
  g_227y_s_6]
theorem r_227y_s : vCovBO (eR0 e_227w L_227w cs_227 2000) p_227y_s = true := by decide +kernel
theorem q_227y_7 {q0 : Nat} {n0 n1 n2 n3 n4 n5 n6 n7 n8 : Int} {H0 H1 : gH} (f0 : n0 ≤ 5) (f1 : (-1) ≤ n0) (f2 : n1 = 285) (f3 : n2 = 285) (f4 : (hLe T0 H0 H1 ∧ hFr s_227.2.2.2.2 H0 H1 ∧ hWt T0 H1) ∧ (((Ab_227_80 n2 n1 n0 H0 H1 ∧ Bb_227_80 n2 n1 n0 H0 H1) ∧ Byb_227_80 n2 n1 n0 H0 H1) ∧ preb_227 n2 H0) ∧ some q0 = some (mub_227_80 n2 n1 n0 H0 H1)) (f5 : n3 = (-1)) (f6 : n0 ≠ n3) (f7 : n4 = 296) (f8 : hK H1 (n1).toNat = 12) (f9 : n4 = hV H1 (n1).toNat 22) (f10 : n5 ≤ 62) (f11 : 0 ≤ n5) (f12 : hK H1 (n1).toNat = 12) (f13 : n5 = hV H1 (n1).toNat 33) (f14 : n6 ≤ 16) (f15 : 0 ≤ n6) (f16 : n6 = hV H1 (n4).toNat (n5).toNat) (f17 : n7 = 16) (f18 : n6 ≠ n7) (f19 : n8 ≤ 2) (f20 : 0 ≤ n8) (f21 : hK H1 (n1).toNat = 12) (f22 : n8 = hV H1 (n1).toNat 13) (f23 : n8 ≤ 0) : Byb_227_120 n2 n1 n0 H0 H1 := by
  unfold Byb_227_120
  intro z zr
  have ga := f4.2.1.1.1.2
  unfold Bb_227_80 at ga
  obtain ⟨z1, a1, pm, ps, k⟩ := ga z zr
  have vz : vwR H1 = vwR H0 := vwR_fr f4.1.2.1 (by decide +kernel)
  have gy := f4.2.1.1.2
  unfold Byb_227_80 at gy
  have y8 := gy z zr
  have d13 := rdS (q := 285) f13 f2
  have d16 := rdW (q := 296) f16 f7
  have d22 := rdS (q := 285) f22 f2
  have q6 := f6
  have qc5 := f5
  have q18 := f18
  have qc17 := f17
  have q23 := f23
  exact y8
def g_227y_80_0 : vG := ([(35, [8], [], 0), (20, [8, 1], [1], 13), (23, [1], [1], 12), (90, [8], [], 0), (91, [8], [], 2), (41, [6, 7], [], 0), (0, [7], [], 16), (22, [6, 4, 5], [1], 0), (90, [6], [], 0), (91, [6], [], 16), (20, [5, 1], [1], 33), (23, [1], [1], 12), (90, [5], [], 0), (91, [5], [], 62), (20, [4, 1], [1], 22), (23, [1], [1], 12), (0, [4], [], 296), (41, [2, 3], [], 0), (0, [3], [], -1), (5000, [0, 1, 2], [0, 1], 80), (0, [0], [], 285), (0, [1], [], 285), (90, [2], [], -1), (91, [2], [], 5)], (4000, [1, 2], [1], 120))
theorem c_227y_80_0 {q0 : Nat} : vOkm T0 (eN e_227w L_227y (eAB A_227 B_227) mu_227 y_227 By_227 (some q0)) 1 g_227y_80_0 := vOk_inI fun ρ η f0 f1 f2 f3 f4 f5 f6 f7 f8 f9 f10 f11 f12 f13 f14 f15 f16 f17 f18 f19 f20 f21 f22 f23 => q_227y_7 (q0 := q0) (n0 := ρ 2) (n1 := ρ 1) (n2 := ρ 0) (n3 := ρ 3) (n4 := ρ 4) (n5 := ρ 5) (n6 := ρ 6) (n7 := ρ 7) (n8 := ρ 8) (H0 := η 0) (H1 := η 1) f23 f22 f21 f20 f19 f18 f17 f16 f15 f14 f13 f12 f11 f10 f9 f8 f7 f6 f5 f4 f3 f2 f1 f0
theorem q_227y_8 {q0 : Nat} {n0 n1 n2 n3 n4 n5 n6 n7 n8 : Int} {H0 H1 : gH} (f0 : n0 ≤ 5) (f1 : (-1) ≤ n0) (f2 : n1 = 285) (f3 : n2 = 285) (f4 : (hLe T0 H0 H1 ∧ hFr s_227.2.2.2.2 H0 H1 ∧ hWt T0 H1) ∧ (((Ab_227_80 n2 n1 n0 H0 H1 ∧ Bb_227_80 n2 n1 n0 H0 H1) ∧ Byb_227_80 n2 n1 n0 H0 H1) ∧ preb_227 n2 H0) ∧ some q0 = some (mub_227_80 n2 n1 n0 H0 H1)) (f5 : n3 = (-1)) (f6 : n0 ≠ n3) (f7 : n4 = 296) (f8 : hK H1 (n1).toNat = 12) (f9 : n4 = hV H1 (n1).toNat 22) (f10 : n5 ≤ 62) (f11 : 0 ≤ n5) (f12 : hK H1 (n1).toNat = 12) (f13 : n5 = hV H1 (n1).toNat 33) (f14 : n6 ≤ 16) (f15 : 0 ≤ n6) (f16 : n6 = hV H1 (n4).toNat (n5).toNat) (f17 : n7 = 16) (f18 : n6 ≠ n7) (f19 : n8 ≤ 2) (f20 : 0 ≤ n8) (f21 : hK H1 (n1).toNat = 12) (f22 : n8 = hV H1 (n1).toNat 13) (f23 : 0 < n8) : yb_227 n2 H0 H1 := by
  unfold yb_227
  intro z zr
  have ga := f4.2.1.1.1.2
  unfold Bb_227_80 at ga
  obtain ⟨z1, a1, pm, ps, k⟩ := ga z zr
  have vz : vwR H1 = vwR H0 := vwR_fr f4.1.2.1 (by decide +kernel)
  have gy := f4.2.1.1.2
  unfold Byb_227_80 at gy
  have y8 := gy z zr
  have d13 := rdS (q := 285) f13 f2
  have d16 := rdW (q := 296) f16 f7
  have d22 := rdS (q := 285) f22 f2
  have q6 := f6
  have qc5 := f5
  have q18 := f18
  have qc17 := f17
  have q23 := f23
  exact ⟨CRo_8 y8, fun hf => by exfalso; omega⟩
def g_227y_80_1 : vG := ([(34, [8], [], 0), (20, [8, 1], [1], 13), (23, [1], [1], 12), (90, [8], [], 0), (91, [8], [], 2), (41, [6, 7], [], 0), (0, [7], [], 16), (22, [6, 4, 5], [1], 0), (90, [6], [], 0), (91, [6], [], 16), (20, [5, 1], [1], 33), (23, [1], [1], 12), (90, [5], [], 0), (91, [5], [], 62), (20, [4, 1], [1], 22), (23, [1], [1], 12), (0, [4], [], 296), (41, [2, 3], [], 0), (0, [3], [], -1), (5000, [0, 1, 2], [0, 1], 80), (0, [0], [], 285), (0, [1], [], 285), (90, [2], [], -1), (91, [2], [], 5)], (3000, [], [1], 119))
theorem c_227y_80_1 {q0 : Nat} : vOkm T0 (eN e_227w L_227y (eAB A_227 B_227) mu_227 y_227 By_227 (some q0)) 1 g_227y_80_1 := vOk_inI fun ρ η f0 f1 f2 f3 f4 f5 f6 f7 f8 f9 f10 f11 f12 f13 f14 f15 f16 f17 f18 f19 f20 f21 f22 f23 => q_227y_8 (q0 := q0) (n0 := ρ 2) (n1 := ρ 1) (n2 := ρ 0) (n3 := ρ 3) (n4 := ρ 4) (n5 := ρ 5) (n6 := ρ 6) (n7 := ρ 7) (n8 := ρ 8) (H0 := η 0) (H1 := η 1) f23 f22 f21 f20 f19 f18 f17 f16 f15 f14 f13 f12 f11 f10 f9 f8 f7 f6 f5 f4 f3 f2 f1 f0
theorem q_227y_9 {q0 : Nat} {n0 n1 n2 n3 n4 n5 n6 n7 n8 n9 : Int} {H0 H1 H2 : gH} (f0 : n0 ≤ 5) (f1 : (-1) ≤ n0) (f2 : n1 = 285) (f3 : n2 = 285) (f4 : (hLe T0 H0 H1 ∧ hFr s_227.2.2.2.2 H0 H1 ∧ hWt T0 H1) ∧ (((Ab_227_80 n2 n1 n0 H0 H1 ∧ Bb_227_80 n2 n1 n0 H0 H1) ∧ Byb_227_80 n2 n1 n0 H0 H1) ∧ preb_227 n2 H0) ∧ some q0 = some (mub_227_80 n2 n1 n0 H0 H1)) (f5 : n3 = (-1)) (f6 : n0 ≠ n3) (f7 : n4 = 296) (f8 : hK H1 (n1).toNat = 12) (f9 : n4 = hV H1 (n1).toNat 22) (f10 : n5 ≤ 62) (f11 : 0 ≤ n5) (f12 : hK H1 (n1).toNat = 12) (f13 : n5 = hV H1 (n1).toNat 33) (f14 : n6 ≤ 16) (f15 : 0 ≤ n6) (f16 : n6 = hV H1 (n4).toNat (n5).toNat) (f17 : n7 = 16) (f18 : n6 = n7) (f19 : n8 = 2) (f20 : (hLe T0 H1 H2 ∧ hFr s_217.2.2.2.2 H1 H2 ∧ ((0 : Int) = 0 → H2.length = H1.length) ∧ hWt T0 H2) ∧ (postb_217 n1 n8 H1 H2 ∧ nb_217 n1 n8 H1 H2)) (f21 : n9 ≤ 2) (f22 : 0 ≤ n9) (f23 : hK H2 (n1).toNat = 12) (f24 : n9 = hV H2 (n1).toNat 13) (f25 : n9 ≤ 0) : Byb_227_120 n2 n1 n0 H0 H2 := by
  unfold Byb_227_120
  intro z zr
  have ga := f4.2.1.1.1.2
  unfold Bb_227_80 at ga
  obtain ⟨z1, a1, pm, ps, k⟩ := ga z zr
  have vz : vwR H1 = vwR H0 := vwR_fr f4.1.2.1 (by decide +kernel)
  have gy := f4.2.1.1.2
  unfold Byb_227_80 at gy
  have y8 := gy z zr
  have d13 := rdS (q := 285) f13 f2
  have d16 := rdW (q := 296) f16 f7
  have d24 := rdS (q := 285) f24 f2
  have q6 := f6
  have qc5 := f5
  have q18 := f18
  have qc17 := f17
  have q25 := f25
  exact CR8_tr y8 (CR8_fr f20.1.2.1 (by decide +kernel))
def g_227y_80_2 : vG := ([(35, [9], [], 0), (20, [9, 1], [2], 13), (23, [1], [2], 12), (90, [9], [], 0), (91, [9], [], 2), (1217, [1, 8], [1, 2], 0), (0, [8], [], 2), (40, [6, 7], [], 0), (0, [7], [], 16), (22, [6, 4, 5], [1], 0), (90, [6], [], 0), (91, [6], [], 16), (20, [5, 1], [1], 33), (23, [1], [1], 12), (90, [5], [], 0), (91, [5], [], 62), (20, [4, 1], [1], 22), (23, [1], [1], 12), (0, [4], [], 296), (41, [2, 3], [], 0), (0, [3], [], -1), (5000, [0, 1, 2], [0, 1], 80), (0, [0], [], 285), (0, [1], [], 285), (90, [2], [], -1), (91, [2], [], 5)], (4000, [1, 2], [2], 120))
theorem c_227y_80_2 {q0 : Nat} : vOkm T0 (eN e_227w L_227y (eAB A_227 B_227) mu_227 y_227 By_227 (some q0)) 1 g_227y_80_2 := vOk_inI fun ρ η f0 f1 f2 f3 f4 f5 f6 f7 f8 f9 f10 f11 f12 f13 f14 f15 f16 f17 f18 f19 f20 f21 f22 f23 f24 f25 => q_227y_9 (q0 := q0) (n0 := ρ 2) (n1 := ρ 1) (n2 := ρ 0) (n3 := ρ 3) (n4 := ρ 4) (n5 := ρ 5) (n6 := ρ 6) (n7 := ρ 7) (n8 := ρ 8) (n9 := ρ 9) (H0 := η 0) (H1 := η 1) (H2 := η 2) f25 f24 f23 f22 f21 f20 f19 f18 f17 f16 f15 f14 f13 f12 f11 f10 f9 f8 f7 f6 f5 f4 f3 f2 f1 f0
theorem q_227y_10 {q0 : Nat} {n0 n1 n2 n3 n4 n5 n6 n7 n8 n9 : Int} {H0 H1 H2 : gH} (f0 : n0 ≤ 5) (f1 : (-1) ≤ n0) (f2 : n1 = 285) (f3 : n2 = 285) (f4 : (hLe T0 H0 H1 ∧ hFr s_227.2.2.2.2 H0 H1 ∧ hWt T0 H1) ∧ (((Ab_227_80 n2 n1 n0 H0 H1 ∧ Bb_227_80 n2 n1 n0 H0 H1) ∧ Byb_227_80 n2 n1 n0 H0 H1) ∧ preb_227 n2 H0) ∧ some q0 = some (mub_227_80 n2 n1 n0 H0 H1)) (f5 : n3 = (-1)) (f6 : n0 ≠ n3) (f7 : n4 = 296) (f8 : hK H1 (n1).toNat = 12) (f9 : n4 = hV H1 (n1).toNat 22) (f10 : n5 ≤ 62) (f11 : 0 ≤ n5) (f12 : hK H1 (n1).toNat = 12) (f13 : n5 = hV H1 (n1).toNat 33) (f14 : n6 ≤ 16) (f15 : 0 ≤ n6) (f16 : n6 = hV H1 (n4).toNat (n5).toNat) (f17 : n7 = 16) (f18 : n6 = n7) (f19 : n8 = 2) (f20 : (hLe T0 H1 H2 ∧ hFr s_217.2.2.2.2 H1 H2 ∧ ((0 : Int) = 0 → H2.length = H1.length) ∧ hWt T0 H2) ∧ (postb_217 n1 n8 H1 H2 ∧ nb_217 n1 n8 H1 H2)) (f21 : n9 ≤ 2) (f22 : 0 ≤ n9) (f23 : hK H2 (n1).toNat = 12) (f24 : n9 = hV H2 (n1).toNat 13) (f25 : 0 < n9) : yb_227 n2 H0 H2 := by
  unfold yb_227
  intro z zr
  have ga := f4.2.1.1.1.2
  unfold Bb_227_80 at ga
  obtain ⟨z1, a1, pm, ps, k⟩ := ga z zr
  have vz : vwR H1 = vwR H0 := vwR_fr f4.1.2.1 (by decide +kernel)
  have gy := f4.2.1.1.2
  unfold Byb_227_80 at gy
  have y8 := gy z zr
  have d13 := rdS (q := 285) f13 f2
  have d16 := rdW (q := 296) f16 f7
  have d24 := rdS (q := 285) f24 f2
  have q6 := f6
  have qc5 := f5
  have q18 := f18
  have qc17 := f17
  have q25 := f25
  exact ⟨CRo_8 (CR8_tr y8 (CR8_fr f20.1.2.1 (by decide +kernel))), fun hf => by exfalso; omega⟩
def g_227y_80_3 : vG := ([(34, [9], [], 0), (20, [9, 1], [2], 13), (23, [1], [2], 12), (90, [9], [], 0), (91, [9], [], 2), (1217, [1, 8], [1, 2], 0), (0, [8], [], 2), (40, [6, 7], [], 0), (0, [7], [], 16), (22, [6, 4, 5], [1], 0), (90, [6], [], 0), (91, [6], [], 16), (20, [5, 1], [1], 33), (23, [1], [1], 12), (90, [5], [], 0), (91, [5], [], 62), (20, [4, 1], [1], 22), (23, [1], [1], 12), (0, [4], [], 296), (41, [2, 3], [], 0), (0, [3], [], -1), (5000, [0, 1, 2], [0, 1], 80), (0, [0], [], 285), (0, [1], [], 285), (90, [2], [], -1), (91, [2], [], 5)], (3000, [], [2], 119))
theorem c_227y_80_3 {q0 : Nat} : vOkm T0 (eN e_227w L_227y (eAB A_227 B_227) mu_227 y_227 By_227 (some q0)) 1 g_227y_80_3 := vOk_inI fun ρ η f0 f1 f2 f3 f4 f5 f6 f7 f8 f9 f10 f11 f12 f13 f14 f15 f16 f17 f18 f19 f20 f21 f22 f23 f24 f25 => q_227y_10 (q0 := q0) (n0 := ρ 2) (n1 := ρ 1) (n2 := ρ 0) (n3 := ρ 3) (n4 := ρ 4) (n5 := ρ 5) (n6 := ρ 6) (n7 := ρ 7) (n8 := ρ 8) (n9 := ρ 9) (H0 := η 0) (H1 := η 1) (H2 := η 2) f25 f24 f23 f22 f21 f20 f19 f18 f17 f16 f15 f14 f13 f12 f11 f10 f9 f8 f7 f6 f5 f4 f3 f2 f1 f0
theorem q_227y_11 {q0 : Nat} {n0 n1 n2 n3 n4 n5 : Int} {H0 H1 H2 : gH} (f0 : n0 ≤ 5) (f1 : (-1) ≤ n0) (f2 : n1 = 285) (f3 : n2 = 285) (f4 : (hLe T0 H0 H1 ∧ hFr s_227.2.2.2.2 H0 H1 ∧ hWt T0 H1) ∧ (((Ab_227_80 n2 n1 n0 H0 H1 ∧ Bb_227_80 n2 n1 n0 H0 H1) ∧ Byb_227_80 n2 n1 n0 H0 H1) ∧ preb_227 n2 H0) ∧ some q0 = some (mub_227_80 n2 n1 n0 H0 H1)) (f5 : n3 = (-1)) (f6 : n0 = n3) (f7 : n4 = 1) (f8 : (hLe T0 H1 H2 ∧ hFr s_217.2.2.2.2 H1 H2 ∧ ((0 : Int) = 0 → H2.length = H1.length) ∧ hWt T0 H2) ∧ (postb_217 n1 n4 H1 H2 ∧ nb_217 n1 n4 H1 H2)) (f9 : n5 ≤ 2) (f10 : 0 ≤ n5) (f11 : hK H2 (n1).toNat = 12) (f12 : n5 = hV H2 (n1).toNat 13) (f13 : n5 ≤ 0) : Byb_227_120 n2 n1 n0 H0 H2 := by
  unfold Byb_227_120
  intro z zr
  have ga := f4.2.1.1.1.2
  unfold Bb_227_80 at ga
  obtain ⟨z1, a1, pm, ps, k⟩ := ga z zr
  have vz : vwR H1 = vwR H0 := vwR_fr f4.1.2.1 (by decide +kernel)
  have gy := f4.2.1.1.2
  unfold Byb_227_80 at gy
  have y8 := gy z zr
  have d12 := rdS (q := 285) f12 f2
  have q6 := f6
  have qc5 := f5
  have q13 := f13
  exact CR8_tr y8 (CR8_fr f8.1.2.1 (by decide +kernel))
def g_227y_80_4 : vG := ([(35, [5], [], 0), (20, [5, 1], [2], 13), (23, [1], [2], 12), (90, [5], [], 0), (91, [5], [], 2), (1217, [1, 4], [1, 2], 0), (0, [4], [], 1), (40, [2, 3], [], 0), (0, [3], [], -1), (5000, [0, 1, 2], [0, 1], 80), (0, [0], [], 285), (0, [1], [], 285), (90, [2], [], -1), (91, [2], [], 5)], (4000, [1, 2], [2], 120))
theorem c_227y_80_4 {q0 : Nat} : vOkm T0 (eN e_227w L_227y (eAB A_227 B_227) mu_227 y_227 By_227 (some q0)) 1 g_227y_80_4 := vOk_inI fun ρ η f0 f1 f2 f3 f4 f5 f6 f7 f8 f9 f10 f11 f12 f13 => q_227y_11 (q0 := q0) (n0 := ρ 2) (n1 := ρ 1) (n2 := ρ 0) (n3 := ρ 3) (n4 := ρ 4) (n5 := ρ 5) (H0 := η 0) (H1 := η 1) (H2 := η 2) f13 f12 f11 f10 f9 f8 f7 f6 f5 f4 f3 f2 f1 f0
theorem q_227y_12 {q0 : Nat} {n0 n1 n2 n3 n4 n5 : Int} {H0 H1 H2 : gH} (f0 : n0 ≤ 5) (f1 : (-1) ≤ n0) (f2 : n1 = 285) (f3 : n2 = 285) (f4 : (hLe T0 H0 H1 ∧ hFr s_227.2.2.2.2 H0 H1 ∧ hWt T0 H1) ∧ (((Ab_227_80 n2 n1 n0 H0 H1 ∧ Bb_227_80 n2 n1 n0 H0 H1) ∧ Byb_227_80 n2 n1 n0 H0 H1) ∧ preb_227 n2 H0) ∧ some q0 = some (mub_227_80 n2 n1 n0 H0 H1)) (f5 : n3 = (-1)) (f6 : n0 = n3) (f7 : n4 = 1) (f8 : (hLe T0 H1 H2 ∧ hFr s_217.2.2.2.2 H1 H2 ∧ ((0 : Int) = 0 → H2.length = H1.length) ∧ hWt T0 H2) ∧ (postb_217 n1 n4 H1 H2 ∧ nb_217 n1 n4 H1 H2)) (f9 : n5 ≤ 2) (f10 : 0 ≤ n5) (f11 : hK H2 (n1).toNat = 12) (f12 : n5 = hV H2 (n1).toNat 13) (f13 : 0 < n5) : yb_227 n2 H0 H2 := by
  unfold yb_227
  intro z zr
  have ga := f4.2.1.1.1.2
  unfold Bb_227_80 at ga
  obtain ⟨z1, a1, pm, ps, k⟩ := ga z zr
  have vz : vwR H1 = vwR H0 := vwR_fr f4.1.2.1 (by decide +kernel)
  have gy := f4.2.1.1.2
  unfold Byb_227_80 at gy
  have y8 := gy z zr
  have d12 := rdS (q := 285) f12 f2
  have q6 := f6
  have qc5 := f5
  have q13 := f13
  exact ⟨CRo_8 (CR8_tr y8 (CR8_fr f8.1.2.1 (by decide +kernel))), fun hf => by exfalso; omega⟩
def g_227y_80_5 : vG := ([(34, [5], [], 0), (20, [5, 1], [2], 13), (23, [1], [2], 12), (90, [5], [], 0), (91, [5], [], 2), (1217, [1, 4], [1, 2], 0), (0, [4], [], 1), (40, [2, 3], [], 0), (0, [3], [], -1), (5000, [0, 1, 2], [0, 1], 80), (0, [0], [], 285), (0, [1], [], 285), (90, [2], [], -1), (91, [2], [], 5)], (3000, [], [2], 119))
theorem c_227y_80_5 {q0 : Nat} : vOkm T0 (eN e_227w L_227y (eAB A_227 B_227) mu_227 y_227 By_227 (some q0)) 1 g_227y_80_5 := vOk_inI fun ρ η f0 f1 f2 f3 f4 f5 f6 f7 f8 f9 f10 f11 f12 f13 => q_227y_12 (q0 := q0) (n0 := ρ 2) (n1 := ρ 1) (n2 := ρ 0) (n3 := ρ 3) (n4 := ρ 4) (n5 := ρ 5) (H0 := η 0) (H1 := η 1) (H2 := η 2) f13 f12 f11 f10 f9 f8 f7 f6 f5 f4 f3 f2 f1 f0
def p_227y_80 : List vG := [g_227y_80_0,
  g_227y_80_1,
  g_227y_80_2,
  g_227y_80_3,
  g_227y_80_4,
  g_227y_80_5]
theorem r_227y_80 : vCovBO (eRc e_227w L_227w cs_227 2000 (80, [(0, (3, 12, 285, 0)), (1, (0, -1, 5, 0))])) p_227y_80 = true := by decide +kernel
theorem q_227y_13 {q0 : Nat} {n0 n1 n2 n3 n4 n5 n6 n7 n8 n9 n10 n11 n12 n13 n14 n15 n16 n17 n18 n19 : Int} {H0 H1 H2 H3 H4 H5 H6 : gH} (f0 : n0 ≤ 5) (f1 : 0 ≤ n0) (f2 : n1 = 285) (f3 : n2 = 285) (f4 : (hLe T0 H0 H1 ∧ hFr s_227.2.2.2.2 H0 H1 ∧ hWt T0 H1) ∧ (((Ab_227_120 n2 n1 n0 H0 H1 ∧ Bb_227_120 n2 n1 n0 H0 H1) ∧ Byb_227_120 n2 n1 n0 H0 H1) ∧ preb_227 n2 H0) ∧ some q0 = some (mub_227_120 n2 n1 n0 H0 H1)) (f5 : n3 = 16) (f6 : n4 ≤ 62) (f7 : 0 ≤ n4) (f8 : hK H1 (n1).toNat = 12) (f9 : n4 = hV H1 (n1).toNat 33) (f10 : n5 = w32 (n3 * n4)) (f11 : n6 = 296) (f12 : hK H1 (n1).toNat = 12) (f13 : n6 = hV H1 (n1).toNat 22) (f14 : n7 ≤ 62) (f15 : 0 ≤ n7) (f16 : hK H1 (n1).toNat = 12) (f17 : n7 = hV H1 (n1).toNat 33) (f18 : n8 ≤ 16) (f19 : 0 ≤ n8) (f20 : n8 = hV H1 (n6).toNat (n7).toNat) (f21 : n9 = w32 (n5 + n8)) (f22 : n10 = 298) (f23 : hK H1 (n1).toNat = 12) (f24 : n10 = hV H1 (n1).toNat 24) (f25 : hK H1 (n10).toNat = 212) (f26 : hUpd H2 H1 n10 n9 n0) (f27 : n11 = 299) (f28 : hK H2 (n1).toNat = 12) (f29 : n11 = hV H2 (n1).toNat 25) (f30 : n12 = 289) (f31 : hK H2 (n1).toNat = 12) (f32 : n12 = hV H2 (n1).toNat 6) (f33 : n13 ≤ 500) (f34 : 0 ≤ n13) (f35 : hK H2 (n1).toNat = 12) (f36 : n13 = hV H2 (n1).toNat 11) (f37 : n14 ≤ 2000) (f38 : 0 ≤ n14) (f39 : n14 = hV H2 (n12).toNat (n13).toNat) (f40 : hK H2 (n11).toNat = 220) (f41 : hUpd H3 H2 n11 n9 n14) (f42 : n15 = 301) (f43 : hK H3 (n1).toNat = 12) (f44 : n15 = hV H3 (n1).toNat 27) (f45 : n16 = (-1)) (f46 : hK H3 (n15).toNat = 236) (f47 : hUpd H4 H3 n15 n9 n16) (f48 : n17 = 303) (f49 : hK H4 (n1).toNat = 12) (f50 : n17 = hV H4 (n1).toNat 29) (f51 : n18 = (-1)) (f52 : hK H4 (n17).toNat = 252) (f53 : hUpd H5 H4 n17 n9 n18) (f54 : (hLe T0 H5 H6 ∧ hFr s_219.2.2.2.2 H5 H6 ∧ ((0 : Int) = 0 → H6.length = H5.length) ∧ hWt T0 H6) ∧ (postb_219 n1 H5 H6 ∧ nb_219 n1 H5 H6)) (f55 : n19 = 1) : Byb_227_180 n2 n1 n0 n9 n19 H0 H6 := by
  unfold Byb_227_180
  intro z zr
  have ga := f4.2.1.1.1.2
  unfold Bb_227_120 at ga
  obtain ⟨z1, a1, pm, ps, k0, k5, kd, h16⟩ := ga z zr
  have vz : vwR H1 = vwR H0 := vwR_fr f4.1.2.1 (by decide +kernel)
  have gy := f4.2.1.1.2
  unfold Byb_227_120 at gy
  have y8 := gy z zr
  have kd1 : (vwR H1).1 (absR H1).1 = 20 + n0 := by
    rw [vz, a1]
    exact kd
  have f0_ := kdR_nf z1 kd1 (by omega)
  have pl := placeR_at z1 f0_
  rw [vz, a1] at pl
  have fx : hV H1 285 33 = hV H0 285 33 := f4.1.2.1.1 285 33 (by decide +kernel)
  have d9 := rdS (q := 285) f9 f2
  have d17 := rdS (q := 285) f17 f2
  have d20 := rdW (q := 296) f20 f11
  have d36 := rdS (q := 285) f36 f2
  have d39 := rdW (q := 289) f39 f30
  rw [show hV H2 285 11 = hV H1 285 11 from uPlace f26 285 11 (by rw [f22]; decide)] at d36
  rw [show hV H2 289 = hV H1 289 from uRowNe f26 289 (by rw [f22]; decide)] at d39
  have rg6 := f6
  have rg7 := f7
  have rg14 := f14
  have rg15 := f15
  have rg18 := f18
  have rg19 := f19
  have rg37 := f37
  have rg38 := f38
  have s10 : n5 = 16 * n4 := by
    have q := f10
    rw [f5] at q
    rw [q]
    exact w32_id (by omega) (by omega)
  have s21 : n9 = n5 + n8 := by
    have q := f21
    rw [q]
    exact w32_id (by omega) (by omega)
  have e33 := d9
  have e33b := d17
  rw [fx] at e33 e33b
  have em := d20
  rw [pm, e33b] at em
  exact ⟨by omega, CRo_tr (CRo_8 y8) (CRo_tr (CRo_up f26 rfl (by rw [f22]; decide)) (CRo_tr (CRo_up f41 rfl (by rw [f27]; decide)) (CRo_tr (CRo_up f47 rfl (by rw [f42]; decide)) (CRo_tr (CRo_up f53 rfl (by rw [f48]; decide)) (CRo_8 (CR8_fr f54.1.2.1 (by decide +kernel))))))), (congrFun (fRow f54.1.2.1 298 (by decide +kernel)) _).trans ((congrFun (uRowNe f53 298 (by rw [f48]; decide)) _).trans ((congrFun (uRowNe f47 298 (by rw [f42]; decide)) _).trans ((congrFun (uRowNe f41 298 (by rw [f27]; decide)) _).trans ((congrFun (uRowQ f26 298 f22) _).trans (by rw [uF_at, if_pos (Int.toNat_of_nonneg (by omega))]))))), ((congrFun (fRow f54.1.2.1 299 (by decide +kernel)) _).trans ((congrFun (uRowNe f53 299 (by rw [f48]; decide)) _).trans ((congrFun (uRowNe f47 299 (by rw [f42]; decide)) _).trans ((congrFun (uRowQ f41 299 f27) _).trans (by rw [uF_at, if_pos (Int.toNat_of_nonneg (by omega))]))))).trans (by rw [d39, d36]; exact pl.symm), ((congrFun (fRow f54.1.2.1 301 (by decide +kernel)) _).trans ((congrFun (uRowNe f53 301 (by rw [f48]; decide)) _).trans ((congrFun (uRowQ f47 301 f42) _).trans (by rw [uF_at, if_pos (Int.toNat_of_nonneg (by omega))])))).trans f45, ((congrFun (fRow f54.1.2.1 303 (by decide +kernel)) _).trans ((congrFun (uRowQ f53 303 f48) _).trans (by rw [uF_at, if_pos (Int.toNat_of_nonneg (by omega))]))).trans f51⟩
def g_227y_120_0 : vG := ([(0, [19], [], 1), (1219, [1], [5, 6], 0), (80, [17, 9, 18], [5, 4], 0), (23, [17], [4], 252), (0, [18], [], -1), (20, [17, 1], [4], 29), (23, [1], [4], 12), (0, [17], [], 303), (80, [15, 9, 16], [4, 3], 0), (23, [15], [3], 236), (0, [16], [], -1), (20, [15, 1], [3], 27), (23, [1], [3], 12), (0, [15], [], 301), (80, [11, 9, 14], [3, 2], 0), (23, [11], [2], 220), (22, [14, 12, 13], [2], 0), (90, [14], [], 0), (91, [14], [], 2000), (20, [13, 1], [2], 11), (23, [1], [2], 12), (90, [13], [], 0), (91, [13], [], 500), (20, [12, 1], [2], 6), (23, [1], [2], 12), (0, [12], [], 289), (20, [11, 1], [2], 25), (23, [1], [2], 12), (0, [11], [], 299), (80, [10, 9, 2], [2, 1], 0), (23, [10], [1], 212), (20, [10, 1], [1], 24), (23, [1], [1], 12), (0, [10], [], 298), (1, [9, 5, 8], [], 0), (22, [8, 6, 7], [1], 0), (90, [8], [], 0), (91, [8], [], 16), (20, [7, 1], [1], 33), (23, [1], [1], 12), (90, [7], [], 0), (91, [7], [], 62), (20, [6, 1], [1], 22), (23, [1], [1], 12), (0, [6], [], 296), (3, [5, 3, 4], [], 0), (20, [4, 1], [1], 33), (23, [1], [1], 12), (90, [4], [], 0), (91, [4], [], 62), (0, [3], [], 16), (5000, [0, 1, 2], [0, 1], 120), (0, [0], [], 285), (0, [1], [], 285), (90, [2], [], 0), (91, [2], [], 5)], (4000, [1, 2, 9, 19], [6], 180))
theorem c_227y_120_0 {q0 : Nat} : vOkm T0 (eN e_227w L_227y (eAB A_227 B_227) mu_227 y_227 By_227 (some q0)) 1 g_227y_120_0 := vOk_inI fun ρ η f0 f1 f2 f3 f4 f5 f6 f7 f8 f9 f10 f11 f12 f13 f14 f15 f16 f17 f18 f19 f20 f21 f22 f23 f24 f25 f26 f27 f28 f29 f30 f31 f32 f33 f34 f35 f36 f37 f38 f39 f40 f41 f42 f43 f44 f45 f46 f47 f48 f49 f50 f51 f52 f53 f54 f55 => q_227y_13 (q0 := q0) (n0 := ρ 2) (n1 := ρ 1) (n2 := ρ 0) (n3 := ρ 3) (n4 := ρ 4) (n5 := ρ 5) (n6 := ρ 6) (n7 := ρ 7) (n8 := ρ 8) (n9 := ρ 9) (n10 := ρ 10) (n11 := ρ 11) (n12 := ρ 12) (n13 := ρ 13) (n14 := ρ 14) (n15 := ρ 15) (n16 := ρ 16) (n17 := ρ 17) (n18 := ρ 18) (n19 := ρ 19) (H0 := η 0) (H1 := η 1) (H2 := η 2) (H3 := η 3) (H4 := η 4) (H5 := η 5) (H6 := η 6) f55 f54 f53 f52 f51 f50 f49 f48 f47 f46 f45 f44 f43 f42 f41 f40 f39 f38 f37 f36 f35 f34 f33 f32 f31 f30 f29 f28 f27 f26 f25 f24 f23 f22 f21 f20 f19 f18 f17 f16 f15 f14 f13 f12 f11 f10 f9 f8 f7 f6 f5 f4 f3 f2 f1 f0
def p_227y_120 : List vG := [g_227y_120_0]
theorem r_227y_120 : vCovBO (eRc e_227w L_227w cs_227 2000 (120, [(0, (3, 12, 285, 0)), (1, (0, 0, 5, 0))])) p_227y_120 = true := by decide +kernel
theorem q_227y_14 {q0 : Nat} {n0 n1 n2 n3 n4 n5 n6 n7 n8 n9 n10 n11 n12 n13 n14 n15 n16 : Int} {H0 H1 H2 H3 H4 H5 : gH} (f0 : n0 ≤ 1) (f1 : 1 ≤ n0) (f2 : n1 ≤ 1007) (f3 : 0 ≤ n1) (f4 : n2 ≤ 5) (f5 : 0 ≤ n2) (f6 : n3 = 285) (f7 : n4 = 285) (f8 : (hLe T0 H0 H1 ∧ hFr s_227.2.2.2.2 H0 H1 ∧ hWt T0 H1) ∧ (((Ab_227_180 n4 n3 n2 n1 n0 H0 H1 ∧ Bb_227_180 n4 n3 n2 n1 n0 H0 H1) ∧ Byb_227_180 n4 n3 n2 n1 n0 H0 H1) ∧ preb_227 n4 H0) ∧ some q0 = some (mub_227_180 n4 n3 n2 n1 n0 H0 H1)) (f9 : n2 < 0) (f10 : n5 ≤ 500) (f11 : 0 ≤ n5) (f12 : hK H1 (n3).toNat = 12) (f13 : n5 = hV H1 (n3).toNat 11) (f14 : n6 = 1) (f15 : (hLe T0 H1 H2 ∧ hFr s_220.2.2.2.2 H1 H2 ∧ ((0 : Int) = 0 → H2.length = H1.length) ∧ hWt T0 H2) ∧ (postb_220 n3 n6 H1 H2 ∧ nb_220 n3 n6 H1 H2)) (f16 : n7 = 25) (f17 : (hLe T0 H2 H3 ∧ hFr s_220.2.2.2.2 H2 H3 ∧ ((0 : Int) = 0 → H3.length = H2.length) ∧ hWt T0 H3) ∧ (postb_220 n3 n7 H2 H3 ∧ nb_220 n3 n7 H2 H3)) (f18 : n8 = 0) (f19 : (hLe T0 H3 H4 ∧ hFr s_229.2.2.2.2 H3 H4 ∧ ((0 : Int) = 0 → H4.length = H3.length) ∧ hWt T0 H4) ∧ ((postb_229 n3 n1 n8 H3 H4 ∧ nb_229 n3 n1 n8 H3 H4) ∧ yb_229 n3 n1 n8 H3 H4)) (f20 : n9 ≤ 2) (f21 : 0 ≤ n9) (f22 : hK H4 (n3).toNat = 12) (f23 : n9 = hV H4 (n3).toNat 13) (f24 : n9 ≤ 0) (f25 : n10 = 300) (f26 : hK H4 (n3).toNat = 12) (f27 : n10 = hV H4 (n3).toNat 26) (f28 : n11 = (-1)) (f29 : hK H4 (n10).toNat = 228) (f30 : hUpd H5 H4 n10 n1 n11) (f31 : n12 = 294) (f32 : hK H5 (n3).toNat = 12) (f33 : n12 = hV H5 (n3).toNat 20) (f34 : n13 ≤ 7) (f35 : 0 ≤ n13) (f36 : hK H5 (n3).toNat = 12) (f37 : n13 = hV H5 (n3).toNat 32) (f38 : n14 ≤ 6) (f39 : 0 ≤ n14) (f40 : n14 = hV H5 (n12).toNat (n13).toNat) (f41 : n15 = 1) (f42 : n16 = w32 (n14 - n15)) : Byb_227_471 n4 n3 n2 n1 n0 n5 n16 H0 H5 := by
  exfalso
  clear f0 f1 f2 f3 f4 f6 f7 f8 f10 f11 f12 f13 f14 f15 f16 f17 f18 f19 f20 f21 f22 f23 f24 f25 f26 f27 f28 f29 f30 f31 f32 f33 f34 f35 f36 f37 f38 f39 f40 f41 f42
  omega
def g_227y_180_0 : vG := ([(2, [16, 14, 15], [], 0), (0, [15], [], 1), (22, [14, 12, 13], [5], 0), (90, [14], [], 0), (91, [14], [], 6), (20, [13, 1], [5], 32), (23, [1], [5], 12), (90, [13], [], 0), (91, [13], [], 7), (20, [12, 1], [5], 20), (23, [1], [5], 12), (0, [12], [], 294), (80, [10, 3, 11], [5, 4], 0), (23, [10], [4], 228), (0, [11], [], -1), (20, [10, 1], [4], 26), (23, [1], [4], 12), (0, [10], [], 300), (35, [9], [], 0), (20, [9, 1], [4], 13), (23, [1], [4], 12), (90, [9], [], 0), (91, [9], [], 2), (1229, [1, 3, 8], [3, 4], 0), (0, [8], [], 0), (1220, [1, 7], [2, 3], 0), (0, [7], [], 25), (1220, [1, 6], [1, 2], 0), (0, [6], [], 1), (20, [5, 1], [1], 11), (23, [1], [1], 12), (90, [5], [], 0), (91, [5], [], 500), (66, [2], [], 0), (5000, [0, 1, 2, 3, 4], [0, 1], 180), (0, [0], [], 285), (0, [1], [], 285), (90, [2], [], 0), (91, [2], [], 5), (90, [3], [], 0), (91, [3], [], 1007), (90, [4], [], 1), (91, [4], [], 1)], (4000, [1, 2, 3, 4, 5, 16], [5], 471))
theorem c_227y_180_0 {q0 : Nat} : vOkm T0 (eN e_227w L_227y (eAB A_227 B_227) mu_227 y_227 By_227 (some q0)) 1 g_227y_180_0 := vOk_inI fun ρ η f0 f1 f2 f3 f4 f5 f6 f7 f8 f9 f10 f11 f12 f13 f14 f15 f16 f17 f18 f19 f20 f21 f22 f23 f24 f25 f26 f27 f28 f29 f30 f31 f32 f33 f34 f35 f36 f37 f38 f39 f40 f41 f42 => q_227y_14 (q0 := q0) (n0 := ρ 4) (n1 := ρ 3) (n2 := ρ 2) (n3 := ρ 1) (n4 := ρ 0) (n5 := ρ 5) (n6 := ρ 6) (n7 := ρ 7) (n8 := ρ 8) (n9 := ρ 9) (n10 := ρ 10) (n11 := ρ 11) (n12 := ρ 12) (n13 := ρ 13) (n14 := ρ 14) (n15 := ρ 15) (n16 := ρ 16) (H0 := η 0) (H1 := η 1) (H2 := η 2) (H3 := η 3) (H4 := η 4) (H5 := η 5) f42 f41 f40 f39 f38 f37 f36 f35 f34 f33 f32 f31 f30 f29 f28 f27 f26 f25 f24 f23 f22 f21 f20 f19 f18 f17 f16 f15 f14 f13 f12 f11 f10 f9 f8 f7 f6 f5 f4 f3 f2 f1 f0
theorem q_227y_15 {q0 : Nat} {n0 n1 n2 n3 n4 n5 n6 n7 n8 n9 : Int} {H0 H1 H2 H3 H4 : gH} (f0 : n0 ≤ 1) (f1 : 1 ≤ n0) (f2 : n1 ≤ 1007) (f3 : 0 ≤ n1) (f4 : n2 ≤ 5) (f5 : 0 ≤ n2) (f6 : n3 = 285) (f7 : n4 = 285) (f8 : (hLe T0 H0 H1 ∧ hFr s_227.2.2.2.2 H0 H1 ∧ hWt T0 H1) ∧ (((Ab_227_180 n4 n3 n2 n1 n0 H0 H1 ∧ Bb_227_180 n4 n3 n2 n1 n0 H0 H1) ∧ Byb_227_180 n4 n3 n2 n1 n0 H0 H1) ∧ preb_227 n4 H0) ∧ some q0 = some (mub_227_180 n4 n3 n2 n1 n0 H0 H1)) (f9 : n2 < 0) (f10 : n5 ≤ 500) (f11 : 0 ≤ n5) (f12 : hK H1 (n3).toNat = 12) (f13 : n5 = hV H1 (n3).toNat 11) (f14 : n6 = 1) (f15 : (hLe T0 H1 H2 ∧ hFr s_220.2.2.2.2 H1 H2 ∧ ((0 : Int) = 0 → H2.length = H1.length) ∧ hWt T0 H2) ∧ (postb_220 n3 n6 H1 H2 ∧ nb_220 n3 n6 H1 H2)) (f16 : n7 = 25) (f17 : (hLe T0 H2 H3 ∧ hFr s_220.2.2.2.2 H2 H3 ∧ ((0 : Int) = 0 → H3.length = H2.length) ∧ hWt T0 H3) ∧ (postb_220 n3 n7 H2 H3 ∧ nb_220 n3 n7 H2 H3)) (f18 : n8 = 0) (f19 : (hLe T0 H3 H4 ∧ hFr s_229.2.2.2.2 H3 H4 ∧ ((0 : Int) = 0 → H4.length = H3.length) ∧ hWt T0 H4) ∧ ((postb_229 n3 n1 n8 H3 H4 ∧ nb_229 n3 n1 n8 H3 H4) ∧ yb_229 n3 n1 n8 H3 H4)) (f20 : n9 ≤ 2) (f21 : 0 ≤ n9) (f22 : hK H4 (n3).toNat = 12) (f23 : n9 = hV H4 (n3).toNat 13) (f24 : 0 < n9) : yb_227 n4 H0 H4 := by
  exfalso
  clear f0 f1 f2 f3 f4 f6 f7 f8 f10 f11 f12 f13 f14 f15 f16 f17 f18 f19 f20 f21 f22 f23 f24
  omega
def g_227y_180_1 : vG := ([(34, [9], [], 0), (20, [9, 1], [4], 13), (23, [1], [4], 12), (90, [9], [], 0), (91, [9], [], 2), (1229, [1, 3, 8], [3, 4], 0), (0, [8], [], 0), (1220, [1, 7], [2, 3], 0), (0, [7], [], 25), (1220, [1, 6], [1, 2], 0), (0, [6], [], 1), (20, [5, 1], [1], 11), (23, [1], [1], 12), (90, [5], [], 0), (91, [5], [], 500), (66, [2], [], 0), (5000, [0, 1, 2, 3, 4], [0, 1], 180), (0, [0], [], 285), (0, [1], [], 285), (90, [2], [], 0), (91, [2], [], 5), (90, [3], [], 0), (91, [3], [], 1007), (90, [4], [], 1), (91, [4], [], 1)], (3000, [], [4], 450))
theorem c_227y_180_1 {q0 : Nat} : vOkm T0 (eN e_227w L_227y (eAB A_227 B_227) mu_227 y_227 By_227 (some q0)) 1 g_227y_180_1 := vOk_inI fun ρ η f0 f1 f2 f3 f4 f5 f6 f7 f8 f9 f10 f11 f12 f13 f14 f15 f16 f17 f18 f19 f20 f21 f22 f23 f24 => q_227y_15 (q0 := q0) (n0 := ρ 4) (n1 := ρ 3) (n2 := ρ 2) (n3 := ρ 1) (n4 := ρ 0) (n5 := ρ 5) (n6 := ρ 6) (n7 := ρ 7) (n8 := ρ 8) (n9 := ρ 9) (H0 := η 0) (H1 := η 1) (H2 := η 2) (H3 := η 3) (H4 := η 4) f24 f23 f22 f21 f20 f19 f18 f17 f16 f15 f14 f13 f12 f11 f10 f9 f8 f7 f6 f5 f4 f3 f2 f1 f0
theorem q_227y_16 {q0 : Nat} {n0 n1 n2 n3 n4 n5 n6 n7 n8 n9 n10 n11 n12 n13 n14 n15 n16 : Int} {H0 H1 H2 H3 H4 H5 : gH} (f0 : n0 ≤ 1) (f1 : 1 ≤ n0) (f2 : n1 ≤ 1007) (f3 : 0 ≤ n1) (f4 : n2 ≤ 5) (f5 : 0 ≤ n2) (f6 : n3 = 285) (f7 : n4 = 285) (f8 : (hLe T0 H0 H1 ∧ hFr s_227.2.2.2.2 H0 H1 ∧ hWt T0 H1) ∧ (((Ab_227_180 n4 n3 n2 n1 n0 H0 H1 ∧ Bb_227_180 n4 n3 n2 n1 n0 H0 H1) ∧ Byb_227_180 n4 n3 n2 n1 n0 H0 H1) ∧ preb_227 n4 H0) ∧ some q0 = some (mub_227_180 n4 n3 n2 n1 n0 H0 H1)) (f9 : 4 < n2) (f10 : n5 ≤ 500) (f11 : 0 ≤ n5) (f12 : hK H1 (n3).toNat = 12) (f13 : n5 = hV H1 (n3).toNat 11) (f14 : n6 = 1) (f15 : (hLe T0 H1 H2 ∧ hFr s_220.2.2.2.2 H1 H2 ∧ ((0 : Int) = 0 → H2.length = H1.length) ∧ hWt T0 H2) ∧ (postb_220 n3 n6 H1 H2 ∧ nb_220 n3 n6 H1 H2)) (f16 : n7 = 25) (f17 : (hLe T0 H2 H3 ∧ hFr s_220.2.2.2.2 H2 H3 ∧ ((0 : Int) = 0 → H3.length = H2.length) ∧ hWt T0 H3) ∧ (postb_220 n3 n7 H2 H3 ∧ nb_220 n3 n7 H2 H3)) (f18 : n8 = 0) (f19 : (hLe T0 H3 H4 ∧ hFr s_229.2.2.2.2 H3 H4 ∧ ((0 : Int) = 0 → H4.length = H3.length) ∧ hWt T0 H4) ∧ ((postb_229 n3 n1 n8 H3 H4 ∧ nb_229 n3 n1 n8 H3 H4) ∧ yb_229 n3 n1 n8 H3 H4)) (f20 : n9 ≤ 2) (f21 : 0 ≤ n9) (f22 : hK H4 (n3).toNat = 12) (f23 : n9 = hV H4 (n3).toNat 13) (f24 : n9 ≤ 0) (f25 : n10 = 300) (f26 : hK H4 (n3).toNat = 12) (f27 : n10 = hV H4 (n3).toNat 26) (f28 : n11 = (-1)) (f29 : hK H4 (n10).toNat = 228) (f30 : hUpd H5 H4 n10 n1 n11) (f31 : n12 = 294) (f32 : hK H5 (n3).toNat = 12) (f33 : n12 = hV H5 (n3).toNat 20) (f34 : n13 ≤ 7) (f35 : 0 ≤ n13) (f36 : hK H5 (n3).toNat = 12) (f37 : n13 = hV H5 (n3).toNat 32) (f38 : n14 ≤ 6) (f39 : 0 ≤ n14) (f40 : n14 = hV H5 (n12).toNat (n13).toNat) (f41 : n15 = 1) (f42 : n16 = w32 (n14 - n15)) : Byb_227_471 n4 n3 n2 n1 n0 n5 n16 H0 H5 := by
  unfold Byb_227_471
  intro z zr
  have ga := f8.2.1.1.1.2
  unfold Bb_227_180 at ga
  obtain ⟨z1, a1, pm, ps, k0, k5, kd, h16⟩ := ga z zr
  have vz : vwR H1 = vwR H0 := vwR_fr f8.1.2.1 (by decide +kernel)
  have gy := f8.2.1.1.2
  unfold Byb_227_180 at gy
  obtain ⟨y2, yc, y298, y299, y301, y303⟩ := gy z zr
  have q9 := f9
  have q24 := f24
  have rg0 := f0
  have rg1 := f1
  have rg2 := f2
  have rg3 := f3
  have rg4 := f4
  have rg5 := f5
  have ke : 20 + n2 = 25 := by omega
  rw [ke] at a1 kd
  have y298 : hV H1 298 (n1).toNat = 5 := by omega
  have c0 := f15.2.2 z1 (by rw [f14]; decide)
  try rw [f14] at c0
  rw [vz, a1, kmc_1] at c0
  have v0 : vwR H2 = vwR H0 := (vwR_fr f15.1.2.1 (by decide +kernel)).trans vz
  have c1 := f17.2.2 c0.1 (by rw [f16]; decide)
  try rw [f16] at c1
  rw [v0, c0.2, kmc_25] at c1
  have v1 : vwR H3 = vwR H0 := (vwR_fr f17.1.2.1 (by decide +kernel)).trans v0
  have c2 := f19.2.1.2 c1.1
  try rw [f18] at c2
  rw [v1, c1.2] at c2
  have v2 : vwR H4 = vwR H0 := (vwR_fr f19.1.2.1 (by decide +kernel)).trans v1
  have p3 := PR_row (q := 300) f30 f25 (by decide) c2.1
  have v3 : vwR H5 = vwR H0 := p3.2.1.trans v2
  have ah3 : absR H5 = (pTime (vwR H0) (ptk (vwR H0) 26 (ptk (vwR H0) 2 (ptk (vwR H0) 25 (absR H0))))) := p3.1.trans c2.2
  have tt19 := f19.2.2
  unfold yb_229 at tt19
  have tt19 := tt19 c1.1
  have tq19 := tt19.2.2.2.2.1 f18
  obtain ⟨x19_, y19_, ta19, tb19, td19⟩ := tq19.2.2
  have tc19 : CRo H3 H4 n1 := by
    refine ⟨fun q h1 h2 j n => ?_, fun j _ => congrFun tt19.2.2.2.1 j⟩
    have hq : q = 298 ∨ q = 299 ∨ q = 300 ∨ q = 301 ∨ q = 302 ∨ q = 303 ∨ q = 304 := by omega
    rcases hq with rfl | rfl | rfl | rfl | rfl | rfl | rfl
    · exact congrFun tt19.1 j
    · exact congrFun tt19.2.1 j
    · exact congrFun tt19.2.2.1 j
    · rw [ta19, uF_at, if_neg n]
    · rw [tb19, uF_at, if_neg n]
    · exact congrFun tq19.1 j
    · exact congrFun tq19.2.1 j
  have cu : CRo H1 H5 n1 := (CRo_tr (CRo_8 (CR8_fr f15.1.2.1 (by decide +kernel))) (CRo_tr (CRo_8 (CR8_fr f17.1.2.1 (by decide +kernel))) (CRo_tr tc19 (CRo_up f30 rfl (by rw [f25]; decide)))))
  have d13 := rdS (q := 285) f13 f6
  have d23 := rdS (q := 285) f23 f6
  have d37 := rdS (q := 285) f37 f6
  have d40 := rdW (q := 294) f40 f31
  have rg38 := f38
  have rg39 := f39
  have s42 : n16 = n14 - 1 := by
    have q := f42
    rw [f41] at q
    rw [q]
    exact w32_id (by omega) (by omega)
  have f32_ : hV H1 285 32 = hV H0 285 32 := f8.1.2.1.1 285 32 (by decide +kernel)
  have bl3 : hV H5 294 = hV H1 294 := (uRowNe f30 294 (by rw [f25]; decide)).trans ((fRow f19.1.2.1 294 (by decide +kernel)).trans ((fRow f17.1.2.1 294 (by decide +kernel)).trans (fRow f15.1.2.1 294 (by decide +kernel))))
  have bl0 : hV H1 294 = hV H0 294 := fRow f8.1.2.1 294 (by decide +kernel)
  have p32 : hV H5 285 32 = hV H1 285 32 := (uPlace f30 285 32 (by rw [f25]; decide)).trans ((f19.1.2.1.1 285 32 (by decide +kernel)).trans ((f17.1.2.1.1 285 32 (by decide +kernel)).trans (f15.1.2.1.1 285 32 (by decide +kernel))))
  rw [bl3, bl0, d37, p32, f32_] at d40
  have hf : hV H4 285 13 = 0 := by have := c2.1.2.2.2.1; omega
  have hzH3 := fzR c1.1 c2.1 c1.2 c2.2 (fun n k => pTime_neg (vwR_ok H0) n k) hf
  have hzH2 := fzR c0.1 c1.1 c0.2 c1.2 (fun n k => ptk_neg n k) hzH3.1
  have hzH1 := fzR z1 c0.1 a1 c0.2 (fun n k => ptk_neg n k) hzH2.1
  have td19 := td19 hf
  rw [v1, c1.2] at td19
  exact ⟨y2, CRo_tr yc cu, ((congrFun (uRowNe f30 298 (by rw [f25]; decide)) _).trans ((congrFun tt19.1 _).trans ((congrFun (fRow f17.1.2.1 298 (by decide +kernel)) _).trans (congrFun (fRow f15.1.2.1 298 (by decide +kernel)) _)))).trans y298, ((congrFun (uRowNe f30 299 (by rw [f25]; decide)) _).trans ((congrFun tt19.2.1 _).trans ((congrFun (fRow f17.1.2.1 299 (by decide +kernel)) _).trans (congrFun (fRow f15.1.2.1 299 (by decide +kernel)) _)))).trans y299, ((congrFun (uRowNe f30 301 (by rw [f25]; decide)) _).trans ((congrFun ta19 _).trans (by rw [uF_at, if_pos (Int.toNat_of_nonneg (by omega))]))).trans td19.1, ((congrFun (uRowNe f30 302 (by rw [f25]; decide)) _).trans ((congrFun tb19 _).trans (by rw [uF_at, if_pos (Int.toNat_of_nonneg (by omega))]))).trans td19.2, ((congrFun (uRowNe f30 303 (by rw [f25]; decide)) _).trans ((congrFun tq19.1 _).trans ((congrFun (fRow f17.1.2.1 303 (by decide +kernel)) _).trans (congrFun (fRow f15.1.2.1 303 (by decide +kernel)) _)))).trans y303, by rw [show hV H5 300 (n1).toNat = -1 from ((congrFun (uRowQ f30 300 f25) _).trans (by rw [uF_at, if_pos (Int.toNat_of_nonneg (by omega))])).trans f28]; exact SPi_0 (by omega)⟩
def g_227y_180_2 : vG := ([(2, [16, 14, 15], [], 0), (0, [15], [], 1), (22, [14, 12, 13], [5], 0), (90, [14], [], 0), (91, [14], [], 6), (20, [13, 1], [5], 32), (23, [1], [5], 12), (90, [13], [], 0), (91, [13], [], 7), (20, [12, 1], [5], 20), (23, [1], [5], 12), (0, [12], [], 294), (80, [10, 3, 11], [5, 4], 0), (23, [10], [4], 228), (0, [11], [], -1), (20, [10, 1], [4], 26), (23, [1], [4], 12), (0, [10], [], 300), (35, [9], [], 0), (20, [9, 1], [4], 13), (23, [1], [4], 12), (90, [9], [], 0), (91, [9], [], 2), (1229, [1, 3, 8], [3, 4], 0), (0, [8], [], 0), (1220, [1, 7], [2, 3], 0), (0, [7], [], 25), (1220, [1, 6], [1, 2], 0), (0, [6], [], 1), (20, [5, 1], [1], 11), (23, [1], [1], 12), (90, [5], [], 0), (91, [5], [], 500), (67, [2], [], 4), (5000, [0, 1, 2, 3, 4], [0, 1], 180), (0, [0], [], 285), (0, [1], [], 285), (90, [2], [], 0), (91, [2], [], 5), (90, [3], [], 0), (91, [3], [], 1007), (90, [4], [], 1), (91, [4], [], 1)], (4000, [1, 2, 3, 4, 5, 16], [5], 471))
theorem c_227y_180_2 {q0 : Nat} : vOkm T0 (eN e_227w L_227y (eAB A_227 B_227) mu_227 y_227 By_227 (some q0)) 1 g_227y_180_2 := vOk_inI fun ρ η f0 f1 f2 f3 f4 f5 f6 f7 f8 f9 f10 f11 f12 f13 f14 f15 f16 f17 f18 f19 f20 f21 f22 f23 f24 f25 f26 f27 f28 f29 f30 f31 f32 f33 f34 f35 f36 f37 f38 f39 f40 f41 f42 => q_227y_16 (q0 := q0) (n0 := ρ 4) (n1 := ρ 3) (n2 := ρ 2) (n3 := ρ 1) (n4 := ρ 0) (n5 := ρ 5) (n6 := ρ 6) (n7 := ρ 7) (n8 := ρ 8) (n9 := ρ 9) (n10 := ρ 10) (n11 := ρ 11) (n12 := ρ 12) (n13 := ρ 13) (n14 := ρ 14) (n15 := ρ 15) (n16 := ρ 16) (H0 := η 0) (H1 := η 1) (H2 := η 2) (H3 := η 3) (H4 := η 4) (H5 := η 5) f42 f41 f40 f39 f38 f37 f36 f35 f34 f33 f32 f31 f30 f29 f28 f27 f26 f25 f24 f23 f22 f21 f20 f19 f18 f17 f16 f15 f14 f13 f12 f11 f10 f9 f8 f7 f6 f5 f4 f3 f2 f1 f0
theorem q_227y_17 {q0 : Nat} {n0 n1 n2 n3 n4 n5 n6 n7 n8 n9 : Int} {H0 H1 H2 H3 H4 : gH} (f0 : n0 ≤ 1) (f1 : 1 ≤ n0) (f2 : n1 ≤ 1007) (f3 : 0 ≤ n1) (f4 : n2 ≤ 5) (f5 : 0 ≤ n2) (f6 : n3 = 285) (f7 : n4 = 285) (f8 : (hLe T0 H0 H1 ∧ hFr s_227.2.2.2.2 H0 H1 ∧ hWt T0 H1) ∧ (((Ab_227_180 n4 n3 n2 n1 n0 H0 H1 ∧ Bb_227_180 n4 n3 n2 n1 n0 H0 H1) ∧ Byb_227_180 n4 n3 n2 n1 n0 H0 H1) ∧ preb_227 n4 H0) ∧ some q0 = some (mub_227_180 n4 n3 n2 n1 n0 H0 H1)) (f9 : 4 < n2) (f10 : n5 ≤ 500) (f11 : 0 ≤ n5) (f12 : hK H1 (n3).toNat = 12) (f13 : n5 = hV H1 (n3).toNat 11) (f14 : n6 = 1) (f15 : (hLe T0 H1 H2 ∧ hFr s_220.2.2.2.2 H1 H2 ∧ ((0 : Int) = 0 → H2.length = H1.length) ∧ hWt T0 H2) ∧ (postb_220 n3 n6 H1 H2 ∧ nb_220 n3 n6 H1 H2)) (f16 : n7 = 25) (f17 : (hLe T0 H2 H3 ∧ hFr s_220.2.2.2.2 H2 H3 ∧ ((0 : Int) = 0 → H3.length = H2.length) ∧ hWt T0 H3) ∧ (postb_220 n3 n7 H2 H3 ∧ nb_220 n3 n7 H2 H3)) (f18 : n8 = 0) (f19 : (hLe T0 H3 H4 ∧ hFr s_229.2.2.2.2 H3 H4 ∧ ((0 : Int) = 0 → H4.length = H3.length) ∧ hWt T0 H4) ∧ ((postb_229 n3 n1 n8 H3 H4 ∧ nb_229 n3 n1 n8 H3 H4) ∧ yb_229 n3 n1 n8 H3 H4)) (f20 : n9 ≤ 2) (f21 : 0 ≤ n9) (f22 : hK H4 (n3).toNat = 12) (f23 : n9 = hV H4 (n3).toNat 13) (f24 : 0 < n9) : yb_227 n4 H0 H4 := by
  unfold yb_227
  intro z zr
  have ga := f8.2.1.1.1.2
  unfold Bb_227_180 at ga
  obtain ⟨z1, a1, pm, ps, k0, k5, kd, h16⟩ := ga z zr
  have vz : vwR H1 = vwR H0 := vwR_fr f8.1.2.1 (by decide +kernel)
  have gy := f8.2.1.1.2
  unfold Byb_227_180 at gy
  obtain ⟨y2, yc, y298, y299, y301, y303⟩ := gy z zr
  have q9 := f9
  have q24 := f24
  have rg0 := f0
  have rg1 := f1
  have rg2 := f2
  have rg3 := f3
  have rg4 := f4
  have rg5 := f5
  have ke : 20 + n2 = 25 := by omega
  rw [ke] at a1 kd
  have y298 : hV H1 298 (n1).toNat = 5 := by omega
  have c0 := f15.2.2 z1 (by rw [f14]; decide)
  try rw [f14] at c0
  rw [vz, a1, kmc_1] at c0
  have v0 : vwR H2 = vwR H0 := (vwR_fr f15.1.2.1 (by decide +kernel)).trans vz
  have c1 := f17.2.2 c0.1 (by rw [f16]; decide)
  try rw [f16] at c1
  rw [v0, c0.2, kmc_25] at c1
  have v1 : vwR H3 = vwR H0 := (vwR_fr f17.1.2.1 (by decide +kernel)).trans v0
  have c2 := f19.2.1.2 c1.1
  try rw [f18] at c2
  rw [v1, c1.2] at c2
  have v2 : vwR H4 = vwR H0 := (vwR_fr f19.1.2.1 (by decide +kernel)).trans v1
  have tt19 := f19.2.2
  unfold yb_229 at tt19
  have tt19 := tt19 c1.1
  have tq19 := tt19.2.2.2.2.1 f18
  obtain ⟨x19_, y19_, ta19, tb19, td19⟩ := tq19.2.2
  have tc19 : CRo H3 H4 n1 := by
    refine ⟨fun q h1 h2 j n => ?_, fun j _ => congrFun tt19.2.2.2.1 j⟩
    have hq : q = 298 ∨ q = 299 ∨ q = 300 ∨ q = 301 ∨ q = 302 ∨ q = 303 ∨ q = 304 := by omega
    rcases hq with rfl | rfl | rfl | rfl | rfl | rfl | rfl
    · exact congrFun tt19.1 j
    · exact congrFun tt19.2.1 j
    · exact congrFun tt19.2.2.1 j
    · rw [ta19, uF_at, if_neg n]
    · rw [tb19, uF_at, if_neg n]
    · exact congrFun tq19.1 j
    · exact congrFun tq19.2.1 j
  have cu : CRo H1 H4 n1 := (CRo_tr (CRo_8 (CR8_fr f15.1.2.1 (by decide +kernel))) (CRo_tr (CRo_8 (CR8_fr f17.1.2.1 (by decide +kernel))) tc19))
  have d13 := rdS (q := 285) f13 f6
  have d23 := rdS (q := 285) f23 f6
  rw [← y2]
  exact ⟨CRo_tr yc cu, fun hf => by exfalso; omega⟩
def g_227y_180_3 : vG := ([(34, [9], [], 0), (20, [9, 1], [4], 13), (23, [1], [4], 12), (90, [9], [], 0), (91, [9], [], 2), (1229, [1, 3, 8], [3, 4], 0), (0, [8], [], 0), (1220, [1, 7], [2, 3], 0), (0, [7], [], 25), (1220, [1, 6], [1, 2], 0), (0, [6], [], 1), (20, [5, 1], [1], 11), (23, [1], [1], 12), (90, [5], [], 0), (91, [5], [], 500), (67, [2], [], 4), (5000, [0, 1, 2, 3, 4], [0, 1], 180), (0, [0], [], 285), (0, [1], [], 285), (90, [2], [], 0), (91, [2], [], 5), (90, [3], [], 0), (91, [3], [], 1007), (90, [4], [], 1), (91, [4], [], 1)], (3000, [], [4], 450))
theorem c_227y_180_3 {q0 : Nat} : vOkm T0 (eN e_227w L_227y (eAB A_227 B_227) mu_227 y_227 By_227 (some q0)) 1 g_227y_180_3 := vOk_inI fun ρ η f0 f1 f2 f3 f4 f5 f6 f7 f8 f9 f10 f11 f12 f13 f14 f15 f16 f17 f18 f19 f20 f21 f22 f23 f24 => q_227y_17 (q0 := q0) (n0 := ρ 4) (n1 := ρ 3) (n2 := ρ 2) (n3 := ρ 1) (n4 := ρ 0) (n5 := ρ 5) (n6 := ρ 6) (n7 := ρ 7) (n8 := ρ 8) (n9 := ρ 9) (H0 := η 0) (H1 := η 1) (H2 := η 2) (H3 := η 3) (H4 := η 4) f24 f23 f22 f21 f20 f19 f18 f17 f16 f15 f14 f13 f12 f11 f10 f9 f8 f7 f6 f5 f4 f3 f2 f1 f0
theorem q_227y_18 {q0 : Nat} {n0 n1 n2 n3 n4 : Int} {H0 H1 H2 : gH} (f0 : n0 ≤ 1) (f1 : 1 ≤ n0) (f2 : n1 ≤ 1007) (f3 : 0 ≤ n1) (f4 : n2 ≤ 5) (f5 : 0 ≤ n2) (f6 : n3 = 285) (f7 : n4 = 285) (f8 : (hLe T0 H0 H1 ∧ hFr s_227.2.2.2.2 H0 H1 ∧ hWt T0 H1) ∧ (((Ab_227_180 n4 n3 n2 n1 n0 H0 H1 ∧ Bb_227_180 n4 n3 n2 n1 n0 H0 H1) ∧ Byb_227_180 n4 n3 n2 n1 n0 H0 H1) ∧ preb_227 n4 H0) ∧ some q0 = some (mub_227_180 n4 n3 n2 n1 n0 H0 H1)) (f9 : n2 = 0) (f10 : (hLe T0 H1 H2 ∧ hFr s_228.2.2.2.2 H1 H2 ∧ ((0 : Int) = 0 → H2.length = H1.length) ∧ hWt T0 H2) ∧ ((postb_228 n3 n1 H1 H2 ∧ nb_228 n3 n1 H1 H2) ∧ yb_228 n3 n1 H1 H2)) : Byb_227_567 n4 n3 n2 n1 n0 H0 H2 := by
  unfold Byb_227_567
  intro z zr
  have ga := f8.2.1.1.1.2
  unfold Bb_227_180 at ga
  obtain ⟨z1, a1, pm, ps, k0, k5, kd, h16⟩ := ga z zr
  have vz : vwR H1 = vwR H0 := vwR_fr f8.1.2.1 (by decide +kernel)
  have gy := f8.2.1.1.2
  unfold Byb_227_180 at gy
  obtain ⟨y2, yc, y298, y299, y301, y303⟩ := gy z zr
  have xc := f9
  have rg0 := f0
  have rg1 := f1
  have rg2 := f2
  have rg3 := f3
  have rg4 := f4
  have rg5 := f5
  have ke : 20 + n2 = 20 := by omega
  rw [ke] at a1 kd
  have y298 : hV H1 298 (n1).toNat = 0 := by omega
  have c0 := f10.2.1.2 z1
  rw [vz, a1] at c0
  have v0 : vwR H2 = vwR H0 := (vwR_fr f10.1.2.1 (by decide +kernel)).trans vz
  have tl := f10.2.2
  unfold yb_228 at tl
  have tl := tl z1
  rw [vz, a1] at tl
  obtain ⟨l1, l2, l3, l4, l5, l6⟩ := tl
  refine ⟨y2, CRo_tr yc l1, fun hf => ?_⟩
  obtain ⟨m1, m2, m3, m4, m5, m6, m7, m8⟩ := l6 hf
  rw [show (6 * n1).toNat = 6 * (n1).toNat by omega] at m4
  rw [show (6 * n1 + 1).toNat = 6 * (n1).toNat + 1 by omega] at m5
  rw [show (6 * n1 + 2).toNat = 6 * (n1).toNat + 2 by omega] at m6
  rw [show (6 * n1 + 3).toNat = 6 * (n1).toNat + 3 by omega] at m7
  rw [show (6 * n1 + 4).toNat = 6 * (n1).toNat + 4 by omega] at m8
  rw [recR_lay (by rw [l2]; exact y298), cuT_20 kd, m1, m2, m3, m4, m5, m6, m7, m8, l3, y299, l4, y303]
def g_227y_180_4 : vG := ([(1228, [1, 3], [1, 2], 0), (0, [2], [], 0), (5000, [0, 1, 2, 3, 4], [0, 1], 180), (0, [0], [], 285), (0, [1], [], 285), (90, [2], [], 0), (91, [2], [], 5), (90, [3], [], 0), (91, [3], [], 1007), (90, [4], [], 1), (91, [4], [], 1)], (4000, [1, 2, 3, 4], [2], 567))
theorem c_227y_180_4 {q0 : Nat} : vOkm T0 (eN e_227w L_227y (eAB A_227 B_227) mu_227 y_227 By_227 (some q0)) 1 g_227y_180_4 := vOk_inI fun ρ η f0 f1 f2 f3 f4 f5 f6 f7 f8 f9 f10 => q_227y_18 (q0 := q0) (n0 := ρ 4) (n1 := ρ 3) (n2 := ρ 2) (n3 := ρ 1) (n4 := ρ 0) (H0 := η 0) (H1 := η 1) (H2 := η 2) f10 f9 f8 f7 f6 f5 f4 f3 f2 f1 f0
theorem q_227y_19 {q0 : Nat} {n0 n1 n2 n3 n4 n5 n6 n7 n8 n9 n10 n11 n12 n13 n14 n15 n16 n17 n18 n19 n20 n21 n22 n23 n24 n25 n26 n27 n28 : Int} {H0 H1 H2 H3 H4 H5 H6 H7 H8 H9 H10 H11 H12 H13 : gH} (f0 : n0 ≤ 1) (f1 : 1 ≤ n0) (f2 : n1 ≤ 1007) (f3 : 0 ≤ n1) (f4 : n2 ≤ 5) (f5 : 0 ≤ n2) (f6 : n3 = 285) (f7 : n4 = 285) (f8 : (hLe T0 H0 H1 ∧ hFr s_227.2.2.2.2 H0 H1 ∧ hWt T0 H1) ∧ (((Ab_227_180 n4 n3 n2 n1 n0 H0 H1 ∧ Bb_227_180 n4 n3 n2 n1 n0 H0 H1) ∧ Byb_227_180 n4 n3 n2 n1 n0 H0 H1) ∧ preb_227 n4 H0) ∧ some q0 = some (mub_227_180 n4 n3 n2 n1 n0 H0 H1)) (f9 : n2 = 1) (f10 : n5 = 300) (f11 : hK H1 (n3).toNat = 12) (f12 : n5 = hV H1 (n3).toNat 26) (f13 : n6 = 0) (f14 : n7 = 2) (f15 : n8 ≤ 9999) (f16 : 0 ≤ n8) (f17 : (hLe T0 H1 H2 ∧ hFr s_223.2.2.2.2 H1 H2 ∧ ((0 : Int) = 0 → H2.length = H1.length) ∧ hWt T0 H2) ∧ ((postb_223 n8 n3 n6 n7 H1 H2 ∧ nb_223 n8 n3 n6 n7 H1 H2) ∧ yb_223 n8 n3 n6 n7 H1 H2)) (f18 : hK H2 (n5).toNat = 228) (f19 : hUpd H3 H2 n5 n1 n8) (f20 : n9 = 26) (f21 : (hLe T0 H3 H4 ∧ hFr s_220.2.2.2.2 H3 H4 ∧ ((0 : Int) = 0 → H4.length = H3.length) ∧ hWt T0 H4) ∧ (postb_220 n3 n9 H3 H4 ∧ nb_220 n3 n9 H3 H4)) (f22 : n10 = 0) (f23 : (hLe T0 H4 H5 ∧ hFr s_229.2.2.2.2 H4 H5 ∧ ((0 : Int) = 0 → H5.length = H4.length) ∧ hWt T0 H5) ∧ ((postb_229 n3 n1 n10 H4 H5 ∧ nb_229 n3 n1 n10 H4 H5) ∧ yb_229 n3 n1 n10 H4 H5)) (f24 : n11 = 32) (f25 : (hLe T0 H5 H6 ∧ hFr s_220.2.2.2.2 H5 H6 ∧ ((0 : Int) = 0 → H6.length = H5.length) ∧ hWt T0 H6) ∧ (postb_220 n3 n11 H5 H6 ∧ nb_220 n3 n11 H5 H6)) (f26 : n12 = 1) (f27 : (hLe T0 H6 H7 ∧ hFr s_229.2.2.2.2 H6 H7 ∧ ((0 : Int) = 0 → H7.length = H6.length) ∧ hWt T0 H7) ∧ ((postb_229 n3 n1 n12 H6 H7 ∧ nb_229 n3 n1 n12 H6 H7) ∧ yb_229 n3 n1 n12 H6 H7)) (f28 : n13 = 28) (f29 : (hLe T0 H7 H8 ∧ hFr s_220.2.2.2.2 H7 H8 ∧ ((0 : Int) = 0 → H8.length = H7.length) ∧ hWt T0 H8) ∧ (postb_220 n3 n13 H7 H8 ∧ nb_220 n3 n13 H7 H8)) (f30 : n14 = 305) (f31 : hK H8 (n3).toNat = 12) (f32 : n14 = hV H8 (n3).toNat 31) (f33 : n15 = 6) (f34 : n16 = w32 (n15 * n1)) (f35 : n17 = 0) (f36 : n18 = 400) (f37 : n19 ≤ 9999) (f38 : 0 ≤ n19) (f39 : (hLe T0 H8 H9 ∧ hFr s_223.2.2.2.2 H8 H9 ∧ ((0 : Int) = 0 → H9.length = H8.length) ∧ hWt T0 H9) ∧ ((postb_223 n19 n3 n17 n18 H8 H9 ∧ nb_223 n19 n3 n17 n18 H8 H9) ∧ yb_223 n19 n3 n17 n18 H8 H9)) (f40 : hK H9 (n14).toNat = 268) (f41 : hUpd H10 H9 n14 n16 n19) (f42 : n20 = 5) (f43 : (hLe T0 H10 H11 ∧ hFr s_220.2.2.2.2 H10 H11 ∧ ((0 : Int) = 0 → H11.length = H10.length) ∧ hWt T0 H11) ∧ (postb_220 n3 n20 H10 H11 ∧ nb_220 n3 n20 H10 H11)) (f44 : n21 = 305) (f45 : hK H11 (n3).toNat = 12) (f46 : n21 = hV H11 (n3).toNat 31) (f47 : n22 = 6) (f48 : n23 = w32 (n22 * n1)) (f49 : n24 = 1) (f50 : n25 = w32 (n23 + n24)) (f51 : n26 = 0) (f52 : n27 = 400) (f53 : n28 ≤ 9999) (f54 : 0 ≤ n28) (f55 : (hLe T0 H11 H12 ∧ hFr s_223.2.2.2.2 H11 H12 ∧ ((0 : Int) = 0 → H12.length = H11.length) ∧ hWt T0 H12) ∧ ((postb_223 n28 n3 n26 n27 H11 H12 ∧ nb_223 n28 n3 n26 n27 H11 H12) ∧ yb_223 n28 n3 n26 n27 H11 H12)) (f56 : hK H12 (n21).toNat = 268) (f57 : hUpd H13 H12 n21 n25 n28) : Byb_227_567 n4 n3 n2 n1 n0 H0 H13 := by
  unfold Byb_227_567
  intro z zr
  have ga := f8.2.1.1.1.2
  unfold Bb_227_180 at ga
  obtain ⟨z1, a1, pm, ps, k0, k5, kd, h16⟩ := ga z zr
  have vz : vwR H1 = vwR H0 := vwR_fr f8.1.2.1 (by decide +kernel)
  have gy := f8.2.1.1.2
  unfold Byb_227_180 at gy
  obtain ⟨y2, yc, y298, y299, y301, y303⟩ := gy z zr
  have xc := f9
  have rg0 := f0
  have rg1 := f1
  have rg2 := f2
  have rg3 := f3
  have rg4 := f4
  have rg5 := f5
  have ke : 20 + n2 = 21 := by omega
  rw [ke] at a1 kd
  have y298 : hV H1 298 (n1).toNat = 1 := by omega
  have c0 := f17.2.1.2 z1
  try rw [f13] at c0
  try rw [f14] at c0
  rw [vz, a1] at c0
  have v0 : vwR H2 = vwR H0 := (vwR_fr f17.1.2.1 (by decide +kernel)).trans vz
  have p1 := PR_row (q := 300) f19 f10 (by decide) c0.1
  have v1 : vwR H3 = vwR H0 := p1.2.1.trans v0
  have ah1 : absR H3 = (pnm (vwR H0) 0 2 (ptk (vwR H0) 21 (absR H0))) := p1.1.trans c0.2
  have c2 := f21.2.2 p1.2.2.1 (by rw [f20]; decide)
  try rw [f20] at c2
  rw [v1, ah1, kmc_26] at c2
  have v2 : vwR H4 = vwR H0 := (vwR_fr f21.1.2.1 (by decide +kernel)).trans v1
  have c3 := f23.2.1.2 c2.1
  try rw [f22] at c3
  rw [v2, c2.2] at c3
  have v3 : vwR H5 = vwR H0 := (vwR_fr f23.1.2.1 (by decide +kernel)).trans v2
  have c4 := f25.2.2 c3.1 (by rw [f24]; decide)
  try rw [f24] at c4
  rw [v3, c3.2, kmc_32] at c4
  have v4 : vwR H6 = vwR H0 := (vwR_fr f25.1.2.1 (by decide +kernel)).trans v3
  have c5 := f27.2.1.2 c4.1
  try rw [f26] at c5
  rw [v4, c4.2] at c5
  have v5 : vwR H7 = vwR H0 := (vwR_fr f27.1.2.1 (by decide +kernel)).trans v4
  have c6 := f29.2.2 c5.1 (by rw [f28]; decide)
  try rw [f28] at c6
  rw [v5, c5.2, kmc_28] at c6
  have v6 : vwR H8 = vwR H0 := (vwR_fr f29.1.2.1 (by decide +kernel)).trans v5
  have c7 := f39.2.1.2 c6.1
  try rw [f35] at c7
  try rw [f36] at c7
  rw [v6, c6.2] at c7
  have v7 : vwR H9 = vwR H0 := (vwR_fr f39.1.2.1 (by decide +kernel)).trans v6
  have p8 := PR_row (q := 305) f41 f30 (by decide) c7.1
  have v8 : vwR H10 = vwR H0 := p8.2.1.trans v7
  have ah8 : absR H10 = (pnm (vwR H0) 0 400 (ptk (vwR H0) 29 (pTime (vwR H0) (ptk (vwR H0) 32 (pTime (vwR H0) (ptk (vwR H0) 27 (pnm (vwR H0) 0 2 (ptk (vwR H0) 21 (absR H0))))))))) := p8.1.trans c7.2
  have c9 := f43.2.2 p8.2.2.1 (by rw [f42]; decide)
  try rw [f42] at c9
  rw [v8, ah8, kmc_5] at c9
  have v9 : vwR H11 = vwR H0 := (vwR_fr f43.1.2.1 (by decide +kernel)).trans v8
  have c10 := f55.2.1.2 c9.1
  try rw [f51] at c10
  try rw [f52] at c10
  rw [v9, c9.2] at c10
  have v10 : vwR H12 = vwR H0 := (vwR_fr f55.1.2.1 (by decide +kernel)).trans v9
  have p11 := PR_row (q := 305) f57 f44 (by decide) c10.1
  have v11 : vwR H13 = vwR H0 := p11.2.1.trans v10
  have ah11 : absR H13 = (pnm (vwR H0) 0 400 (ptk (vwR H0) 5 (pnm (vwR H0) 0 400 (ptk (vwR H0) 29 (pTime (vwR H0) (ptk (vwR H0) 32 (pTime (vwR H0) (ptk (vwR H0) 27 (pnm (vwR H0) 0 2 (ptk (vwR H0) 21 (absR H0))))))))))) := p11.1.trans c10.2
  have tt23 := f23.2.2
  unfold yb_229 at tt23
  have tt23 := tt23 c2.1
  have tq23 := tt23.2.2.2.2.1 f22
  obtain ⟨x23_, y23_, ta23, tb23, td23⟩ := tq23.2.2
  have tc23 : CRo H4 H5 n1 := by
    refine ⟨fun q h1 h2 j n => ?_, fun j _ => congrFun tt23.2.2.2.1 j⟩
    have hq : q = 298 ∨ q = 299 ∨ q = 300 ∨ q = 301 ∨ q = 302 ∨ q = 303 ∨ q = 304 := by omega
    rcases hq with rfl | rfl | rfl | rfl | rfl | rfl | rfl
    · exact congrFun tt23.1 j
    · exact congrFun tt23.2.1 j
    · exact congrFun tt23.2.2.1 j
    · rw [ta23, uF_at, if_neg n]
    · rw [tb23, uF_at, if_neg n]
    · exact congrFun tq23.1 j
    · exact congrFun tq23.2.1 j
  have tt27 := f27.2.2
  unfold yb_229 at tt27
  have tt27 := tt27 c4.1
  have tq27 := tt27.2.2.2.2.2 (by rw [f26]; decide)
  obtain ⟨x27_, y27_, ta27, tb27, td27⟩ := tq27.2.2
  have tc27 : CRo H6 H7 n1 := by
    refine ⟨fun q h1 h2 j n => ?_, fun j _ => congrFun tt27.2.2.2.1 j⟩
    have hq : q = 298 ∨ q = 299 ∨ q = 300 ∨ q = 301 ∨ q = 302 ∨ q = 303 ∨ q = 304 := by omega
    rcases hq with rfl | rfl | rfl | rfl | rfl | rfl | rfl
    · exact congrFun tt27.1 j
    · exact congrFun tt27.2.1 j
    · exact congrFun tt27.2.2.1 j
    · exact congrFun tq27.1 j
    · exact congrFun tq27.2.1 j
    · rw [ta27, uF_at, if_neg n]
    · rw [tb27, uF_at, if_neg n]
  have ix16 : n16 = 6 * n1 := by
    have w := f34
    rw [f33] at w
    unfold w32 at w
    omega
  have ix23 : n23 = 6 * n1 := by
    have w := f48
    rw [f47] at w
    unfold w32 at w
    omega
  have ix25 : n25 = 6 * n1 + 1 := by
    have w := f50
    rw [f49] at w
    unfold w32 at w
    omega
  have cu : CRo H1 H13 n1 := (CRo_tr (CRo_8 (CR8_fr f17.1.2.1 (by decide +kernel))) (CRo_tr (CRo_up f19 rfl (by rw [f10]; decide)) (CRo_tr (CRo_8 (CR8_fr f21.1.2.1 (by decide +kernel))) (CRo_tr tc23 (CRo_tr (CRo_8 (CR8_fr f25.1.2.1 (by decide +kernel))) (CRo_tr tc27 (CRo_tr (CRo_8 (CR8_fr f29.1.2.1 (by decide +kernel))) (CRo_tr (CRo_8 (CR8_fr f39.1.2.1 (by decide +kernel))) (CRo_tr (CRo_up5 f41 f30 (k := 0) (by omega) (by decide) (by decide)) (CRo_tr (CRo_8 (CR8_fr f43.1.2.1 (by decide +kernel))) (CRo_tr (CRo_8 (CR8_fr f55.1.2.1 (by decide +kernel))) (CRo_up5 f57 f44 (k := 1) (by omega) (by decide) (by decide)))))))))))))
  refine ⟨y2, CRo_tr yc cu, fun hf => ?_⟩
  have hzH12 := fzR c10.1 p11.2.2.1 c10.2 ah11 (fun _ _ => rfl) hf
  have hzH11 := fzR c9.1 c10.1 c9.2 c10.2 (fun n k => pnm_neg n k) hzH12.1
  have hzH10 := fzR p8.2.2.1 c9.1 ah8 c9.2 (fun n k => ptk_neg n k) hzH11.1
  have hzH9 := fzR c7.1 p8.2.2.1 c7.2 ah8 (fun _ _ => rfl) hzH10.1
  have hzH8 := fzR c6.1 c7.1 c6.2 c7.2 (fun n k => pnm_neg n k) hzH9.1
  have hzH7 := fzR c5.1 c6.1 c5.2 c6.2 (fun n k => ptk_neg n k) hzH8.1
  have hzH6 := fzR c4.1 c5.1 c4.2 c5.2 (fun n k => pTime_neg (vwR_ok H0) n k) hzH7.1
  have hzH5 := fzR c3.1 c4.1 c3.2 c4.2 (fun n k => ptk_neg n k) hzH6.1
  have hzH4 := fzR c2.1 c3.1 c2.2 c3.2 (fun n k => pTime_neg (vwR_ok H0) n k) hzH5.1
  have hzH3 := fzR p1.2.2.1 c2.1 ah1 c2.2 (fun n k => ptk_neg n k) hzH4.1
  have hzH2 := fzR c0.1 p1.2.2.1 c0.2 ah1 (fun _ _ => rfl) hzH3.1
  have hzH1 := fzR z1 c0.1 a1 c0.2 (fun n k => pnm_neg n k) hzH2.1
  have tv17 := f17.2.2
  unfold yb_223 at tv17
  have tv17 := tv17 z1 hzH2.1
  rw [vz, a1] at tv17
  have td23 := td23 hzH5.1
  rw [v2, c2.2] at td23
  have td27 := td27 hzH7.1
  rw [v4, c4.2] at td27
  have r298 := ((congrFun (uRowNe f57 298 (by rw [f44]; decide)) _).trans ((congrFun (fRow f55.1.2.1 298 (by decide +kernel)) _).trans ((congrFun (fRow f43.1.2.1 298 (by decide +kernel)) _).trans ((congrFun (uRowNe f41 298 (by rw [f30]; decide)) _).trans ((congrFun (fRow f39.1.2.1 298 (by decide +kernel)) _).trans ((congrFun (fRow f29.1.2.1 298 (by decide +kernel)) _).trans ((congrFun tt27.1 _).trans ((congrFun (fRow f25.1.2.1 298 (by decide +kernel)) _).trans ((congrFun tt23.1 _).trans ((congrFun (fRow f21.1.2.1 298 (by decide +kernel)) _).trans ((congrFun (uRowNe f19 298 (by rw [f10]; decide)) _).trans (congrFun (fRow f17.1.2.1 298 (by decide +kernel)) _)))))))))))).trans y298
  have r299 := ((congrFun (uRowNe f57 299 (by rw [f44]; decide)) _).trans ((congrFun (fRow f55.1.2.1 299 (by decide +kernel)) _).trans ((congrFun (fRow f43.1.2.1 299 (by decide +kernel)) _).trans ((congrFun (uRowNe f41 299 (by rw [f30]; decide)) _).trans ((congrFun (fRow f39.1.2.1 299 (by decide +kernel)) _).trans ((congrFun (fRow f29.1.2.1 299 (by decide +kernel)) _).trans ((congrFun tt27.2.1 _).trans ((congrFun (fRow f25.1.2.1 299 (by decide +kernel)) _).trans ((congrFun tt23.2.1 _).trans ((congrFun (fRow f21.1.2.1 299 (by decide +kernel)) _).trans ((congrFun (uRowNe f19 299 (by rw [f10]; decide)) _).trans (congrFun (fRow f17.1.2.1 299 (by decide +kernel)) _)))))))))))).trans y299
  have r300 := ((congrFun (uRowNe f57 300 (by rw [f44]; decide)) _).trans ((congrFun (fRow f55.1.2.1 300 (by decide +kernel)) _).trans ((congrFun (fRow f43.1.2.1 300 (by decide +kernel)) _).trans ((congrFun (uRowNe f41 300 (by rw [f30]; decide)) _).trans ((congrFun (fRow f39.1.2.1 300 (by decide +kernel)) _).trans ((congrFun (fRow f29.1.2.1 300 (by decide +kernel)) _).trans ((congrFun tt27.2.2.1 _).trans ((congrFun (fRow f25.1.2.1 300 (by decide +kernel)) _).trans ((congrFun tt23.2.2.1 _).trans ((congrFun (fRow f21.1.2.1 300 (by decide +kernel)) _).trans ((congrFun (uRowQ f19 300 f10) _).trans (by rw [uF_at, if_pos (Int.toNat_of_nonneg (by omega))])))))))))))).trans tv17
  have r301 := ((congrFun (uRowNe f57 301 (by rw [f44]; decide)) _).trans ((congrFun (fRow f55.1.2.1 301 (by decide +kernel)) _).trans ((congrFun (fRow f43.1.2.1 301 (by decide +kernel)) _).trans ((congrFun (uRowNe f41 301 (by rw [f30]; decide)) _).trans ((congrFun (fRow f39.1.2.1 301 (by decide +kernel)) _).trans ((congrFun (fRow f29.1.2.1 301 (by decide +kernel)) _).trans ((congrFun tq27.1 _).trans ((congrFun (fRow f25.1.2.1 301 (by decide +kernel)) _).trans ((congrFun ta23 _).trans (by rw [uF_at, if_pos (Int.toNat_of_nonneg (by omega))])))))))))).trans td23.1
  have r302 := ((congrFun (uRowNe f57 302 (by rw [f44]; decide)) _).trans ((congrFun (fRow f55.1.2.1 302 (by decide +kernel)) _).trans ((congrFun (fRow f43.1.2.1 302 (by decide +kernel)) _).trans ((congrFun (uRowNe f41 302 (by rw [f30]; decide)) _).trans ((congrFun (fRow f39.1.2.1 302 (by decide +kernel)) _).trans ((congrFun (fRow f29.1.2.1 302 (by decide +kernel)) _).trans ((congrFun tq27.2.1 _).trans ((congrFun (fRow f25.1.2.1 302 (by decide +kernel)) _).trans ((congrFun tb23 _).trans (by rw [uF_at, if_pos (Int.toNat_of_nonneg (by omega))])))))))))).trans td23.2
  have r303 := ((congrFun (uRowNe f57 303 (by rw [f44]; decide)) _).trans ((congrFun (fRow f55.1.2.1 303 (by decide +kernel)) _).trans ((congrFun (fRow f43.1.2.1 303 (by decide +kernel)) _).trans ((congrFun (uRowNe f41 303 (by rw [f30]; decide)) _).trans ((congrFun (fRow f39.1.2.1 303 (by decide +kernel)) _).trans ((congrFun (fRow f29.1.2.1 303 (by decide +kernel)) _).trans ((congrFun ta27 _).trans (by rw [uF_at, if_pos (Int.toNat_of_nonneg (by omega))])))))))).trans td27.1
  have r304 := ((congrFun (uRowNe f57 304 (by rw [f44]; decide)) _).trans ((congrFun (fRow f55.1.2.1 304 (by decide +kernel)) _).trans ((congrFun (fRow f43.1.2.1 304 (by decide +kernel)) _).trans ((congrFun (uRowNe f41 304 (by rw [f30]; decide)) _).trans ((congrFun (fRow f39.1.2.1 304 (by decide +kernel)) _).trans ((congrFun (fRow f29.1.2.1 304 (by decide +kernel)) _).trans ((congrFun tb27 _).trans (by rw [uF_at, if_pos (Int.toNat_of_nonneg (by omega))])))))))).trans td27.2
  rw [recR_fade r298, cuT_21 kd, r299, r300, r301, r302, r303, r304]
  rfl
def g_227y_180_5 : vG := ([(80, [21, 25, 28], [13, 12], 0), (23, [21], [12], 268), (1223, [28, 1, 26, 27], [11, 12], 0), (90, [28], [], 0), (91, [28], [], 9999), (0, [27], [], 400), (0, [26], [], 0), (1, [25, 23, 24], [], 0), (0, [24], [], 1), (3, [23, 22, 3], [], 0), (0, [22], [], 6), (20, [21, 1], [11], 31), (23, [1], [11], 12), (0, [21], [], 305), (1220, [1, 20], [10, 11], 0), (0, [20], [], 5), (80, [14, 16, 19], [10, 9], 0), (23, [14], [9], 268), (1223, [19, 1, 17, 18], [8, 9], 0), (90, [19], [], 0), (91, [19], [], 9999), (0, [18], [], 400), (0, [17], [], 0), (3, [16, 15, 3], [], 0), (0, [15], [], 6), (20, [14, 1], [8], 31), (23, [1], [8], 12), (0, [14], [], 305), (1220, [1, 13], [7, 8], 0), (0, [13], [], 28), (1229, [1, 3, 12], [6, 7], 0), (0, [12], [], 1), (1220, [1, 11], [5, 6], 0), (0, [11], [], 32), (1229, [1, 3, 10], [4, 5], 0), (0, [10], [], 0), (1220, [1, 9], [3, 4], 0), (0, [9], [], 26), (80, [5, 3, 8], [3, 2], 0), (23, [5], [2], 228), (1223, [8, 1, 6, 7], [1, 2], 0), (90, [8], [], 0), (91, [8], [], 9999), (0, [7], [], 2), (0, [6], [], 0), (20, [5, 1], [1], 26), (23, [1], [1], 12), (0, [5], [], 300), (0, [2], [], 1), (5000, [0, 1, 2, 3, 4], [0, 1], 180), (0, [0], [], 285), (0, [1], [], 285), (90, [2], [], 0), (91, [2], [], 5), (90, [3], [], 0), (91, [3], [], 1007), (90, [4], [], 1), (91, [4], [], 1)], (4000, [1, 2, 3, 4], [13], 567))
theorem c_227y_180_5 {q0 : Nat} : vOkm T0 (eN e_227w L_227y (eAB A_227 B_227) mu_227 y_227 By_227 (some q0)) 1 g_227y_180_5 := vOk_inI fun ρ η f0 f1 f2 f3 f4 f5 f6 f7 f8 f9 f10 f11 f12 f13 f14 f15 f16 f17 f18 f19 f20 f21 f22 f23 f24 f25 f26 f27 f28 f29 f30 f31 f32 f33 f34 f35 f36 f37 f38 f39 f40 f41 f42 f43 f44 f45 f46 f47 f48 f49 f50 f51 f52 f53 f54 f55 f56 f57 => q_227y_19 (q0 := q0) (n0 := ρ 4) (n1 := ρ 3) (n2 := ρ 2) (n3 := ρ 1) (n4 := ρ 0) (n5 := ρ 5) (n6 := ρ 6) (n7 := ρ 7) (n8 := ρ 8) (n9 := ρ 9) (n10 := ρ 10) (n11 := ρ 11) (n12 := ρ 12) (n13 := ρ 13) (n14 := ρ 14) (n15 := ρ 15) (n16 := ρ 16) (n17 := ρ 17) (n18 := ρ 18) (n19 := ρ 19) (n20 := ρ 20) (n21 := ρ 21) (n22 := ρ 22) (n23 := ρ 23) (n24 := ρ 24) (n25 := ρ 25) (n26 := ρ 26) (n27 := ρ 27) (n28 := ρ 28) (H0 := η 0) (H1 := η 1) (H2 := η 2) (H3 := η 3) (H4 := η 4) (H5 := η 5) (H6 := η 6) (H7 := η 7) (H8 := η 8) (H9 := η 9) (H10 := η 10) (H11 := η 11) (H12 := η 12) (H13 := η 13) f57 f56 f55 f54 f53 f52 f51 f50 f49 f48 f47 f46 f45 f44 f43 f42 f41 f40 f39 f38 f37 f36 f35 f34 f33 f32 f31 f30 f29 f28 f27 f26 f25 f24 f23 f22 f21 f20 f19 f18 f17 f16 f15 f14 f13 f12 f11 f10 f9 f8 f7 f6 f5 f4 f3 f2 f1 f0
theorem q_227y_20 {q0 : Nat} {n0 n1 n2 n3 n4 n5 n6 n7 n8 n9 n10 n11 n12 n13 n14 n15 n16 n17 n18 n19 n20 n21 n22 n23 n24 n25 n26 n27 n28 n29 n30 n31 n32 n33 : Int} {H0 H1 H2 H3 H4 H5 H6 H7 H8 H9 H10 H11 H12 : gH} (f0 : n0 ≤ 1) (f1 : 1 ≤ n0) (f2 : n1 ≤ 1007) (f3 : 0 ≤ n1) (f4 : n2 ≤ 5) (f5 : 0 ≤ n2) (f6 : n3 = 285) (f7 : n4 = 285) (f8 : (hLe T0 H0 H1 ∧ hFr s_227.2.2.2.2 H0 H1 ∧ hWt T0 H1) ∧ (((Ab_227_180 n4 n3 n2 n1 n0 H0 H1 ∧ Bb_227_180 n4 n3 n2 n1 n0 H0 H1) ∧ Byb_227_180 n4 n3 n2 n1 n0 H0 H1) ∧ preb_227 n4 H0) ∧ some q0 = some (mub_227_180 n4 n3 n2 n1 n0 H0 H1)) (f9 : n2 = 2) (f10 : n5 = 300) (f11 : hK H1 (n3).toNat = 12) (f12 : n5 = hV H1 (n3).toNat 26) (f13 : n6 = 0) (f14 : n7 = 2) (f15 : n8 ≤ 9999) (f16 : 0 ≤ n8) (f17 : (hLe T0 H1 H2 ∧ hFr s_223.2.2.2.2 H1 H2 ∧ ((0 : Int) = 0 → H2.length = H1.length) ∧ hWt T0 H2) ∧ ((postb_223 n8 n3 n6 n7 H1 H2 ∧ nb_223 n8 n3 n6 n7 H1 H2) ∧ yb_223 n8 n3 n6 n7 H1 H2)) (f18 : hK H2 (n5).toNat = 228) (f19 : hUpd H3 H2 n5 n1 n8) (f20 : n9 = 34) (f21 : (hLe T0 H3 H4 ∧ hFr s_220.2.2.2.2 H3 H4 ∧ ((0 : Int) = 0 → H4.length = H3.length) ∧ hWt T0 H4) ∧ (postb_220 n3 n9 H3 H4 ∧ nb_220 n3 n9 H3 H4)) (f22 : n10 = 305) (f23 : hK H4 (n3).toNat = 12) (f24 : n10 = hV H4 (n3).toNat 31) (f25 : n11 = 6) (f26 : n12 = w32 (n11 * n1)) (f27 : n13 = 0) (f28 : n14 = 2) (f29 : n15 ≤ 9999) (f30 : 0 ≤ n15) (f31 : (hLe T0 H4 H5 ∧ hFr s_223.2.2.2.2 H4 H5 ∧ ((0 : Int) = 0 → H5.length = H4.length) ∧ hWt T0 H5) ∧ ((postb_223 n15 n3 n13 n14 H4 H5 ∧ nb_223 n15 n3 n13 n14 H4 H5) ∧ yb_223 n15 n3 n13 n14 H4 H5)) (f32 : hK H5 (n10).toNat = 268) (f33 : hUpd H6 H5 n10 n12 n15) (f34 : n16 = 35) (f35 : (hLe T0 H6 H7 ∧ hFr s_220.2.2.2.2 H6 H7 ∧ ((0 : Int) = 0 → H7.length = H6.length) ∧ hWt T0 H7) ∧ (postb_220 n3 n16 H6 H7 ∧ nb_220 n3 n16 H6 H7)) (f36 : n17 = 305) (f37 : hK H7 (n3).toNat = 12) (f38 : n17 = hV H7 (n3).toNat 31) (f39 : n18 = 6) (f40 : n19 = w32 (n18 * n1)) (f41 : n20 = 1) (f42 : n21 = w32 (n19 + n20)) (f43 : n22 = 0) (f44 : n23 = 400) (f45 : n24 ≤ 9999) (f46 : 0 ≤ n24) (f47 : (hLe T0 H7 H8 ∧ hFr s_223.2.2.2.2 H7 H8 ∧ ((0 : Int) = 0 → H8.length = H7.length) ∧ hWt T0 H8) ∧ ((postb_223 n24 n3 n22 n23 H7 H8 ∧ nb_223 n24 n3 n22 n23 H7 H8) ∧ yb_223 n24 n3 n22 n23 H7 H8)) (f48 : hK H8 (n17).toNat = 268) (f49 : hUpd H9 H8 n17 n21 n24) (f50 : n25 = 36) (f51 : (hLe T0 H9 H10 ∧ hFr s_220.2.2.2.2 H9 H10 ∧ ((0 : Int) = 0 → H10.length = H9.length) ∧ hWt T0 H10) ∧ (postb_220 n3 n25 H9 H10 ∧ nb_220 n3 n25 H9 H10)) (f52 : n26 = 305) (f53 : hK H10 (n3).toNat = 12) (f54 : n26 = hV H10 (n3).toNat 31) (f55 : n27 = 6) (f56 : n28 = w32 (n27 * n1)) (f57 : n29 = 2) (f58 : n30 = w32 (n28 + n29)) (f59 : n31 = 0) (f60 : n32 = 60) (f61 : n33 ≤ 9999) (f62 : 0 ≤ n33) (f63 : (hLe T0 H10 H11 ∧ hFr s_223.2.2.2.2 H10 H11 ∧ ((0 : Int) = 0 → H11.length = H10.length) ∧ hWt T0 H11) ∧ ((postb_223 n33 n3 n31 n32 H10 H11 ∧ nb_223 n33 n3 n31 n32 H10 H11) ∧ yb_223 n33 n3 n31 n32 H10 H11)) (f64 : hK H11 (n26).toNat = 268) (f65 : hUpd H12 H11 n26 n30 n33) : Byb_227_567 n4 n3 n2 n1 n0 H0 H12 := by
  unfold Byb_227_567
  intro z zr
  have ga := f8.2.1.1.1.2
  unfold Bb_227_180 at ga
  obtain ⟨z1, a1, pm, ps, k0, k5, kd, h16⟩ := ga z zr
  have vz : vwR H1 = vwR H0 := vwR_fr f8.1.2.1 (by decide +kernel)
  have gy := f8.2.1.1.2
  unfold Byb_227_180 at gy
  obtain ⟨y2, yc, y298, y299, y301, y303⟩ := gy z zr
  have xc := f9
  have rg0 := f0
  have rg1 := f1
  have rg2 := f2
  have rg3 := f3
  have rg4 := f4
  have rg5 := f5
  have ke : 20 + n2 = 22 := by omega
  rw [ke] at a1 kd
  have y298 : hV H1 298 (n1).toNat = 2 := by omega
  have c0 := f17.2.1.2 z1
  try rw [f13] at c0
  try rw [f14] at c0
  rw [vz, a1] at c0
  have v0 : vwR H2 = vwR H0 := (vwR_fr f17.1.2.1 (by decide +kernel)).trans vz
  have p1 := PR_row (q := 300) f19 f10 (by decide) c0.1
  have v1 : vwR H3 = vwR H0 := p1.2.1.trans v0
  have ah1 : absR H3 = (pnm (vwR H0) 0 2 (ptk (vwR H0) 22 (absR H0))) := p1.1.trans c0.2
  have c2 := f21.2.2 p1.2.2.1 (by rw [f20]; decide)
  try rw [f20] at c2
  rw [v1, ah1, kmc_34] at c2
  have v2 : vwR H4 = vwR H0 := (vwR_fr f21.1.2.1 (by decide +kernel)).trans v1
  have c3 := f31.2.1.2 c2.1
  try rw [f27] at c3
  try rw [f28] at c3
  rw [v2, c2.2] at c3
  have v3 : vwR H5 = vwR H0 := (vwR_fr f31.1.2.1 (by decide +kernel)).trans v2
  have p4 := PR_row (q := 305) f33 f22 (by decide) c3.1
  have v4 : vwR H6 = vwR H0 := p4.2.1.trans v3
  have ah4 : absR H6 = (pnm (vwR H0) 0 2 (ptk (vwR H0) 33 (pnm (vwR H0) 0 2 (ptk (vwR H0) 22 (absR H0))))) := p4.1.trans c3.2
  have c5 := f35.2.2 p4.2.2.1 (by rw [f34]; decide)
  try rw [f34] at c5
  rw [v4, ah4, kmc_35] at c5
  have v5 : vwR H7 = vwR H0 := (vwR_fr f35.1.2.1 (by decide +kernel)).trans v4
  have c6 := f47.2.1.2 c5.1
  try rw [f43] at c6
  try rw [f44] at c6
  rw [v5, c5.2] at c6
  have v6 : vwR H8 = vwR H0 := (vwR_fr f47.1.2.1 (by decide +kernel)).trans v5
  have p7 := PR_row (q := 305) f49 f36 (by decide) c6.1
  have v7 : vwR H9 = vwR H0 := p7.2.1.trans v6
  have ah7 : absR H9 = (pnm (vwR H0) 0 400 (ptk (vwR H0) 34 (pnm (vwR H0) 0 2 (ptk (vwR H0) 33 (pnm (vwR H0) 0 2 (ptk (vwR H0) 22 (absR H0))))))) := p7.1.trans c6.2
  have c8 := f51.2.2 p7.2.2.1 (by rw [f50]; decide)
  try rw [f50] at c8
  rw [v7, ah7, kmc_36] at c8
  have v8 : vwR H10 = vwR H0 := (vwR_fr f51.1.2.1 (by decide +kernel)).trans v7
  have c9 := f63.2.1.2 c8.1
  try rw [f59] at c9
  try rw [f60] at c9
  rw [v8, c8.2] at c9
  have v9 : vwR H11 = vwR H0 := (vwR_fr f63.1.2.1 (by decide +kernel)).trans v8
  have p10 := PR_row (q := 305) f65 f52 (by decide) c9.1
  have v10 : vwR H12 = vwR H0 := p10.2.1.trans v9
  have ah10 : absR H12 = (pnm (vwR H0) 0 60 (ptk (vwR H0) 35 (pnm (vwR H0) 0 400 (ptk (vwR H0) 34 (pnm (vwR H0) 0 2 (ptk (vwR H0) 33 (pnm (vwR H0) 0 2 (ptk (vwR H0) 22 (absR H0))))))))) := p10.1.trans c9.2
  have ix12 : n12 = 6 * n1 := by
    have w := f26
    rw [f25] at w
    unfold w32 at w
    omega
  have ix19 : n19 = 6 * n1 := by
    have w := f40
    rw [f39] at w
    unfold w32 at w
    omega
  have ix21 : n21 = 6 * n1 + 1 := by
    have w := f42
    rw [f41] at w
    unfold w32 at w
    omega
  have ix28 : n28 = 6 * n1 := by
    have w := f56
    rw [f55] at w
    unfold w32 at w
    omega
  have ix30 : n30 = 6 * n1 + 2 := by
    have w := f58
    rw [f57] at w
    unfold w32 at w
    omega
  have cu : CRo H1 H12 n1 := (CRo_tr (CRo_8 (CR8_fr f17.1.2.1 (by decide +kernel))) (CRo_tr (CRo_up f19 rfl (by rw [f10]; decide)) (CRo_tr (CRo_8 (CR8_fr f21.1.2.1 (by decide +kernel))) (CRo_tr (CRo_8 (CR8_fr f31.1.2.1 (by decide +kernel))) (CRo_tr (CRo_up5 f33 f22 (k := 0) (by omega) (by decide) (by decide)) (CRo_tr (CRo_8 (CR8_fr f35.1.2.1 (by decide +kernel))) (CRo_tr (CRo_8 (CR8_fr f47.1.2.1 (by decide +kernel))) (CRo_tr (CRo_up5 f49 f36 (k := 1) (by omega) (by decide) (by decide)) (CRo_tr (CRo_8 (CR8_fr f51.1.2.1 (by decide +kernel))) (CRo_tr (CRo_8 (CR8_fr f63.1.2.1 (by decide +kernel))) (CRo_up5 f65 f52 (k := 2) (by omega) (by decide) (by decide))))))))))))
  refine ⟨y2, CRo_tr yc cu, fun hf => ?_⟩
  have hzH11 := fzR c9.1 p10.2.2.1 c9.2 ah10 (fun _ _ => rfl) hf
  have hzH10 := fzR c8.1 c9.1 c8.2 c9.2 (fun n k => pnm_neg n k) hzH11.1
  have hzH9 := fzR p7.2.2.1 c8.1 ah7 c8.2 (fun n k => ptk_neg n k) hzH10.1
  have hzH8 := fzR c6.1 p7.2.2.1 c6.2 ah7 (fun _ _ => rfl) hzH9.1
  have hzH7 := fzR c5.1 c6.1 c5.2 c6.2 (fun n k => pnm_neg n k) hzH8.1
  have hzH6 := fzR p4.2.2.1 c5.1 ah4 c5.2 (fun n k => ptk_neg n k) hzH7.1
  have hzH5 := fzR c3.1 p4.2.2.1 c3.2 ah4 (fun _ _ => rfl) hzH6.1
  have hzH4 := fzR c2.1 c3.1 c2.2 c3.2 (fun n k => pnm_neg n k) hzH5.1
  have hzH3 := fzR p1.2.2.1 c2.1 ah1 c2.2 (fun n k => ptk_neg n k) hzH4.1
  have hzH2 := fzR c0.1 p1.2.2.1 c0.2 ah1 (fun _ _ => rfl) hzH3.1
  have hzH1 := fzR z1 c0.1 a1 c0.2 (fun n k => pnm_neg n k) hzH2.1
  have tv17 := f17.2.2
  unfold yb_223 at tv17
  have tv17 := tv17 z1 hzH2.1
  rw [vz, a1] at tv17
  have r298 := ((congrFun (uRowNe f65 298 (by rw [f52]; decide)) _).trans ((congrFun (fRow f63.1.2.1 298 (by decide +kernel)) _).trans ((congrFun (fRow f51.1.2.1 298 (by decide +kernel)) _).trans ((congrFun (uRowNe f49 298 (by rw [f36]; decide)) _).trans ((congrFun (fRow f47.1.2.1 298 (by decide +kernel)) _).trans ((congrFun (fRow f35.1.2.1 298 (by decide +kernel)) _).trans ((congrFun (uRowNe f33 298 (by rw [f22]; decide)) _).trans ((congrFun (fRow f31.1.2.1 298 (by decide +kernel)) _).trans ((congrFun (fRow f21.1.2.1 298 (by decide +kernel)) _).trans ((congrFun (uRowNe f19 298 (by rw [f10]; decide)) _).trans (congrFun (fRow f17.1.2.1 298 (by decide +kernel)) _))))))))))).trans y298
  have r299 := ((congrFun (uRowNe f65 299 (by rw [f52]; decide)) _).trans ((congrFun (fRow f63.1.2.1 299 (by decide +kernel)) _).trans ((congrFun (fRow f51.1.2.1 299 (by decide +kernel)) _).trans ((congrFun (uRowNe f49 299 (by rw [f36]; decide)) _).trans ((congrFun (fRow f47.1.2.1 299 (by decide +kernel)) _).trans ((congrFun (fRow f35.1.2.1 299 (by decide +kernel)) _).trans ((congrFun (uRowNe f33 299 (by rw [f22]; decide)) _).trans ((congrFun (fRow f31.1.2.1 299 (by decide +kernel)) _).trans ((congrFun (fRow f21.1.2.1 299 (by decide +kernel)) _).trans ((congrFun (uRowNe f19 299 (by rw [f10]; decide)) _).trans (congrFun (fRow f17.1.2.1 299 (by decide +kernel)) _))))))))))).trans y299
  have r300 := ((congrFun (uRowNe f65 300 (by rw [f52]; decide)) _).trans ((congrFun (fRow f63.1.2.1 300 (by decide +kernel)) _).trans ((congrFun (fRow f51.1.2.1 300 (by decide +kernel)) _).trans ((congrFun (uRowNe f49 300 (by rw [f36]; decide)) _).trans ((congrFun (fRow f47.1.2.1 300 (by decide +kernel)) _).trans ((congrFun (fRow f35.1.2.1 300 (by decide +kernel)) _).trans ((congrFun (uRowNe f33 300 (by rw [f22]; decide)) _).trans ((congrFun (fRow f31.1.2.1 300 (by decide +kernel)) _).trans ((congrFun (fRow f21.1.2.1 300 (by decide +kernel)) _).trans ((congrFun (uRowQ f19 300 f10) _).trans (by rw [uF_at, if_pos (Int.toNat_of_nonneg (by omega))]))))))))))).trans tv17
  have r301 := ((congrFun (uRowNe f65 301 (by rw [f52]; decide)) _).trans ((congrFun (fRow f63.1.2.1 301 (by decide +kernel)) _).trans ((congrFun (fRow f51.1.2.1 301 (by decide +kernel)) _).trans ((congrFun (uRowNe f49 301 (by rw [f36]; decide)) _).trans ((congrFun (fRow f47.1.2.1 301 (by decide +kernel)) _).trans ((congrFun (fRow f35.1.2.1 301 (by decide +kernel)) _).trans ((congrFun (uRowNe f33 301 (by rw [f22]; decide)) _).trans ((congrFun (fRow f31.1.2.1 301 (by decide +kernel)) _).trans ((congrFun (fRow f21.1.2.1 301 (by decide +kernel)) _).trans ((congrFun (uRowNe f19 301 (by rw [f10]; decide)) _).trans (congrFun (fRow f17.1.2.1 301 (by decide +kernel)) _))))))))))).trans y301
  have r303 := ((congrFun (uRowNe f65 303 (by rw [f52]; decide)) _).trans ((congrFun (fRow f63.1.2.1 303 (by decide +kernel)) _).trans ((congrFun (fRow f51.1.2.1 303 (by decide +kernel)) _).trans ((congrFun (uRowNe f49 303 (by rw [f36]; decide)) _).trans ((congrFun (fRow f47.1.2.1 303 (by decide +kernel)) _).trans ((congrFun (fRow f35.1.2.1 303 (by decide +kernel)) _).trans ((congrFun (uRowNe f33 303 (by rw [f22]; decide)) _).trans ((congrFun (fRow f31.1.2.1 303 (by decide +kernel)) _).trans ((congrFun (fRow f21.1.2.1 303 (by decide +kernel)) _).trans ((congrFun (uRowNe f19 303 (by rw [f10]; decide)) _).trans (congrFun (fRow f17.1.2.1 303 (by decide +kernel)) _))))))))))).trans y303
  rw [recR_x (k := 2) r298 (by decide) (by decide), cuT_x kd (by decide) (by decide), r299, r300, r301, r303]
  rfl
def g_227y_180_6 : vG := ([(80, [26, 30, 33], [12, 11], 0), (23, [26], [11], 268), (1223, [33, 1, 31, 32], [10, 11], 0), (90, [33], [], 0), (91, [33], [], 9999), (0, [32], [], 60), (0, [31], [], 0), (1, [30, 28, 29], [], 0), (0, [29], [], 2), (3, [28, 27, 3], [], 0), (0, [27], [], 6), (20, [26, 1], [10], 31), (23, [1], [10], 12), (0, [26], [], 305), (1220, [1, 25], [9, 10], 0), (0, [25], [], 36), (80, [17, 21, 24], [9, 8], 0), (23, [17], [8], 268), (1223, [24, 1, 22, 23], [7, 8], 0), (90, [24], [], 0), (91, [24], [], 9999), (0, [23], [], 400), (0, [22], [], 0), (1, [21, 19, 20], [], 0), (0, [20], [], 1), (3, [19, 18, 3], [], 0), (0, [18], [], 6), (20, [17, 1], [7], 31), (23, [1], [7], 12), (0, [17], [], 305), (1220, [1, 16], [6, 7], 0), (0, [16], [], 35), (80, [10, 12, 15], [6, 5], 0), (23, [10], [5], 268), (1223, [15, 1, 13, 14], [4, 5], 0), (90, [15], [], 0), (91, [15], [], 9999), (0, [14], [], 2), (0, [13], [], 0), (3, [12, 11, 3], [], 0), (0, [11], [], 6), (20, [10, 1], [4], 31), (23, [1], [4], 12), (0, [10], [], 305), (1220, [1, 9], [3, 4], 0), (0, [9], [], 34), (80, [5, 3, 8], [3, 2], 0), (23, [5], [2], 228), (1223, [8, 1, 6, 7], [1, 2], 0), (90, [8], [], 0), (91, [8], [], 9999), (0, [7], [], 2), (0, [6], [], 0), (20, [5, 1], [1], 26), (23, [1], [1], 12), (0, [5], [], 300), (0, [2], [], 2), (5000, [0, 1, 2, 3, 4], [0, 1], 180), (0, [0], [], 285), (0, [1], [], 285), (90, [2], [], 0), (91, [2], [], 5), (90, [3], [], 0), (91, [3], [], 1007), (90, [4], [], 1), (91, [4], [], 1)], (4000, [1, 2, 3, 4], [12], 567))
theorem c_227y_180_6 {q0 : Nat} : vOkm T0 (eN e_227w L_227y (eAB A_227 B_227) mu_227 y_227 By_227 (some q0)) 1 g_227y_180_6 := vOk_inI fun ρ η f0 f1 f2 f3 f4 f5 f6 f7 f8 f9 f10 f11 f12 f13 f14 f15 f16 f17 f18 f19 f20 f21 f22 f23 f24 f25 f26 f27 f28 f29 f30 f31 f32 f33 f34 f35 f36 f37 f38 f39 f40 f41 f42 f43 f44 f45 f46 f47 f48 f49 f50 f51 f52 f53 f54 f55 f56 f57 f58 f59 f60 f61 f62 f63 f64 f65 => q_227y_20 (q0 := q0) (n0 := ρ 4) (n1 := ρ 3) (n2 := ρ 2) (n3 := ρ 1) (n4 := ρ 0) (n5 := ρ 5) (n6 := ρ 6) (n7 := ρ 7) (n8 := ρ 8) (n9 := ρ 9) (n10 := ρ 10) (n11 := ρ 11) (n12 := ρ 12) (n13 := ρ 13) (n14 := ρ 14) (n15 := ρ 15) (n16 := ρ 16) (n17 := ρ 17) (n18 := ρ 18) (n19 := ρ 19) (n20 := ρ 20) (n21 := ρ 21) (n22 := ρ 22) (n23 := ρ 23) (n24 := ρ 24) (n25 := ρ 25) (n26 := ρ 26) (n27 := ρ 27) (n28 := ρ 28) (n29 := ρ 29) (n30 := ρ 30) (n31 := ρ 31) (n32 := ρ 32) (n33 := ρ 33) (H0 := η 0) (H1 := η 1) (H2 := η 2) (H3 := η 3) (H4 := η 4) (H5 := η 5) (H6 := η 6) (H7 := η 7) (H8 := η 8) (H9 := η 9) (H10 := η 10) (H11 := η 11) (H12 := η 12) f65 f64 f63 f62 f61 f60 f59 f58 f57 f56 f55 f54 f53 f52 f51 f50 f49 f48 f47 f46 f45 f44 f43 f42 f41 f40 f39 f38 f37 f36 f35 f34 f33 f32 f31 f30 f29 f28 f27 f26 f25 f24 f23 f22 f21 f20 f19 f18 f17 f16 f15 f14 f13 f12 f11 f10 f9 f8 f7 f6 f5 f4 f3 f2 f1 f0
theorem q_227y_21 {q0 : Nat} {n0 n1 n2 n3 n4 : Int} {H0 H1 H2 : gH} (f0 : n0 ≤ 1) (f1 : 1 ≤ n0) (f2 : n1 ≤ 1007) (f3 : 0 ≤ n1) (f4 : n2 ≤ 5) (f5 : 0 ≤ n2) (f6 : n3 = 285) (f7 : n4 = 285) (f8 : (hLe T0 H0 H1 ∧ hFr s_227.2.2.2.2 H0 H1 ∧ hWt T0 H1) ∧ (((Ab_227_180 n4 n3 n2 n1 n0 H0 H1 ∧ Bb_227_180 n4 n3 n2 n1 n0 H0 H1) ∧ Byb_227_180 n4 n3 n2 n1 n0 H0 H1) ∧ preb_227 n4 H0) ∧ some q0 = some (mub_227_180 n4 n3 n2 n1 n0 H0 H1)) (f9 : n2 = 3) (f10 : (hLe T0 H1 H2 ∧ hFr s_230.2.2.2.2 H1 H2 ∧ ((0 : Int) = 0 → H2.length = H1.length) ∧ hWt T0 H2) ∧ ((postb_230 n3 n1 H1 H2 ∧ nb_230 n3 n1 H1 H2) ∧ yb_230 n3 n1 H1 H2)) : Byb_227_567 n4 n3 n2 n1 n0 H0 H2 := by
  unfold Byb_227_567
  intro z zr
  have ga := f8.2.1.1.1.2
  unfold Bb_227_180 at ga
  obtain ⟨z1, a1, pm, ps, k0, k5, kd, h16⟩ := ga z zr
  have vz : vwR H1 = vwR H0 := vwR_fr f8.1.2.1 (by decide +kernel)
  have gy := f8.2.1.1.2
  unfold Byb_227_180 at gy
  obtain ⟨y2, yc, y298, y299, y301, y303⟩ := gy z zr
  have xc := f9
  have rg0 := f0
  have rg1 := f1
  have rg2 := f2
  have rg3 := f3
  have rg4 := f4
  have rg5 := f5
  have ke : 20 + n2 = 23 := by omega
  rw [ke] at a1 kd
  have y298 : hV H1 298 (n1).toNat = 3 := by omega
  have c0 := f10.2.1.2 z1
  rw [vz, a1] at c0
  have v0 : vwR H2 = vwR H0 := (vwR_fr f10.1.2.1 (by decide +kernel)).trans vz
  have tl := f10.2.2
  unfold yb_230 at tl
  have tl := tl z1
  rw [vz, a1] at tl
  obtain ⟨l1, l2, l3, l4, l5, l6, l7, l8⟩ := tl
  refine ⟨y2, CRo_tr yc l1, fun hf => ?_⟩
  rw [recR_x (k := 3) (by rw [l2]; exact y298) (by decide) (by decide), cuT_x kd (by decide) (by decide), l8 hf, l3, y299, l4, y301, l6, y303]
  rfl
def g_227y_180_7 : vG := ([(1230, [1, 3], [1, 2], 0), (0, [2], [], 3), (5000, [0, 1, 2, 3, 4], [0, 1], 180), (0, [0], [], 285), (0, [1], [], 285), (90, [2], [], 0), (91, [2], [], 5), (90, [3], [], 0), (91, [3], [], 1007), (90, [4], [], 1), (91, [4], [], 1)], (4000, [1, 2, 3, 4], [2], 567))
theorem c_227y_180_7 {q0 : Nat} : vOkm T0 (eN e_227w L_227y (eAB A_227 B_227) mu_227 y_227 By_227 (some q0)) 1 g_227y_180_7 := vOk_inI fun ρ η f0 f1 f2 f3 f4 f5 f6 f7 f8 f9 f10 => q_227y_21 (q0 := q0) (n0 := ρ 4) (n1 := ρ 3) (n2 := ρ 2) (n3 := ρ 1) (n4 := ρ 0) (H0 := η 0) (H1 := η 1) (H2 := η 2) f10 f9 f8 f7 f6 f5 f4 f3 f2 f1 f0
theorem q_227y_22 {q0 : Nat} {n0 n1 n2 n3 n4 n5 n6 n7 n8 : Int} {H0 H1 H2 H3 : gH} (f0 : n0 ≤ 1) (f1 : 1 ≤ n0) (f2 : n1 ≤ 1007) (f3 : 0 ≤ n1) (f4 : n2 ≤ 5) (f5 : 0 ≤ n2) (f6 : n3 = 285) (f7 : n4 = 285) (f8 : (hLe T0 H0 H1 ∧ hFr s_227.2.2.2.2 H0 H1 ∧ hWt T0 H1) ∧ (((Ab_227_180 n4 n3 n2 n1 n0 H0 H1 ∧ Bb_227_180 n4 n3 n2 n1 n0 H0 H1) ∧ Byb_227_180 n4 n3 n2 n1 n0 H0 H1) ∧ preb_227 n4 H0) ∧ some q0 = some (mub_227_180 n4 n3 n2 n1 n0 H0 H1)) (f9 : n2 = 4) (f10 : n5 = 300) (f11 : hK H1 (n3).toNat = 12) (f12 : n5 = hV H1 (n3).toNat 26) (f13 : n6 = 0) (f14 : n7 = 9999) (f15 : n8 ≤ 9999) (f16 : 0 ≤ n8) (f17 : (hLe T0 H1 H2 ∧ hFr s_223.2.2.2.2 H1 H2 ∧ ((0 : Int) = 0 → H2.length = H1.length) ∧ hWt T0 H2) ∧ ((postb_223 n8 n3 n6 n7 H1 H2 ∧ nb_223 n8 n3 n6 n7 H1 H2) ∧ yb_223 n8 n3 n6 n7 H1 H2)) (f18 : hK H2 (n5).toNat = 228) (f19 : hUpd H3 H2 n5 n1 n8) : Byb_227_567 n4 n3 n2 n1 n0 H0 H3 := by
  unfold Byb_227_567
  intro z zr
  have ga := f8.2.1.1.1.2
  unfold Bb_227_180 at ga
  obtain ⟨z1, a1, pm, ps, k0, k5, kd, h16⟩ := ga z zr
  have vz : vwR H1 = vwR H0 := vwR_fr f8.1.2.1 (by decide +kernel)
  have gy := f8.2.1.1.2
  unfold Byb_227_180 at gy
  obtain ⟨y2, yc, y298, y299, y301, y303⟩ := gy z zr
  have xc := f9
  have rg0 := f0
  have rg1 := f1
  have rg2 := f2
  have rg3 := f3
  have rg4 := f4
  have rg5 := f5
  have ke : 20 + n2 = 24 := by omega
  rw [ke] at a1 kd
  have y298 : hV H1 298 (n1).toNat = 4 := by omega
  have c0 := f17.2.1.2 z1
  try rw [f13] at c0
  try rw [f14] at c0
  rw [vz, a1] at c0
  have v0 : vwR H2 = vwR H0 := (vwR_fr f17.1.2.1 (by decide +kernel)).trans vz
  have p1 := PR_row (q := 300) f19 f10 (by decide) c0.1
  have v1 : vwR H3 = vwR H0 := p1.2.1.trans v0
  have ah1 : absR H3 = (pnm (vwR H0) 0 9999 (ptk (vwR H0) 24 (absR H0))) := p1.1.trans c0.2
  have cu : CRo H1 H3 n1 := (CRo_tr (CRo_8 (CR8_fr f17.1.2.1 (by decide +kernel))) (CRo_up f19 rfl (by rw [f10]; decide)))
  refine ⟨y2, CRo_tr yc cu, fun hf => ?_⟩
  have hzH2 := fzR c0.1 p1.2.2.1 c0.2 ah1 (fun _ _ => rfl) hf
  have hzH1 := fzR z1 c0.1 a1 c0.2 (fun n k => pnm_neg n k) hzH2.1
  have tv17 := f17.2.2
  unfold yb_223 at tv17
  have tv17 := tv17 z1 hzH2.1
  rw [vz, a1] at tv17
  have r298 := ((congrFun (uRowNe f19 298 (by rw [f10]; decide)) _).trans (congrFun (fRow f17.1.2.1 298 (by decide +kernel)) _)).trans y298
  have r299 := ((congrFun (uRowNe f19 299 (by rw [f10]; decide)) _).trans (congrFun (fRow f17.1.2.1 299 (by decide +kernel)) _)).trans y299
  have r300 := ((congrFun (uRowQ f19 300 f10) _).trans (by rw [uF_at, if_pos (Int.toNat_of_nonneg (by omega))])).trans tv17
  have r301 := ((congrFun (uRowNe f19 301 (by rw [f10]; decide)) _).trans (congrFun (fRow f17.1.2.1 301 (by decide +kernel)) _)).trans y301
  have r303 := ((congrFun (uRowNe f19 303 (by rw [f10]; decide)) _).trans (congrFun (fRow f17.1.2.1 303 (by decide +kernel)) _)).trans y303
  rw [recR_x (k := 4) r298 (by decide) (by decide), cuT_x kd (by decide) (by decide), r299, r300, r301, r303]
  rfl
def g_227y_180_8 : vG := ([(80, [5, 3, 8], [3, 2], 0), (23, [5], [2], 228), (1223, [8, 1, 6, 7], [1, 2], 0), (90, [8], [], 0), (91, [8], [], 9999), (0, [7], [], 9999), (0, [6], [], 0), (20, [5, 1], [1], 26), (23, [1], [1], 12), (0, [5], [], 300), (0, [2], [], 4), (5000, [0, 1, 2, 3, 4], [0, 1], 180), (0, [0], [], 285), (0, [1], [], 285), (90, [2], [], 0), (91, [2], [], 5), (90, [3], [], 0), (91, [3], [], 1007), (90, [4], [], 1), (91, [4], [], 1)], (4000, [1, 2, 3, 4], [3], 567))
theorem c_227y_180_8 {q0 : Nat} : vOkm T0 (eN e_227w L_227y (eAB A_227 B_227) mu_227 y_227 By_227 (some q0)) 1 g_227y_180_8 := vOk_inI fun ρ η f0 f1 f2 f3 f4 f5 f6 f7 f8 f9 f10 f11 f12 f13 f14 f15 f16 f17 f18 f19 => q_227y_22 (q0 := q0) (n0 := ρ 4) (n1 := ρ 3) (n2 := ρ 2) (n3 := ρ 1) (n4 := ρ 0) (n5 := ρ 5) (n6 := ρ 6) (n7 := ρ 7) (n8 := ρ 8) (H0 := η 0) (H1 := η 1) (H2 := η 2) (H3 := η 3) f19 f18 f17 f16 f15 f14 f13 f12 f11 f10 f9 f8 f7 f6 f5 f4 f3 f2 f1 f0
def p_227y_180 : List vG := [g_227y_180_0,
  g_227y_180_1,
  g_227y_180_2,
  g_227y_180_3,
  g_227y_180_4,
  g_227y_180_5,
  g_227y_180_6,
  g_227y_180_7,
  g_227y_180_8]
theorem r_227y_180 : vCovBO (eRc e_227w L_227w cs_227 2000 (180, [(0, (3, 12, 285, 0)), (1, (0, 0, 5, 0)), (2, (0, 0, 1007, 0)), (3, (0, 1, 1, 0))])) p_227y_180 = true := by decide +kernel
theorem q_227y_23 {q0 : Nat} {n0 n1 n2 n3 n4 n5 n6 n7 n8 n9 n10 n11 n12 n13 n14 n15 n16 n17 n18 n19 n20 : Int} {H0 H1 : gH} (f0 : n0 ≤ 5) (f1 : (-1) ≤ n0) (f2 : n1 ≤ 500) (f3 : 0 ≤ n1) (f4 : n2 ≤ 1) (f5 : 1 ≤ n2) (f6 : n3 ≤ 1007) (f7 : 0 ≤ n3) (f8 : n4 ≤ 5) (f9 : 0 ≤ n4) (f10 : n5 = 285) (f11 : n6 = 285) (f12 : (hLe T0 H0 H1 ∧ hFr s_227.2.2.2.2 H0 H1 ∧ hWt T0 H1) ∧ (((Ab_227_471 n6 n5 n4 n3 n2 n1 n0 H0 H1 ∧ Bb_227_471 n6 n5 n4 n3 n2 n1 n0 H0 H1) ∧ Byb_227_471 n6 n5 n4 n3 n2 n1 n0 H0 H1) ∧ preb_227 n6 H0) ∧ some q0 = some (mub_227_471 n6 n5 n4 n3 n2 n1 n0 H0 H1)) (f13 : n0 < 0) (f14 : n7 = 300) (f15 : hK H1 (n5).toNat = 12) (f16 : n7 = hV H1 (n5).toNat 26) (f17 : n8 ≤ 9999) (f18 : (-1) ≤ n8) (f19 : n8 = hV H1 (n7).toNat (n3).toNat) (f20 : n9 = (-1)) (f21 : n8 ≠ n9) (f22 : n10 = 300) (f23 : hK H1 (n5).toNat = 12) (f24 : n10 = hV H1 (n5).toNat 26) (f25 : n11 ≤ 9999) (f26 : (-1) ≤ n11) (f27 : n11 = hV H1 (n10).toNat (n3).toNat) (f28 : n12 = (-1)) (f29 : n11 ≠ n12) (f30 : n13 = 297) (f31 : hK H1 (n5).toNat = 12) (f32 : n13 = hV H1 (n5).toNat 23) (f33 : n14 = 7) (f34 : n15 ≤ 7) (f35 : 0 ≤ n15) (f36 : hK H1 (n5).toNat = 12) (f37 : n15 = hV H1 (n5).toNat 32) (f38 : n16 = w32 (n14 * n15)) (f39 : n17 = 300) (f40 : hK H1 (n5).toNat = 12) (f41 : n17 = hV H1 (n5).toNat 26) (f42 : n18 ≤ 9999) (f43 : (-1) ≤ n18) (f44 : n18 = hV H1 (n17).toNat (n3).toNat) (f45 : n19 = w32 (n16 + n18)) (f46 : n20 ≤ 2000) (f47 : 0 ≤ n20) (f48 : n20 = hV H1 (n13).toNat (n19).toNat) : Byb_227_567 n6 n5 n4 n3 n20 H0 H1 := by
  unfold Byb_227_567
  intro z zr
  have ga := f12.2.1.1.1.2
  unfold Bb_227_471 at ga
  obtain ⟨z1, a1, pm, ps, kd, h16, f0_, t4, k4, uq, t0, tl, xl, xh, sr⟩ := ga z zr
  have vz : vwR H1 = vwR H0 := vwR_fr f12.1.2.1 (by decide +kernel)
  have gy := f12.2.1.1.2
  unfold Byb_227_471 at gy
  obtain ⟨y2, yc, y298, y299, y301, y302, y303, yp⟩ := gy z zr
  have q13 := f13
  have q21 := f21
  have qc20 := f20
  have q29 := f29
  have qc28 := f28
  have d19 := rdW (q := 300) f19 f14
  have d27 := rdW (q := 300) f27 f22
  have d37 := rdS (q := 285) f37 f10
  have d44 := rdW (q := 300) f44 f39
  have d48 := rdW (q := 297) f48 f30
  have f32_ : hV H1 285 32 = hV H0 285 32 := f12.1.2.1.1 285 32 (by decide +kernel)
  have rg0 := f0
  have rg1 := f1
  have rg6 := f6
  have rg7 := f7
  have rg17 := f17
  have rg18 := f18
  have rg25 := f25
  have rg26 := f26
  have rg34 := f34
  have rg35 := f35
  have rg42 := f42
  have rg43 := f43
  have rg46 := f46
  have rg47 := f47
  have se := SPi_end yp (by omega)
  refine ⟨y2, yc, fun hf => ?_⟩
  rw [recR_use y298, cuT_25 kd, (show hV H1 299 (n3).toNat = _ from y299), (show hV H1 300 (n3).toNat = hV H1 300 (n3).toNat from rfl), se, (show hV H1 301 (n3).toNat = _ from y301), (show hV H1 302 (n3).toNat = _ from y302), (show hV H1 303 (n3).toNat = _ from y303)]
def g_227y_471_0 : vG := ([(22, [20, 13, 19], [1], 0), (90, [20], [], 0), (91, [20], [], 2000), (1, [19, 16, 18], [], 0), (22, [18, 17, 3], [1], 0), (90, [18], [], -1), (91, [18], [], 9999), (20, [17, 1], [1], 26), (23, [1], [1], 12), (0, [17], [], 300), (3, [16, 14, 15], [], 0), (20, [15, 1], [1], 32), (23, [1], [1], 12), (90, [15], [], 0), (91, [15], [], 7), (0, [14], [], 7), (20, [13, 1], [1], 23), (23, [1], [1], 12), (0, [13], [], 297), (41, [11, 12], [], 0), (0, [12], [], -1), (22, [11, 10, 3], [1], 0), (90, [11], [], -1), (91, [11], [], 9999), (20, [10, 1], [1], 26), (23, [1], [1], 12), (0, [10], [], 300), (41, [8, 9], [], 0), (0, [9], [], -1), (22, [8, 7, 3], [1], 0), (90, [8], [], -1), (91, [8], [], 9999), (20, [7, 1], [1], 26), (23, [1], [1], 12), (0, [7], [], 300), (32, [6], [], 0), (5000, [0, 1, 2, 3, 4, 5, 6], [0, 1], 471), (0, [0], [], 285), (0, [1], [], 285), (90, [2], [], 0), (91, [2], [], 5), (90, [3], [], 0), (91, [3], [], 1007), (90, [4], [], 1), (91, [4], [], 1), (90, [5], [], 0), (91, [5], [], 500), (90, [6], [], -1), (91, [6], [], 5)], (4000, [1, 2, 3, 20], [1], 567))
theorem c_227y_471_0 {q0 : Nat} : vOkm T0 (eN e_227w L_227y (eAB A_227 B_227) mu_227 y_227 By_227 (some q0)) 1 g_227y_471_0 := vOk_inI fun ρ η f0 f1 f2 f3 f4 f5 f6 f7 f8 f9 f10 f11 f12 f13 f14 f15 f16 f17 f18 f19 f20 f21 f22 f23 f24 f25 f26 f27 f28 f29 f30 f31 f32 f33 f34 f35 f36 f37 f38 f39 f40 f41 f42 f43 f44 f45 f46 f47 f48 => q_227y_23 (q0 := q0) (n0 := ρ 6) (n1 := ρ 5) (n2 := ρ 4) (n3 := ρ 3) (n4 := ρ 2) (n5 := ρ 1) (n6 := ρ 0) (n7 := ρ 7) (n8 := ρ 8) (n9 := ρ 9) (n10 := ρ 10) (n11 := ρ 11) (n12 := ρ 12) (n13 := ρ 13) (n14 := ρ 14) (n15 := ρ 15) (n16 := ρ 16) (n17 := ρ 17) (n18 := ρ 18) (n19 := ρ 19) (n20 := ρ 20) (H0 := η 0) (H1 := η 1) f48 f47 f46 f45 f44 f43 f42 f41 f40 f39 f38 f37 f36 f35 f34 f33 f32 f31 f30 f29 f28 f27 f26 f25 f24 f23 f22 f21 f20 f19 f18 f17 f16 f15 f14 f13 f12 f11 f10 f9 f8 f7 f6 f5 f4 f3 f2 f1 f0
theorem q_227y_24 {q0 : Nat} {n0 n1 n2 n3 n4 n5 n6 n7 n8 n9 n10 n11 n12 n13 : Int} {H0 H1 : gH} (f0 : n0 ≤ 5) (f1 : (-1) ≤ n0) (f2 : n1 ≤ 500) (f3 : 0 ≤ n1) (f4 : n2 ≤ 1) (f5 : 1 ≤ n2) (f6 : n3 ≤ 1007) (f7 : 0 ≤ n3) (f8 : n4 ≤ 5) (f9 : 0 ≤ n4) (f10 : n5 = 285) (f11 : n6 = 285) (f12 : (hLe T0 H0 H1 ∧ hFr s_227.2.2.2.2 H0 H1 ∧ hWt T0 H1) ∧ (((Ab_227_471 n6 n5 n4 n3 n2 n1 n0 H0 H1 ∧ Bb_227_471 n6 n5 n4 n3 n2 n1 n0 H0 H1) ∧ Byb_227_471 n6 n5 n4 n3 n2 n1 n0 H0 H1) ∧ preb_227 n6 H0) ∧ some q0 = some (mub_227_471 n6 n5 n4 n3 n2 n1 n0 H0 H1)) (f13 : n0 < 0) (f14 : n7 = 300) (f15 : hK H1 (n5).toNat = 12) (f16 : n7 = hV H1 (n5).toNat 26) (f17 : n8 ≤ 9999) (f18 : (-1) ≤ n8) (f19 : n8 = hV H1 (n7).toNat (n3).toNat) (f20 : n9 = (-1)) (f21 : n8 ≠ n9) (f22 : n10 = 300) (f23 : hK H1 (n5).toNat = 12) (f24 : n10 = hV H1 (n5).toNat 26) (f25 : n11 ≤ 9999) (f26 : (-1) ≤ n11) (f27 : n11 = hV H1 (n10).toNat (n3).toNat) (f28 : n12 = (-1)) (f29 : n11 = n12) (f30 : n13 = 0) : Byb_227_567 n6 n5 n4 n3 n13 H0 H1 := by
  unfold Byb_227_567
  intro z zr
  have ga := f12.2.1.1.1.2
  unfold Bb_227_471 at ga
  obtain ⟨z1, a1, pm, ps, kd, h16, f0_, t4, k4, uq, t0, tl, xl, xh, sr⟩ := ga z zr
  have vz : vwR H1 = vwR H0 := vwR_fr f12.1.2.1 (by decide +kernel)
  have gy := f12.2.1.1.2
  unfold Byb_227_471 at gy
  obtain ⟨y2, yc, y298, y299, y301, y302, y303, yp⟩ := gy z zr
  have q13 := f13
  have q21 := f21
  have qc20 := f20
  have q29 := f29
  have qc28 := f28
  have d19 := rdW (q := 300) f19 f14
  have d27 := rdW (q := 300) f27 f22
  have f32_ : hV H1 285 32 = hV H0 285 32 := f12.1.2.1.1 285 32 (by decide +kernel)
  have rg0 := f0
  have rg1 := f1
  have rg6 := f6
  have rg7 := f7
  have rg17 := f17
  have rg18 := f18
  have rg25 := f25
  have rg26 := f26
  have se := SPi_end yp (by omega)
  refine ⟨y2, yc, fun hf => ?_⟩
  rw [recR_use y298, cuT_25 kd, (show hV H1 299 (n3).toNat = _ from y299), (show hV H1 300 (n3).toNat = hV H1 300 (n3).toNat from rfl), se, (show hV H1 301 (n3).toNat = _ from y301), (show hV H1 302 (n3).toNat = _ from y302), (show hV H1 303 (n3).toNat = _ from y303)]
def g_227y_471_1 : vG := ([(0, [13], [], 0), (40, [11, 12], [], 0), (0, [12], [], -1), (22, [11, 10, 3], [1], 0), (90, [11], [], -1), (91, [11], [], 9999), (20, [10, 1], [1], 26), (23, [1], [1], 12), (0, [10], [], 300), (41, [8, 9], [], 0), (0, [9], [], -1), (22, [8, 7, 3], [1], 0), (90, [8], [], -1), (91, [8], [], 9999), (20, [7, 1], [1], 26), (23, [1], [1], 12), (0, [7], [], 300), (32, [6], [], 0), (5000, [0, 1, 2, 3, 4, 5, 6], [0, 1], 471), (0, [0], [], 285), (0, [1], [], 285), (90, [2], [], 0), (91, [2], [], 5), (90, [3], [], 0), (91, [3], [], 1007), (90, [4], [], 1), (91, [4], [], 1), (90, [5], [], 0), (91, [5], [], 500), (90, [6], [], -1), (91, [6], [], 5)], (4000, [1, 2, 3, 13], [1], 567))
theorem c_227y_471_1 {q0 : Nat} : vOkm T0 (eN e_227w L_227y (eAB A_227 B_227) mu_227 y_227 By_227 (some q0)) 1 g_227y_471_1 := vOk_inI fun ρ η f0 f1 f2 f3 f4 f5 f6 f7 f8 f9 f10 f11 f12 f13 f14 f15 f16 f17 f18 f19 f20 f21 f22 f23 f24 f25 f26 f27 f28 f29 f30 => q_227y_24 (q0 := q0) (n0 := ρ 6) (n1 := ρ 5) (n2 := ρ 4) (n3 := ρ 3) (n4 := ρ 2) (n5 := ρ 1) (n6 := ρ 0) (n7 := ρ 7) (n8 := ρ 8) (n9 := ρ 9) (n10 := ρ 10) (n11 := ρ 11) (n12 := ρ 12) (n13 := ρ 13) (H0 := η 0) (H1 := η 1) f30 f29 f28 f27 f26 f25 f24 f23 f22 f21 f20 f19 f18 f17 f16 f15 f14 f13 f12 f11 f10 f9 f8 f7 f6 f5 f4 f3 f2 f1 f0
theorem q_227y_25 {q0 : Nat} {n0 n1 n2 n3 n4 n5 n6 n7 n8 n9 n10 n11 n12 n13 n14 n15 n16 n17 n18 n19 n20 n21 : Int} {H0 H1 H2 : gH} (f0 : n0 ≤ 5) (f1 : (-1) ≤ n0) (f2 : n1 ≤ 500) (f3 : 0 ≤ n1) (f4 : n2 ≤ 1) (f5 : 1 ≤ n2) (f6 : n3 ≤ 1007) (f7 : 0 ≤ n3) (f8 : n4 ≤ 5) (f9 : 0 ≤ n4) (f10 : n5 = 285) (f11 : n6 = 285) (f12 : (hLe T0 H0 H1 ∧ hFr s_227.2.2.2.2 H0 H1 ∧ hWt T0 H1) ∧ (((Ab_227_471 n6 n5 n4 n3 n2 n1 n0 H0 H1 ∧ Bb_227_471 n6 n5 n4 n3 n2 n1 n0 H0 H1) ∧ Byb_227_471 n6 n5 n4 n3 n2 n1 n0 H0 H1) ∧ preb_227 n6 H0) ∧ some q0 = some (mub_227_471 n6 n5 n4 n3 n2 n1 n0 H0 H1)) (f13 : n0 < 0) (f14 : n7 = 300) (f15 : hK H1 (n5).toNat = 12) (f16 : n7 = hV H1 (n5).toNat 26) (f17 : n8 ≤ 9999) (f18 : (-1) ≤ n8) (f19 : n8 = hV H1 (n7).toNat (n3).toNat) (f20 : n9 = (-1)) (f21 : n8 = n9) (f22 : n10 = 4) (f23 : (hLe T0 H1 H2 ∧ hFr s_218.2.2.2.2 H1 H2 ∧ ((0 : Int) = 0 → H2.length = H1.length) ∧ hWt T0 H2) ∧ (postb_218 n5 n10 n1 H1 H2 ∧ nb_218 n5 n10 n1 H1 H2)) (f24 : n11 = 300) (f25 : hK H2 (n5).toNat = 12) (f26 : n11 = hV H2 (n5).toNat 26) (f27 : n12 ≤ 9999) (f28 : (-1) ≤ n12) (f29 : n12 = hV H2 (n11).toNat (n3).toNat) (f30 : n13 = (-1)) (f31 : n12 ≠ n13) (f32 : n14 = 297) (f33 : hK H2 (n5).toNat = 12) (f34 : n14 = hV H2 (n5).toNat 23) (f35 : n15 = 7) (f36 : n16 ≤ 7) (f37 : 0 ≤ n16) (f38 : hK H2 (n5).toNat = 12) (f39 : n16 = hV H2 (n5).toNat 32) (f40 : n17 = w32 (n15 * n16)) (f41 : n18 = 300) (f42 : hK H2 (n5).toNat = 12) (f43 : n18 = hV H2 (n5).toNat 26) (f44 : n19 ≤ 9999) (f45 : (-1) ≤ n19) (f46 : n19 = hV H2 (n18).toNat (n3).toNat) (f47 : n20 = w32 (n17 + n19)) (f48 : n21 ≤ 2000) (f49 : 0 ≤ n21) (f50 : n21 = hV H2 (n14).toNat (n20).toNat) : Byb_227_567 n6 n5 n4 n3 n21 H0 H2 := by
  unfold Byb_227_567
  intro z zr
  have ga := f12.2.1.1.1.2
  unfold Bb_227_471 at ga
  obtain ⟨z1, a1, pm, ps, kd, h16, f0_, t4, k4, uq, t0, tl, xl, xh, sr⟩ := ga z zr
  have vz : vwR H1 = vwR H0 := vwR_fr f12.1.2.1 (by decide +kernel)
  have gy := f12.2.1.1.2
  unfold Byb_227_471 at gy
  obtain ⟨y2, yc, y298, y299, y301, y302, y303, yp⟩ := gy z zr
  have q13 := f13
  have q21 := f21
  have qc20 := f20
  have q31 := f31
  have qc30 := f30
  have d19 := rdW (q := 300) f19 f14
  have d29 := rdW (q := 300) f29 f24
  have d39 := rdS (q := 285) f39 f10
  have d46 := rdW (q := 300) f46 f41
  have d50 := rdW (q := 297) f50 f32
  have f32_ : hV H1 285 32 = hV H0 285 32 := f12.1.2.1.1 285 32 (by decide +kernel)
  have rg0 := f0
  have rg1 := f1
  have rg6 := f6
  have rg7 := f7
  have rg17 := f17
  have rg18 := f18
  have rg27 := f27
  have rg28 := f28
  have rg36 := f36
  have rg37 := f37
  have rg44 := f44
  have rg45 := f45
  have rg48 := f48
  have rg49 := f49
  have se := SPi_end yp (by omega)
  refine ⟨y2, CRo_tr yc (CRo_8 (CR8_fr f23.1.2.1 (by decide +kernel))), fun hf => ?_⟩
  rw [recR_use ((congrFun (fRow f23.1.2.1 298 (by decide +kernel)) _).trans y298), cuT_25 kd, (show hV H2 299 (n3).toNat = _ from (congrFun (fRow f23.1.2.1 299 (by decide +kernel)) _).trans y299), (show hV H2 300 (n3).toNat = hV H1 300 (n3).toNat from congrFun (fRow f23.1.2.1 300 (by decide +kernel)) _), se, (show hV H2 301 (n3).toNat = _ from (congrFun (fRow f23.1.2.1 301 (by decide +kernel)) _).trans y301), (show hV H2 302 (n3).toNat = _ from (congrFun (fRow f23.1.2.1 302 (by decide +kernel)) _).trans y302), (show hV H2 303 (n3).toNat = _ from (congrFun (fRow f23.1.2.1 303 (by decide +kernel)) _).trans y303)]
def g_227y_471_2 : vG := ([(22, [21, 14, 20], [2], 0), (90, [21], [], 0), (91, [21], [], 2000), (1, [20, 17, 19], [], 0), (22, [19, 18, 3], [2], 0), (90, [19], [], -1), (91, [19], [], 9999), (20, [18, 1], [2], 26), (23, [1], [2], 12), (0, [18], [], 300), (3, [17, 15, 16], [], 0), (20, [16, 1], [2], 32), (23, [1], [2], 12), (90, [16], [], 0), (91, [16], [], 7), (0, [15], [], 7), (20, [14, 1], [2], 23), (23, [1], [2], 12), (0, [14], [], 297), (41, [12, 13], [], 0), (0, [13], [], -1), (22, [12, 11, 3], [2], 0), (90, [12], [], -1), (91, [12], [], 9999), (20, [11, 1], [2], 26), (23, [1], [2], 12), (0, [11], [], 300), (1218, [1, 10, 5], [1, 2], 0), (0, [10], [], 4), (40, [8, 9], [], 0), (0, [9], [], -1), (22, [8, 7, 3], [1], 0), (90, [8], [], -1), (91, [8], [], 9999), (20, [7, 1], [1], 26), (23, [1], [1], 12), (0, [7], [], 300), (32, [6], [], 0), (5000, [0, 1, 2, 3, 4, 5, 6], [0, 1], 471), (0, [0], [], 285), (0, [1], [], 285), (90, [2], [], 0), (91, [2], [], 5), (90, [3], [], 0), (91, [3], [], 1007), (90, [4], [], 1), (91, [4], [], 1), (90, [5], [], 0), (91, [5], [], 500), (90, [6], [], -1), (91, [6], [], 5)], (4000, [1, 2, 3, 21], [2], 567))
theorem c_227y_471_2 {q0 : Nat} : vOkm T0 (eN e_227w L_227y (eAB A_227 B_227) mu_227 y_227 By_227 (some q0)) 1 g_227y_471_2 := vOk_inI fun ρ η f0 f1 f2 f3 f4 f5 f6 f7 f8 f9 f10 f11 f12 f13 f14 f15 f16 f17 f18 f19 f20 f21 f22 f23 f24 f25 f26 f27 f28 f29 f30 f31 f32 f33 f34 f35 f36 f37 f38 f39 f40 f41 f42 f43 f44 f45 f46 f47 f48 f49 f50 => q_227y_25 (q0 := q0) (n0 := ρ 6) (n1 := ρ 5) (n2 := ρ 4) (n3 := ρ 3) (n4 := ρ 2) (n5 := ρ 1) (n6 := ρ 0) (n7 := ρ 7) (n8 := ρ 8) (n9 := ρ 9) (n10 := ρ 10) (n11 := ρ 11) (n12 := ρ 12) (n13 := ρ 13) (n14 := ρ 14) (n15 := ρ 15) (n16 := ρ 16) (n17 := ρ 17) (n18 := ρ 18) (n19 := ρ 19) (n20 := ρ 20) (n21 := ρ 21) (H0 := η 0) (H1 := η 1) (H2 := η 2) f50 f49 f48 f47 f46 f45 f44 f43 f42 f41 f40 f39 f38 f37 f36 f35 f34 f33 f32 f31 f30 f29 f28 f27 f26 f25 f24 f23 f22 f21 f20 f19 f18 f17 f16 f15 f14 f13 f12 f11 f10 f9 f8 f7 f6 f5 f4 f3 f2 f1 f0
theorem q_227y_26 {q0 : Nat} {n0 n1 n2 n3 n4 n5 n6 n7 n8 n9 n10 n11 n12 n13 n14 : Int} {H0 H1 H2 : gH} (f0 : n0 ≤ 5) (f1 : (-1) ≤ n0) (f2 : n1 ≤ 500) (f3 : 0 ≤ n1) (f4 : n2 ≤ 1) (f5 : 1 ≤ n2) (f6 : n3 ≤ 1007) (f7 : 0 ≤ n3) (f8 : n4 ≤ 5) (f9 : 0 ≤ n4) (f10 : n5 = 285) (f11 : n6 = 285) (f12 : (hLe T0 H0 H1 ∧ hFr s_227.2.2.2.2 H0 H1 ∧ hWt T0 H1) ∧ (((Ab_227_471 n6 n5 n4 n3 n2 n1 n0 H0 H1 ∧ Bb_227_471 n6 n5 n4 n3 n2 n1 n0 H0 H1) ∧ Byb_227_471 n6 n5 n4 n3 n2 n1 n0 H0 H1) ∧ preb_227 n6 H0) ∧ some q0 = some (mub_227_471 n6 n5 n4 n3 n2 n1 n0 H0 H1)) (f13 : n0 < 0) (f14 : n7 = 300) (f15 : hK H1 (n5).toNat = 12) (f16 : n7 = hV H1 (n5).toNat 26) (f17 : n8 ≤ 9999) (f18 : (-1) ≤ n8) (f19 : n8 = hV H1 (n7).toNat (n3).toNat) (f20 : n9 = (-1)) (f21 : n8 = n9) (f22 : n10 = 4) (f23 : (hLe T0 H1 H2 ∧ hFr s_218.2.2.2.2 H1 H2 ∧ ((0 : Int) = 0 → H2.length = H1.length) ∧ hWt T0 H2) ∧ (postb_218 n5 n10 n1 H1 H2 ∧ nb_218 n5 n10 n1 H1 H2)) (f24 : n11 = 300) (f25 : hK H2 (n5).toNat = 12) (f26 : n11 = hV H2 (n5).toNat 26) (f27 : n12 ≤ 9999) (f28 : (-1) ≤ n12) (f29 : n12 = hV H2 (n11).toNat (n3).toNat) (f30 : n13 = (-1)) (f31 : n12 = n13) (f32 : n14 = 0) : Byb_227_567 n6 n5 n4 n3 n14 H0 H2 := by
  unfold Byb_227_567
  intro z zr
  have ga := f12.2.1.1.1.2
  unfold Bb_227_471 at ga
  obtain ⟨z1, a1, pm, ps, kd, h16, f0_, t4, k4, uq, t0, tl, xl, xh, sr⟩ := ga z zr
  have vz : vwR H1 = vwR H0 := vwR_fr f12.1.2.1 (by decide +kernel)
  have gy := f12.2.1.1.2
  unfold Byb_227_471 at gy
  obtain ⟨y2, yc, y298, y299, y301, y302, y303, yp⟩ := gy z zr
  have q13 := f13
  have q21 := f21
  have qc20 := f20
  have q31 := f31
  have qc30 := f30
  have d19 := rdW (q := 300) f19 f14
  have d29 := rdW (q := 300) f29 f24
  have f32_ : hV H1 285 32 = hV H0 285 32 := f12.1.2.1.1 285 32 (by decide +kernel)
  have rg0 := f0
  have rg1 := f1
  have rg6 := f6
  have rg7 := f7
  have rg17 := f17
  have rg18 := f18
  have rg27 := f27
  have rg28 := f28
  have se := SPi_end yp (by omega)
  refine ⟨y2, CRo_tr yc (CRo_8 (CR8_fr f23.1.2.1 (by decide +kernel))), fun hf => ?_⟩
  rw [recR_use ((congrFun (fRow f23.1.2.1 298 (by decide +kernel)) _).trans y298), cuT_25 kd, (show hV H2 299 (n3).toNat = _ from (congrFun (fRow f23.1.2.1 299 (by decide +kernel)) _).trans y299), (show hV H2 300 (n3).toNat = hV H1 300 (n3).toNat from congrFun (fRow f23.1.2.1 300 (by decide +kernel)) _), se, (show hV H2 301 (n3).toNat = _ from (congrFun (fRow f23.1.2.1 301 (by decide +kernel)) _).trans y301), (show hV H2 302 (n3).toNat = _ from (congrFun (fRow f23.1.2.1 302 (by decide +kernel)) _).trans y302), (show hV H2 303 (n3).toNat = _ from (congrFun (fRow f23.1.2.1 303 (by decide +kernel)) _).trans y303)]
def g_227y_471_3 : vG := ([(0, [14], [], 0), (40, [12, 13], [], 0), (0, [13], [], -1), (22, [12, 11, 3], [2], 0), (90, [12], [], -1), (91, [12], [], 9999), (20, [11, 1], [2], 26), (23, [1], [2], 12), (0, [11], [], 300), (1218, [1, 10, 5], [1, 2], 0), (0, [10], [], 4), (40, [8, 9], [], 0), (0, [9], [], -1), (22, [8, 7, 3], [1], 0), (90, [8], [], -1), (91, [8], [], 9999), (20, [7, 1], [1], 26), (23, [1], [1], 12), (0, [7], [], 300), (32, [6], [], 0), (5000, [0, 1, 2, 3, 4, 5, 6], [0, 1], 471), (0, [0], [], 285), (0, [1], [], 285), (90, [2], [], 0), (91, [2], [], 5), (90, [3], [], 0), (91, [3], [], 1007), (90, [4], [], 1), (91, [4], [], 1), (90, [5], [], 0), (91, [5], [], 500), (90, [6], [], -1), (91, [6], [], 5)], (4000, [1, 2, 3, 14], [2], 567))
theorem c_227y_471_3 {q0 : Nat} : vOkm T0 (eN e_227w L_227y (eAB A_227 B_227) mu_227 y_227 By_227 (some q0)) 1 g_227y_471_3 := vOk_inI fun ρ η f0 f1 f2 f3 f4 f5 f6 f7 f8 f9 f10 f11 f12 f13 f14 f15 f16 f17 f18 f19 f20 f21 f22 f23 f24 f25 f26 f27 f28 f29 f30 f31 f32 => q_227y_26 (q0 := q0) (n0 := ρ 6) (n1 := ρ 5) (n2 := ρ 4) (n3 := ρ 3) (n4 := ρ 2) (n5 := ρ 1) (n6 := ρ 0) (n7 := ρ 7) (n8 := ρ 8) (n9 := ρ 9) (n10 := ρ 10) (n11 := ρ 11) (n12 := ρ 12) (n13 := ρ 13) (n14 := ρ 14) (H0 := η 0) (H1 := η 1) (H2 := η 2) f32 f31 f30 f29 f28 f27 f26 f25 f24 f23 f22 f21 f20 f19 f18 f17 f16 f15 f14 f13 f12 f11 f10 f9 f8 f7 f6 f5 f4 f3 f2 f1 f0
theorem q_227y_27 {q0 : Nat} {n0 n1 n2 n3 n4 n5 n6 n7 n8 n9 n10 n11 n12 n13 n14 n15 n16 : Int} {H0 H1 : gH} (f0 : n0 ≤ 5) (f1 : (-1) ≤ n0) (f2 : n1 ≤ 500) (f3 : 0 ≤ n1) (f4 : n2 ≤ 1) (f5 : 1 ≤ n2) (f6 : n3 ≤ 1007) (f7 : 0 ≤ n3) (f8 : n4 ≤ 5) (f9 : 0 ≤ n4) (f10 : n5 = 285) (f11 : n6 = 285) (f12 : (hLe T0 H0 H1 ∧ hFr s_227.2.2.2.2 H0 H1 ∧ hWt T0 H1) ∧ (((Ab_227_471 n6 n5 n4 n3 n2 n1 n0 H0 H1 ∧ Bb_227_471 n6 n5 n4 n3 n2 n1 n0 H0 H1) ∧ Byb_227_471 n6 n5 n4 n3 n2 n1 n0 H0 H1) ∧ preb_227 n6 H0) ∧ some q0 = some (mub_227_471 n6 n5 n4 n3 n2 n1 n0 H0 H1)) (f13 : 0 ≤ n0) (f14 : n7 = 295) (f15 : hK H1 (n5).toNat = 12) (f16 : n7 = hV H1 (n5).toNat 21) (f17 : n8 = 6) (f18 : n9 ≤ 7) (f19 : 0 ≤ n9) (f20 : hK H1 (n5).toNat = 12) (f21 : n9 = hV H1 (n5).toNat 32) (f22 : n10 = w32 (n8 * n9)) (f23 : n11 = w32 (n10 + n0)) (f24 : n12 = hV H1 (n7).toNat (n11).toNat) (f25 : n13 = 291) (f26 : hK H1 (n5).toNat = 12) (f27 : n13 = hV H1 (n5).toNat 8) (f28 : n14 = hV H1 (n13).toNat (n1).toNat) (f29 : n15 = (lg_cmp (Int64.ofInt n12) (Int64.ofInt n14)).toInt) (f30 : n15 ≠ 0) (f31 : n16 = w32 (n0 + (-1))) : Byb_227_471 n6 n5 n4 n3 n2 n1 n16 H0 H1 := by
  unfold Byb_227_471
  intro z zr
  have ga := f12.2.1.1.1.2
  unfold Bb_227_471 at ga
  obtain ⟨z1, a1, pm, ps, kd, h16, f0_, t4, k4, uq, t0, tl, xl, xh, sr⟩ := ga z zr
  have vz : vwR H1 = vwR H0 := vwR_fr f12.1.2.1 (by decide +kernel)
  have gy := f12.2.1.1.2
  unfold Byb_227_471 at gy
  obtain ⟨y2, yc, y298, y299, y301, y302, y303, yp⟩ := gy z zr
  have q13 := f13
  have q30 := f30
  have q31 := f31
  unfold w32 at q31
  have d21 := rdS (q := 285) f21 f10
  have d24 := rdW (q := 295) f24 f14
  have d28 := rdW (q := 291) f28 f25
  have f32_ : hV H1 285 32 = hV H0 285 32 := f12.1.2.1.1 285 32 (by decide +kernel)
  have rg0 := f0
  have rg1 := f1
  have rg6 := f6
  have rg7 := f7
  have rg18 := f18
  have rg19 := f19
  have bn0 : hV H1 295 = hV H0 295 := fRow f12.1.2.1 295 (by decide +kernel)
  have s22 : n10 = 6 * n9 := by
    have q := f22
    rw [f17] at q
    rw [q]
    exact w32_id (by omega) (by omega)
  have s23 : n11 = n10 + n0 := by
    have q := f23
    rw [q]
    exact w32_id (by omega) (by omega)
  have s31 : n16 = n0 + (-1) := by
    have q := f31
    rw [q]
    exact w32_id (by omega) (by omega)
  have nz : hV H1 291 (n1).toNat = (vwR H0).2.2.1 (ptk (vwR H0) 25 (absR H0)).1 := by
    rw [← t4, ← vz]
    show _ = if kR H1 n1 = 1 then _ else _
    have ok : okR H1 n1 := ⟨t0, by have := z1.2.2.1; omega, by have := z1.2.2.2.2.2.2.2.2.2.1 f0_; omega⟩
    unfold kR
    rw [if_pos ok, if_pos k4]
  have nb := (z1.1.2.2.2 (n1).toNat (by have := z1.2.2.2.2.2.2.2.2.2.1 f0_; omega)).2.2.2 k4
  have e32 := d21
  rw [f32_] at e32
  have hpe := absR_pos z1 f0_
  have hq := hpe.2
  rw [a1] at hq
  have fz0 := faultR_no z (pb_tk z (pb_trans (pb_tk z (c := 2)) (pb_tk z (c := 26)) (pb_time z hq).1).1).1
  clear hq hpe
  have ix : (n11).toNat = (6 * hV H0 285 32).toNat + (n0).toNat := by omega
  have zb := (zr fz0 (n0).toNat (by omega)).1
  rw [← ix] at zb
  have nd := d24
  rw [bn0] at nd
  have ne := d28
  have lq := lcR f29 (by rw [nd]; exact zb) (by rw [ne]; exact nb)
  have bb : n0 < hV H0 294 (hV H0 285 32).toNat := xh
  refine ⟨y2, yc, y298, y299, y301, y302, y303, ?_⟩
  exact SPi_no yp (by omega) bb (by omega) (fun e => absurd (lq.mpr (by rw [nd, ne, ix, e, nz])) (by omega))
def g_227y_471_4 : vG := ([(10, [16, 6], [], -1), (31, [15], [], 0), (65, [15, 12, 14], [], 0), (22, [14, 13, 5], [1], 0), (20, [13, 1], [1], 8), (23, [1], [1], 12), (0, [13], [], 291), (22, [12, 7, 11], [1], 0), (1, [11, 10, 6], [], 0), (3, [10, 8, 9], [], 0), (20, [9, 1], [1], 32), (23, [1], [1], 12), (90, [9], [], 0), (91, [9], [], 7), (0, [8], [], 6), (20, [7, 1], [1], 21), (23, [1], [1], 12), (0, [7], [], 295), (33, [6], [], 0), (5000, [0, 1, 2, 3, 4, 5, 6], [0, 1], 471), (0, [0], [], 285), (0, [1], [], 285), (90, [2], [], 0), (91, [2], [], 5), (90, [3], [], 0), (91, [3], [], 1007), (90, [4], [], 1), (91, [4], [], 1), (90, [5], [], 0), (91, [5], [], 500), (90, [6], [], -1), (91, [6], [], 5)], (4000, [1, 2, 3, 4, 5, 16], [1], 471))
theorem c_227y_471_4 {q0 : Nat} : vOkm T0 (eN e_227w L_227y (eAB A_227 B_227) mu_227 y_227 By_227 (some q0)) 1 g_227y_471_4 := vOk_inI fun ρ η f0 f1 f2 f3 f4 f5 f6 f7 f8 f9 f10 f11 f12 f13 f14 f15 f16 f17 f18 f19 f20 f21 f22 f23 f24 f25 f26 f27 f28 f29 f30 f31 => q_227y_27 (q0 := q0) (n0 := ρ 6) (n1 := ρ 5) (n2 := ρ 4) (n3 := ρ 3) (n4 := ρ 2) (n5 := ρ 1) (n6 := ρ 0) (n7 := ρ 7) (n8 := ρ 8) (n9 := ρ 9) (n10 := ρ 10) (n11 := ρ 11) (n12 := ρ 12) (n13 := ρ 13) (n14 := ρ 14) (n15 := ρ 15) (n16 := ρ 16) (H0 := η 0) (H1 := η 1) f31 f30 f29 f28 f27 f26 f25 f24 f23 f22 f21 f20 f19 f18 f17 f16 f15 f14 f13 f12 f11 f10 f9 f8 f7 f6 f5 f4 f3 f2 f1 f0
theorem q_227y_28 {q0 : Nat} {n0 n1 n2 n3 n4 n5 n6 n7 n8 n9 n10 n11 n12 n13 n14 n15 n16 n17 : Int} {H0 H1 H2 : gH} (f0 : n0 ≤ 5) (f1 : (-1) ≤ n0) (f2 : n1 ≤ 500) (f3 : 0 ≤ n1) (f4 : n2 ≤ 1) (f5 : 1 ≤ n2) (f6 : n3 ≤ 1007) (f7 : 0 ≤ n3) (f8 : n4 ≤ 5) (f9 : 0 ≤ n4) (f10 : n5 = 285) (f11 : n6 = 285) (f12 : (hLe T0 H0 H1 ∧ hFr s_227.2.2.2.2 H0 H1 ∧ hWt T0 H1) ∧ (((Ab_227_471 n6 n5 n4 n3 n2 n1 n0 H0 H1 ∧ Bb_227_471 n6 n5 n4 n3 n2 n1 n0 H0 H1) ∧ Byb_227_471 n6 n5 n4 n3 n2 n1 n0 H0 H1) ∧ preb_227 n6 H0) ∧ some q0 = some (mub_227_471 n6 n5 n4 n3 n2 n1 n0 H0 H1)) (f13 : 0 ≤ n0) (f14 : n7 = 295) (f15 : hK H1 (n5).toNat = 12) (f16 : n7 = hV H1 (n5).toNat 21) (f17 : n8 = 6) (f18 : n9 ≤ 7) (f19 : 0 ≤ n9) (f20 : hK H1 (n5).toNat = 12) (f21 : n9 = hV H1 (n5).toNat 32) (f22 : n10 = w32 (n8 * n9)) (f23 : n11 = w32 (n10 + n0)) (f24 : n12 = hV H1 (n7).toNat (n11).toNat) (f25 : n13 = 291) (f26 : hK H1 (n5).toNat = 12) (f27 : n13 = hV H1 (n5).toNat 8) (f28 : n14 = hV H1 (n13).toNat (n1).toNat) (f29 : n15 = (lg_cmp (Int64.ofInt n12) (Int64.ofInt n14)).toInt) (f30 : n15 = 0) (f31 : n16 = 300) (f32 : hK H1 (n5).toNat = 12) (f33 : n16 = hV H1 (n5).toNat 26) (f34 : hK H1 (n16).toNat = 228) (f35 : hUpd H2 H1 n16 n3 n0) (f36 : n17 = w32 (n0 + (-1))) : Byb_227_471 n6 n5 n4 n3 n2 n1 n17 H0 H2 := by
  unfold Byb_227_471
  intro z zr
  have ga := f12.2.1.1.1.2
  unfold Bb_227_471 at ga
  obtain ⟨z1, a1, pm, ps, kd, h16, f0_, t4, k4, uq, t0, tl, xl, xh, sr⟩ := ga z zr
  have vz : vwR H1 = vwR H0 := vwR_fr f12.1.2.1 (by decide +kernel)
  have gy := f12.2.1.1.2
  unfold Byb_227_471 at gy
  obtain ⟨y2, yc, y298, y299, y301, y302, y303, yp⟩ := gy z zr
  have q13 := f13
  have q30 := f30
  have q36 := f36
  unfold w32 at q36
  have d21 := rdS (q := 285) f21 f10
  have d24 := rdW (q := 295) f24 f14
  have d28 := rdW (q := 291) f28 f25
  have f32_ : hV H1 285 32 = hV H0 285 32 := f12.1.2.1.1 285 32 (by decide +kernel)
  have rg0 := f0
  have rg1 := f1
  have rg6 := f6
  have rg7 := f7
  have rg18 := f18
  have rg19 := f19
  have bn0 : hV H1 295 = hV H0 295 := fRow f12.1.2.1 295 (by decide +kernel)
  have s22 : n10 = 6 * n9 := by
    have q := f22
    rw [f17] at q
    rw [q]
    exact w32_id (by omega) (by omega)
  have s23 : n11 = n10 + n0 := by
    have q := f23
    rw [q]
    exact w32_id (by omega) (by omega)
  have s36 : n17 = n0 + (-1) := by
    have q := f36
    rw [q]
    exact w32_id (by omega) (by omega)
  have nz : hV H1 291 (n1).toNat = (vwR H0).2.2.1 (ptk (vwR H0) 25 (absR H0)).1 := by
    rw [← t4, ← vz]
    show _ = if kR H1 n1 = 1 then _ else _
    have ok : okR H1 n1 := ⟨t0, by have := z1.2.2.1; omega, by have := z1.2.2.2.2.2.2.2.2.2.1 f0_; omega⟩
    unfold kR
    rw [if_pos ok, if_pos k4]
  have nb := (z1.1.2.2.2 (n1).toNat (by have := z1.2.2.2.2.2.2.2.2.2.1 f0_; omega)).2.2.2 k4
  have e32 := d21
  rw [f32_] at e32
  have hpe := absR_pos z1 f0_
  have hq := hpe.2
  rw [a1] at hq
  have fz0 := faultR_no z (pb_tk z (pb_trans (pb_tk z (c := 2)) (pb_tk z (c := 26)) (pb_time z hq).1).1).1
  clear hq hpe
  have ix : (n11).toNat = (6 * hV H0 285 32).toNat + (n0).toNat := by omega
  have zb := (zr fz0 (n0).toNat (by omega)).1
  rw [← ix] at zb
  have nd := d24
  rw [bn0] at nd
  have ne := d28
  have lq := lcR f29 (by rw [nd]; exact zb) (by rw [ne]; exact nb)
  have bb : n0 < hV H0 294 (hV H0 285 32).toNat := xh
  refine ⟨y2, CRo_tr yc (CRo_up f35 rfl (by rw [f31]; decide)), (congrFun (uRowNe f35 298 (by rw [f31]; decide)) _).trans y298, (congrFun (uRowNe f35 299 (by rw [f31]; decide)) _).trans y299, (congrFun (uRowNe f35 301 (by rw [f31]; decide)) _).trans y301, (congrFun (uRowNe f35 302 (by rw [f31]; decide)) _).trans y302, (congrFun (uRowNe f35 303 (by rw [f31]; decide)) _).trans y303, ?_⟩
  rw [(congrFun (uRowQ f35 300 f31) _).trans (by rw [uF_at, if_pos (Int.toNat_of_nonneg (by omega))])]
  exact SPi_hit yp (by omega) bb (by omega) (by rw [← ix, ← nd, lq.mp (by omega), ne, nz])
def g_227y_471_5 : vG := ([(10, [17, 6], [], -1), (80, [16, 3, 6], [2, 1], 0), (23, [16], [1], 228), (20, [16, 1], [1], 26), (23, [1], [1], 12), (0, [16], [], 300), (30, [15], [], 0), (65, [15, 12, 14], [], 0), (22, [14, 13, 5], [1], 0), (20, [13, 1], [1], 8), (23, [1], [1], 12), (0, [13], [], 291), (22, [12, 7, 11], [1], 0), (1, [11, 10, 6], [], 0), (3, [10, 8, 9], [], 0), (20, [9, 1], [1], 32), (23, [1], [1], 12), (90, [9], [], 0), (91, [9], [], 7), (0, [8], [], 6), (20, [7, 1], [1], 21), (23, [1], [1], 12), (0, [7], [], 295), (33, [6], [], 0), (5000, [0, 1, 2, 3, 4, 5, 6], [0, 1], 471), (0, [0], [], 285), (0, [1], [], 285), (90, [2], [], 0), (91, [2], [], 5), (90, [3], [], 0), (91, [3], [], 1007), (90, [4], [], 1), (91, [4], [], 1), (90, [5], [], 0), (91, [5], [], 500), (90, [6], [], -1), (91, [6], [], 5)], (4000, [1, 2, 3, 4, 5, 17], [2], 471))
theorem c_227y_471_5 {q0 : Nat} : vOkm T0 (eN e_227w L_227y (eAB A_227 B_227) mu_227 y_227 By_227 (some q0)) 1 g_227y_471_5 := vOk_inI fun ρ η f0 f1 f2 f3 f4 f5 f6 f7 f8 f9 f10 f11 f12 f13 f14 f15 f16 f17 f18 f19 f20 f21 f22 f23 f24 f25 f26 f27 f28 f29 f30 f31 f32 f33 f34 f35 f36 => q_227y_28 (q0 := q0) (n0 := ρ 6) (n1 := ρ 5) (n2 := ρ 4) (n3 := ρ 3) (n4 := ρ 2) (n5 := ρ 1) (n6 := ρ 0) (n7 := ρ 7) (n8 := ρ 8) (n9 := ρ 9) (n10 := ρ 10) (n11 := ρ 11) (n12 := ρ 12) (n13 := ρ 13) (n14 := ρ 14) (n15 := ρ 15) (n16 := ρ 16) (n17 := ρ 17) (H0 := η 0) (H1 := η 1) (H2 := η 2) f36 f35 f34 f33 f32 f31 f30 f29 f28 f27 f26 f25 f24 f23 f22 f21 f20 f19 f18 f17 f16 f15 f14 f13 f12 f11 f10 f9 f8 f7 f6 f5 f4 f3 f2 f1 f0
def p_227y_471 : List vG := [g_227y_471_0,
  g_227y_471_1,
  g_227y_471_2,
  g_227y_471_3,
  g_227y_471_4,
  g_227y_471_5]
theorem r_227y_471 : vCovBO (eRc e_227w L_227w cs_227 2000 (471, [(0, (3, 12, 285, 0)), (1, (0, 0, 5, 0)), (2, (0, 0, 1007, 0)), (3, (0, 1, 1, 0)), (4, (0, 0, 500, 0)), (5, (0, -1, 5, 0))])) p_227y_471 = true := by decide +kernel
theorem q_227y_29 {q0 : Nat} {n0 n1 n2 n3 n4 n5 n6 n7 n8 n9 n10 n11 n12 n13 n14 n15 n16 n17 n18 n19 : Int} {H0 H1 H2 H3 H4 : gH} (f0 : n0 ≤ 1000) (f1 : 0 ≤ n0) (f2 : n1 ≤ 1007) (f3 : 0 ≤ n1) (f4 : n2 ≤ 2147483647) (f5 : (-2147483648) ≤ n2) (f6 : n3 = 285) (f7 : n4 = 285) (f8 : (hLe T0 H0 H1 ∧ hFr s_227.2.2.2.2 H0 H1 ∧ hWt T0 H1) ∧ (((Ab_227_567 n4 n3 n2 n1 n0 H0 H1 ∧ Bb_227_567 n4 n3 n2 n1 n0 H0 H1) ∧ Byb_227_567 n4 n3 n2 n1 n0 H0 H1) ∧ preb_227 n4 H0) ∧ some q0 = some (mub_227_567 n4 n3 n2 n1 n0 H0 H1)) (f9 : n5 = 4) (f10 : (hLe T0 H1 H2 ∧ hFr s_220.2.2.2.2 H1 H2 ∧ ((0 : Int) = 0 → H2.length = H1.length) ∧ hWt T0 H2) ∧ (postb_220 n3 n5 H1 H2 ∧ nb_220 n3 n5 H1 H2)) (f11 : n6 ≤ 2) (f12 : 0 ≤ n6) (f13 : hK H2 (n3).toNat = 12) (f14 : n6 = hV H2 (n3).toNat 13) (f15 : n6 ≤ 0) (f16 : n7 = 296) (f17 : hK H2 (n3).toNat = 12) (f18 : n7 = hV H2 (n3).toNat 22) (f19 : n8 ≤ 62) (f20 : 0 ≤ n8) (f21 : hK H2 (n3).toNat = 12) (f22 : n8 = hV H2 (n3).toNat 33) (f23 : n9 ≤ 16) (f24 : 0 ≤ n9) (f25 : n9 = hV H2 (n7).toNat (n8).toNat) (f26 : n10 = 1) (f27 : n11 = w32 (n9 + n10)) (f28 : hK H2 (n7).toNat = 196) (f29 : hUpd H3 H2 n7 n8 n11) (f30 : n12 = 297) (f31 : hK H3 (n3).toNat = 12) (f32 : n12 = hV H3 (n3).toNat 23) (f33 : n13 ≤ 62) (f34 : 0 ≤ n13) (f35 : hK H3 (n3).toNat = 12) (f36 : n13 = hV H3 (n3).toNat 33) (f37 : n14 ≤ 2000) (f38 : 0 ≤ n14) (f39 : n14 = hV H3 (n12).toNat (n13).toNat) (f40 : n15 = w32 (n14 + n0)) (f41 : hK H3 (n12).toNat = 204) (f42 : hUpd H4 H3 n12 n13 n15) (f43 : n16 = 297) (f44 : hK H4 (n3).toNat = 12) (f45 : n16 = hV H4 (n3).toNat 23) (f46 : n17 ≤ 62) (f47 : 0 ≤ n17) (f48 : hK H4 (n3).toNat = 12) (f49 : n17 = hV H4 (n3).toNat 33) (f50 : n18 ≤ 2000) (f51 : 0 ≤ n18) (f52 : n18 = hV H4 (n16).toNat (n17).toNat) (f53 : n19 = 1000) (f54 : n18 ≤ n19) : yb_227 n4 H0 H4 := by
  unfold yb_227
  intro z zr
  have ga := f8.2.1.1.1.2
  unfold Bb_227_567 at ga
  obtain ⟨z1, a1, pm, ps, k20, k25, h16, mo⟩ := ga z zr
  have vz : vwR H1 = vwR H0 := vwR_fr f8.1.2.1 (by decide +kernel)
  have gy := f8.2.1.1.2
  unfold Byb_227_567 at gy
  obtain ⟨y2, yc, yt⟩ := gy z zr
  have d14 := rdS (q := 285) f14 f6
  have d22 := rdS (q := 285) f22 f6
  have d25 := rdW (q := 296) f25 f16
  have d36 := rdS (q := 285) f36 f6
  have d39 := rdW (q := 297) f39 f30
  have d49 := rdS (q := 285) f49 f6
  have d52 := rdW (q := 297) f52 f43
  have q15 := f15
  have q54 := f54
  have qc53 := f53
  have c0 := f10.2.2 z1 (by rw [f9]; decide)
  try rw [f9] at c0
  rw [vz, a1, kmc_4] at c0
  have v0 : vwR H2 = vwR H0 := (vwR_fr f10.1.2.1 (by decide +kernel)).trans vz
  have p1 := PR_row (q := 296) f29 f16 (by decide) c0.1
  have v1 : vwR H3 = vwR H0 := p1.2.1.trans v0
  have ah1 : absR H3 = (ptk (vwR H0) 4 (pBody (vwR H0) (BLr H0) ((vwR H0).1 (absR H0).1) (ptk (vwR H0) ((vwR H0).1 (absR H0).1) (absR H0)))) := p1.1.trans c0.2
  have p2 := PR_row (q := 297) f42 f30 (by decide) p1.2.2.1
  have v2 : vwR H4 = vwR H0 := p2.2.1.trans v1
  have ah2 : absR H4 = (ptk (vwR H0) 4 (pBody (vwR H0) (BLr H0) ((vwR H0).1 (absR H0).1) (ptk (vwR H0) ((vwR H0).1 (absR H0).1) (absR H0)))) := p2.1.trans ah1
  have e8 : CR8 H1 H4 := (CR8_tr (CR8_fr f10.1.2.1 (by decide +kernel)) (CR8_tr (CR8_lo (q := 296) f29 f16 (by decide)) (CR8_lo (q := 297) f42 f30 (by decide))))
  rw [← y2]
  refine ⟨CRo_tr yc (CRo_8 e8), fun hf => ?_⟩
  have hzH3 := fzR p1.2.2.1 p2.2.2.1 ah1 ah2 (fun _ _ => rfl) hf
  have hzH2 := fzR c0.1 p1.2.2.1 c0.2 ah1 (fun _ _ => rfl) hzH3.1
  have hzH1 := fzR z1 c0.1 a1 c0.2 (fun n k => ptk_neg n k) hzH2.1
  rw [recR_eq (CRo_8 e8)]
  exact yt hzH1.1
def g_227y_567_0 : vG := ([(45, [18, 19], [], 0), (0, [19], [], 1000), (22, [18, 16, 17], [4], 0), (90, [18], [], 0), (91, [18], [], 2000), (20, [17, 1], [4], 33), (23, [1], [4], 12), (90, [17], [], 0), (91, [17], [], 62), (20, [16, 1], [4], 23), (23, [1], [4], 12), (0, [16], [], 297), (80, [12, 13, 15], [4, 3], 0), (23, [12], [3], 204), (1, [15, 14, 4], [], 0), (22, [14, 12, 13], [3], 0), (90, [14], [], 0), (91, [14], [], 2000), (20, [13, 1], [3], 33), (23, [1], [3], 12), (90, [13], [], 0), (91, [13], [], 62), (20, [12, 1], [3], 23), (23, [1], [3], 12), (0, [12], [], 297), (80, [7, 8, 11], [3, 2], 0), (23, [7], [2], 196), (1, [11, 9, 10], [], 0), (0, [10], [], 1), (22, [9, 7, 8], [2], 0), (90, [9], [], 0), (91, [9], [], 16), (20, [8, 1], [2], 33), (23, [1], [2], 12), (90, [8], [], 0), (91, [8], [], 62), (20, [7, 1], [2], 22), (23, [1], [2], 12), (0, [7], [], 296), (35, [6], [], 0), (20, [6, 1], [2], 13), (23, [1], [2], 12), (90, [6], [], 0), (91, [6], [], 2), (1220, [1, 5], [1, 2], 0), (0, [5], [], 4), (5000, [0, 1, 2, 3, 4], [0, 1], 567), (0, [0], [], 285), (0, [1], [], 285), (90, [2], [], -2147483648), (91, [2], [], 2147483647), (90, [3], [], 0), (91, [3], [], 1007), (90, [4], [], 0), (91, [4], [], 1000)], (3000, [], [4], 633))
theorem c_227y_567_0 {q0 : Nat} : vOkm T0 (eN e_227w L_227y (eAB A_227 B_227) mu_227 y_227 By_227 (some q0)) 1 g_227y_567_0 := vOk_inI fun ρ η f0 f1 f2 f3 f4 f5 f6 f7 f8 f9 f10 f11 f12 f13 f14 f15 f16 f17 f18 f19 f20 f21 f22 f23 f24 f25 f26 f27 f28 f29 f30 f31 f32 f33 f34 f35 f36 f37 f38 f39 f40 f41 f42 f43 f44 f45 f46 f47 f48 f49 f50 f51 f52 f53 f54 => q_227y_29 (q0 := q0) (n0 := ρ 4) (n1 := ρ 3) (n2 := ρ 2) (n3 := ρ 1) (n4 := ρ 0) (n5 := ρ 5) (n6 := ρ 6) (n7 := ρ 7) (n8 := ρ 8) (n9 := ρ 9) (n10 := ρ 10) (n11 := ρ 11) (n12 := ρ 12) (n13 := ρ 13) (n14 := ρ 14) (n15 := ρ 15) (n16 := ρ 16) (n17 := ρ 17) (n18 := ρ 18) (n19 := ρ 19) (H0 := η 0) (H1 := η 1) (H2 := η 2) (H3 := η 3) (H4 := η 4) f54 f53 f52 f51 f50 f49 f48 f47 f46 f45 f44 f43 f42 f41 f40 f39 f38 f37 f36 f35 f34 f33 f32 f31 f30 f29 f28 f27 f26 f25 f24 f23 f22 f21 f20 f19 f18 f17 f16 f15 f14 f13 f12 f11 f10 f9 f8 f7 f6 f5 f4 f3 f2 f1 f0
theorem q_227y_30 {q0 : Nat} {n0 n1 n2 n3 n4 n5 n6 n7 n8 n9 n10 n11 n12 n13 n14 n15 n16 n17 n18 n19 n20 n21 n22 : Int} {H0 H1 H2 H3 H4 H5 : gH} (f0 : n0 ≤ 1000) (f1 : 0 ≤ n0) (f2 : n1 ≤ 1007) (f3 : 0 ≤ n1) (f4 : n2 ≤ 2147483647) (f5 : (-2147483648) ≤ n2) (f6 : n3 = 285) (f7 : n4 = 285) (f8 : (hLe T0 H0 H1 ∧ hFr s_227.2.2.2.2 H0 H1 ∧ hWt T0 H1) ∧ (((Ab_227_567 n4 n3 n2 n1 n0 H0 H1 ∧ Bb_227_567 n4 n3 n2 n1 n0 H0 H1) ∧ Byb_227_567 n4 n3 n2 n1 n0 H0 H1) ∧ preb_227 n4 H0) ∧ some q0 = some (mub_227_567 n4 n3 n2 n1 n0 H0 H1)) (f9 : n5 = 4) (f10 : (hLe T0 H1 H2 ∧ hFr s_220.2.2.2.2 H1 H2 ∧ ((0 : Int) = 0 → H2.length = H1.length) ∧ hWt T0 H2) ∧ (postb_220 n3 n5 H1 H2 ∧ nb_220 n3 n5 H1 H2)) (f11 : n6 ≤ 2) (f12 : 0 ≤ n6) (f13 : hK H2 (n3).toNat = 12) (f14 : n6 = hV H2 (n3).toNat 13) (f15 : n6 ≤ 0) (f16 : n7 = 296) (f17 : hK H2 (n3).toNat = 12) (f18 : n7 = hV H2 (n3).toNat 22) (f19 : n8 ≤ 62) (f20 : 0 ≤ n8) (f21 : hK H2 (n3).toNat = 12) (f22 : n8 = hV H2 (n3).toNat 33) (f23 : n9 ≤ 16) (f24 : 0 ≤ n9) (f25 : n9 = hV H2 (n7).toNat (n8).toNat) (f26 : n10 = 1) (f27 : n11 = w32 (n9 + n10)) (f28 : hK H2 (n7).toNat = 196) (f29 : hUpd H3 H2 n7 n8 n11) (f30 : n12 = 297) (f31 : hK H3 (n3).toNat = 12) (f32 : n12 = hV H3 (n3).toNat 23) (f33 : n13 ≤ 62) (f34 : 0 ≤ n13) (f35 : hK H3 (n3).toNat = 12) (f36 : n13 = hV H3 (n3).toNat 33) (f37 : n14 ≤ 2000) (f38 : 0 ≤ n14) (f39 : n14 = hV H3 (n12).toNat (n13).toNat) (f40 : n15 = w32 (n14 + n0)) (f41 : hK H3 (n12).toNat = 204) (f42 : hUpd H4 H3 n12 n13 n15) (f43 : n16 = 297) (f44 : hK H4 (n3).toNat = 12) (f45 : n16 = hV H4 (n3).toNat 23) (f46 : n17 ≤ 62) (f47 : 0 ≤ n17) (f48 : hK H4 (n3).toNat = 12) (f49 : n17 = hV H4 (n3).toNat 33) (f50 : n18 ≤ 2000) (f51 : 0 ≤ n18) (f52 : n18 = hV H4 (n16).toNat (n17).toNat) (f53 : n19 = 1000) (f54 : n19 < n18) (f55 : n20 = 297) (f56 : hK H4 (n3).toNat = 12) (f57 : n20 = hV H4 (n3).toNat 23) (f58 : n21 ≤ 62) (f59 : 0 ≤ n21) (f60 : hK H4 (n3).toNat = 12) (f61 : n21 = hV H4 (n3).toNat 33) (f62 : n22 = 1000) (f63 : hK H4 (n20).toNat = 204) (f64 : hUpd H5 H4 n20 n21 n22) : yb_227 n4 H0 H5 := by
  unfold yb_227
  intro z zr
  have ga := f8.2.1.1.1.2
  unfold Bb_227_567 at ga
  obtain ⟨z1, a1, pm, ps, k20, k25, h16, mo⟩ := ga z zr
  have vz : vwR H1 = vwR H0 := vwR_fr f8.1.2.1 (by decide +kernel)
  have gy := f8.2.1.1.2
  unfold Byb_227_567 at gy
  obtain ⟨y2, yc, yt⟩ := gy z zr
  have d14 := rdS (q := 285) f14 f6
  have d22 := rdS (q := 285) f22 f6
  have d25 := rdW (q := 296) f25 f16
  have d36 := rdS (q := 285) f36 f6
  have d39 := rdW (q := 297) f39 f30
  have d49 := rdS (q := 285) f49 f6
  have d52 := rdW (q := 297) f52 f43
  have d61 := rdS (q := 285) f61 f6
  have q15 := f15
  have q54 := f54
  have qc53 := f53
  have c0 := f10.2.2 z1 (by rw [f9]; decide)
  try rw [f9] at c0
  rw [vz, a1, kmc_4] at c0
  have v0 : vwR H2 = vwR H0 := (vwR_fr f10.1.2.1 (by decide +kernel)).trans vz
  have p1 := PR_row (q := 296) f29 f16 (by decide) c0.1
  have v1 : vwR H3 = vwR H0 := p1.2.1.trans v0
  have ah1 : absR H3 = (ptk (vwR H0) 4 (pBody (vwR H0) (BLr H0) ((vwR H0).1 (absR H0).1) (ptk (vwR H0) ((vwR H0).1 (absR H0).1) (absR H0)))) := p1.1.trans c0.2
  have p2 := PR_row (q := 297) f42 f30 (by decide) p1.2.2.1
  have v2 : vwR H4 = vwR H0 := p2.2.1.trans v1
  have ah2 : absR H4 = (ptk (vwR H0) 4 (pBody (vwR H0) (BLr H0) ((vwR H0).1 (absR H0).1) (ptk (vwR H0) ((vwR H0).1 (absR H0).1) (absR H0)))) := p2.1.trans ah1
  have p3 := PR_row (q := 297) f64 f55 (by decide) p2.2.2.1
  have v3 : vwR H5 = vwR H0 := p3.2.1.trans v2
  have ah3 : absR H5 = (ptk (vwR H0) 4 (pBody (vwR H0) (BLr H0) ((vwR H0).1 (absR H0).1) (ptk (vwR H0) ((vwR H0).1 (absR H0).1) (absR H0)))) := p3.1.trans ah2
  have e8 : CR8 H1 H5 := (CR8_tr (CR8_fr f10.1.2.1 (by decide +kernel)) (CR8_tr (CR8_lo (q := 296) f29 f16 (by decide)) (CR8_tr (CR8_lo (q := 297) f42 f30 (by decide)) (CR8_lo (q := 297) f64 f55 (by decide)))))
  rw [← y2]
  refine ⟨CRo_tr yc (CRo_8 e8), fun hf => ?_⟩
  have hzH4 := fzR p2.2.2.1 p3.2.2.1 ah2 ah3 (fun _ _ => rfl) hf
  have hzH3 := fzR p1.2.2.1 p2.2.2.1 ah1 ah2 (fun _ _ => rfl) hzH4.1
  have hzH2 := fzR c0.1 p1.2.2.1 c0.2 ah1 (fun _ _ => rfl) hzH3.1
  have hzH1 := fzR z1 c0.1 a1 c0.2 (fun n k => ptk_neg n k) hzH2.1
  rw [recR_eq (CRo_8 e8)]
  exact yt hzH1.1
def g_227y_567_1 : vG := ([(80, [20, 21, 22], [5, 4], 0), (23, [20], [4], 204), (0, [22], [], 1000), (20, [21, 1], [4], 33), (23, [1], [4], 12), (90, [21], [], 0), (91, [21], [], 62), (20, [20, 1], [4], 23), (23, [1], [4], 12), (0, [20], [], 297), (44, [18, 19], [], 0), (0, [19], [], 1000), (22, [18, 16, 17], [4], 0), (90, [18], [], 0), (91, [18], [], 2000), (20, [17, 1], [4], 33), (23, [1], [4], 12), (90, [17], [], 0), (91, [17], [], 62), (20, [16, 1], [4], 23), (23, [1], [4], 12), (0, [16], [], 297), (80, [12, 13, 15], [4, 3], 0), (23, [12], [3], 204), (1, [15, 14, 4], [], 0), (22, [14, 12, 13], [3], 0), (90, [14], [], 0), (91, [14], [], 2000), (20, [13, 1], [3], 33), (23, [1], [3], 12), (90, [13], [], 0), (91, [13], [], 62), (20, [12, 1], [3], 23), (23, [1], [3], 12), (0, [12], [], 297), (80, [7, 8, 11], [3, 2], 0), (23, [7], [2], 196), (1, [11, 9, 10], [], 0), (0, [10], [], 1), (22, [9, 7, 8], [2], 0), (90, [9], [], 0), (91, [9], [], 16), (20, [8, 1], [2], 33), (23, [1], [2], 12), (90, [8], [], 0), (91, [8], [], 62), (20, [7, 1], [2], 22), (23, [1], [2], 12), (0, [7], [], 296), (35, [6], [], 0), (20, [6, 1], [2], 13), (23, [1], [2], 12), (90, [6], [], 0), (91, [6], [], 2), (1220, [1, 5], [1, 2], 0), (0, [5], [], 4), (5000, [0, 1, 2, 3, 4], [0, 1], 567), (0, [0], [], 285), (0, [1], [], 285), (90, [2], [], -2147483648), (91, [2], [], 2147483647), (90, [3], [], 0), (91, [3], [], 1007), (90, [4], [], 0), (91, [4], [], 1000)], (3000, [], [5], 633))
theorem c_227y_567_1 {q0 : Nat} : vOkm T0 (eN e_227w L_227y (eAB A_227 B_227) mu_227 y_227 By_227 (some q0)) 1 g_227y_567_1 := vOk_inI fun ρ η f0 f1 f2 f3 f4 f5 f6 f7 f8 f9 f10 f11 f12 f13 f14 f15 f16 f17 f18 f19 f20 f21 f22 f23 f24 f25 f26 f27 f28 f29 f30 f31 f32 f33 f34 f35 f36 f37 f38 f39 f40 f41 f42 f43 f44 f45 f46 f47 f48 f49 f50 f51 f52 f53 f54 f55 f56 f57 f58 f59 f60 f61 f62 f63 f64 => q_227y_30 (q0 := q0) (n0 := ρ 4) (n1 := ρ 3) (n2 := ρ 2) (n3 := ρ 1) (n4 := ρ 0) (n5 := ρ 5) (n6 := ρ 6) (n7 := ρ 7) (n8 := ρ 8) (n9 := ρ 9) (n10 := ρ 10) (n11 := ρ 11) (n12 := ρ 12) (n13 := ρ 13) (n14 := ρ 14) (n15 := ρ 15) (n16 := ρ 16) (n17 := ρ 17) (n18 := ρ 18) (n19 := ρ 19) (n20 := ρ 20) (n21 := ρ 21) (n22 := ρ 22) (H0 := η 0) (H1 := η 1) (H2 := η 2) (H3 := η 3) (H4 := η 4) (H5 := η 5) f64 f63 f62 f61 f60 f59 f58 f57 f56 f55 f54 f53 f52 f51 f50 f49 f48 f47 f46 f45 f44 f43 f42 f41 f40 f39 f38 f37 f36 f35 f34 f33 f32 f31 f30 f29 f28 f27 f26 f25 f24 f23 f22 f21 f20 f19 f18 f17 f16 f15 f14 f13 f12 f11 f10 f9 f8 f7 f6 f5 f4 f3 f2 f1 f0
theorem q_227y_31 {q0 : Nat} {n0 n1 n2 n3 n4 n5 n6 : Int} {H0 H1 H2 : gH} (f0 : n0 ≤ 1000) (f1 : 0 ≤ n0) (f2 : n1 ≤ 1007) (f3 : 0 ≤ n1) (f4 : n2 ≤ 2147483647) (f5 : (-2147483648) ≤ n2) (f6 : n3 = 285) (f7 : n4 = 285) (f8 : (hLe T0 H0 H1 ∧ hFr s_227.2.2.2.2 H0 H1 ∧ hWt T0 H1) ∧ (((Ab_227_567 n4 n3 n2 n1 n0 H0 H1 ∧ Bb_227_567 n4 n3 n2 n1 n0 H0 H1) ∧ Byb_227_567 n4 n3 n2 n1 n0 H0 H1) ∧ preb_227 n4 H0) ∧ some q0 = some (mub_227_567 n4 n3 n2 n1 n0 H0 H1)) (f9 : n5 = 4) (f10 : (hLe T0 H1 H2 ∧ hFr s_220.2.2.2.2 H1 H2 ∧ ((0 : Int) = 0 → H2.length = H1.length) ∧ hWt T0 H2) ∧ (postb_220 n3 n5 H1 H2 ∧ nb_220 n3 n5 H1 H2)) (f11 : n6 ≤ 2) (f12 : 0 ≤ n6) (f13 : hK H2 (n3).toNat = 12) (f14 : n6 = hV H2 (n3).toNat 13) (f15 : 0 < n6) : yb_227 n4 H0 H2 := by
  unfold yb_227
  intro z zr
  have ga := f8.2.1.1.1.2
  unfold Bb_227_567 at ga
  obtain ⟨z1, a1, pm, ps, k20, k25, h16, mo⟩ := ga z zr
  have vz : vwR H1 = vwR H0 := vwR_fr f8.1.2.1 (by decide +kernel)
  have gy := f8.2.1.1.2
  unfold Byb_227_567 at gy
  obtain ⟨y2, yc, yt⟩ := gy z zr
  have d14 := rdS (q := 285) f14 f6
  have q15 := f15
  have c0 := f10.2.2 z1 (by rw [f9]; decide)
  try rw [f9] at c0
  rw [vz, a1, kmc_4] at c0
  have v0 : vwR H2 = vwR H0 := (vwR_fr f10.1.2.1 (by decide +kernel)).trans vz
  have e8 : CR8 H1 H2 := (CR8_fr f10.1.2.1 (by decide +kernel))
  rw [← y2]
  refine ⟨CRo_tr yc (CRo_8 e8), fun hf => ?_⟩
  have hzH1 := fzR z1 c0.1 a1 c0.2 (fun n k => ptk_neg n k) hf
  rw [recR_eq (CRo_8 e8)]
  exact yt hzH1.1
def g_227y_567_2 : vG := ([(34, [6], [], 0), (20, [6, 1], [2], 13), (23, [1], [2], 12), (90, [6], [], 0), (91, [6], [], 2), (1220, [1, 5], [1, 2], 0), (0, [5], [], 4), (5000, [0, 1, 2, 3, 4], [0, 1], 567), (0, [0], [], 285), (0, [1], [], 285), (90, [2], [], -2147483648), (91, [2], [], 2147483647), (90, [3], [], 0), (91, [3], [], 1007), (90, [4], [], 0), (91, [4], [], 1000)], (3000, [], [2], 579))
theorem c_227y_567_2 {q0 : Nat} : vOkm T0 (eN e_227w L_227y (eAB A_227 B_227) mu_227 y_227 By_227 (some q0)) 1 g_227y_567_2 := vOk_inI fun ρ η f0 f1 f2 f3 f4 f5 f6 f7 f8 f9 f10 f11 f12 f13 f14 f15 => q_227y_31 (q0 := q0) (n0 := ρ 4) (n1 := ρ 3) (n2 := ρ 2) (n3 := ρ 1) (n4 := ρ 0) (n5 := ρ 5) (n6 := ρ 6) (H0 := η 0) (H1 := η 1) (H2 := η 2) f15 f14 f13 f12 f11 f10 f9 f8 f7 f6 f5 f4 f3 f2 f1 f0
def p_227y_567 : List vG := [g_227y_567_0,
  g_227y_567_1,
  g_227y_567_2]
theorem r_227y_567 : vCovBO (eRc e_227w L_227w cs_227 2000 (567, [(0, (3, 12, 285, 0)), (1, (0, -2147483648, 2147483647, 0)), (2, (0, 0, 1007, 0)), (3, (0, 0, 1000, 0))])) p_227y_567 = true := by decide +kernel
theorem o_227y : eOK e_227y L_227y cs_227 2000 (eAB (eAB A_227 B_227) By_227) mu_227 := eOK_ref (p1 := p_227y_s) o_227w (sub0 (sub0 (sub0 (sub0 (sub0 (sub1 (sub1 (sub1 (sub1 trivial))))))))) r_227y_s (allC c_227y_s_0 (allC c_227y_s_1 (allC c_227y_s_2 (allC c_227y_s_3 (allC c_227y_s_4 (allC c_227y_s_5 (allC c_227y_s_6 allN))))))) (allC ⟨p_227y_80, r_227y_80, fun q0 => (allC c_227y_80_0 (allC c_227y_80_1 (allC c_227y_80_2 (allC c_227y_80_3 (allC c_227y_80_4 (allC c_227y_80_5 allN))))))⟩ (allC ⟨p_227y_120, r_227y_120, fun q0 => (allC c_227y_120_0 allN)⟩ (allC ⟨p_227y_180, r_227y_180, fun q0 => (allC c_227y_180_0 (allC c_227y_180_1 (allC c_227y_180_2 (allC c_227y_180_3 (allC c_227y_180_4 (allC c_227y_180_5 (allC c_227y_180_6 (allC c_227y_180_7 (allC c_227y_180_8 allN)))))))))⟩ (allC ⟨p_227y_471, r_227y_471, fun q0 => (allC c_227y_471_0 (allC c_227y_471_1 (allC c_227y_471_2 (allC c_227y_471_3 (allC c_227y_471_4 (allC c_227y_471_5 allN))))))⟩ (allC ⟨p_227y_567, r_227y_567, fun q0 => (allC c_227y_567_0 (allC c_227y_567_1 (allC c_227y_567_2 allN)))⟩ allN)))))
theorem m_227y (d : Nat) : eC e_227y (d + 7) := eC_OK (d := d + 6) o_227y rfl ⟨m_216 (d + 5), ⟨m_217w (d + 5), ⟨m_218w (d + 5), ⟨m_219w (d + 4), ⟨m_220w (d + 3), ⟨m_223y (d + 2), ⟨m_228y d, ⟨m_229y (d + 1), ⟨m_230y (d + 1), trivial⟩⟩⟩⟩⟩⟩⟩⟩⟩ rfl (.inl rfl) (by decide +kernel)
