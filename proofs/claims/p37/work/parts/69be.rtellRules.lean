/- MixStageModel.tellRules ()V, more fully still -/
theorem o_231 : eOK e_231 L_231 cs_231 2000 A_231 mu_231 := eOK_of (tp := false) (p0 := p_231_s) (fun z => nomatch z) r_231_s (allC c_231_s_0 (allC c_231_s_1 (allC c_231_s_2 (allC c_231_s_3 (allC c_231_s_4 allN))))) (allC (.inl ⟨p_231_38, r_231_38, fun q0 => (allC c_231_38_0 (allC c_231_38_1 (allC c_231_38_2 (allC c_231_38_3 allN))))⟩) allN)
theorem o_231w : eOK e_231w L_231w cs_231 2000 (eAB A_231 B_231) mu_231 := eOK_ref (p1 := p_231w_s) o_231 (sub0 (sub1 (sub1 (sub1 trivial)))) r_231w_s (allC c_231w_s_0 allN) (allC ⟨p_231w_38, r_231w_38, fun q0 => (allC c_231w_38_0 (allC c_231w_38_1 (allC c_231w_38_2 allN)))⟩ allN)
def yb_231 (a0 : Int) (h0 h : gH) : Prop := RI h0 → ((vwR h0).1 (absR h0).1) = 19 → OTs h0 h (hV h0 285 35) ∧ (0 ≤ (absR h).1 → SSe h (hV h0 285 35) (vwR h0) (absR h0))
def y_231 : List Int → gH → gH → Prop := fun xs h0 h => match xs with
  | [a0] => yb_231 a0 h0 h
  | _ => True
noncomputable def e_231y : vE := eV e_231w y_231
noncomputable def L_231y : List vE := [e_216, e_219w, e_220w, e_232y]
def Byb_231_38 (a0 x0 : Int) (h0 h : gH) : Prop := RI h0 → ((vwR h0).1 (absR h0).1) = 19 → OTs h0 h (hV h0 285 35) ∧ 600 * hV h0 285 35 ≤ hV h 285 51 ∧ 200 * hV h0 285 35 ≤ hV h 285 44 ∧ (0 ≤ (absR h).1 → RSi h (hV h0 285 35) (vwR h0) (ptk (vwR h0) 19 (absR h0)) (absR h))
def By_231 : Int → List Int → gH → gH → Prop := fun c xs h0 h => match c.toNat with
  | 38 => (match xs with
    | [a0, x0] => Byb_231_38 a0 x0 h0 h
    | _ => False)
  | _ => True
theorem q_231y_0 {n0 n1 n2 n3 n4 n5 n6 n7 n8 n9 n10 n11 : Int} {H0 H1 H2 H3 H4 : gH} (f0 : n0 = 285) (f1 : hWt T0 H0 ∧ preb_231 n0 H0) (f2 : n1 = 306) (f3 : hK H0 (n0).toNat = 12) (f4 : n1 = hV H0 (n0).toNat 36) (f5 : n2 ≤ 1) (f6 : 0 ≤ n2) (f7 : hK H0 (n0).toNat = 12) (f8 : n2 = hV H0 (n0).toNat 35) (f9 : n3 = 0) (f10 : hK H0 (n1).toNat = 276) (f11 : hUpd H1 H0 n1 n2 n3) (f12 : n4 = 200) (f13 : n5 ≤ 1) (f14 : 0 ≤ n5) (f15 : hK H1 (n0).toNat = 12) (f16 : n5 = hV H1 (n0).toNat 35) (f17 : n6 = w32 (n4 * n5)) (f18 : hK H1 (n0).toNat = 12) (f19 : n7 = 44) (f20 : hUpd H2 H1 n0 n7 n6) (f21 : n8 = 600) (f22 : n9 ≤ 1) (f23 : 0 ≤ n9) (f24 : hK H2 (n0).toNat = 12) (f25 : n9 = hV H2 (n0).toNat 35) (f26 : n10 = w32 (n8 * n9)) (f27 : hK H2 (n0).toNat = 12) (f28 : n11 = 51) (f29 : hUpd H3 H2 n0 n11 n10) (f30 : (hLe T0 H3 H4 ∧ hFr s_219.2.2.2.2 H3 H4 ∧ ((0 : Int) = 0 → H4.length = H3.length) ∧ hWt T0 H4) ∧ (postb_219 n0 H3 H4 ∧ nb_219 n0 H3 H4)) : Byb_231_38 n0 n0 H0 H4 := by
  unfold Byb_231_38
  intro z kd
  have d8 := rdS (q := 285) f8 f0
  have d16 := rdS (q := 285) f16 f0
  have d25 := rdS (q := 285) f25 f0
  have p0 := PR_row (q := 306) f11 f2 (by decide) z
  have v0 : vwR H1 = vwR H0 := p0.2.1
  have ah0 : absR H1 = (absR H0) := p0.1
  have p1 := PR_slot (s := 44) f20 f0 f19 (by decide) p0.2.2.1
  have v1 : vwR H2 = vwR H0 := p1.2.1.trans v0
  have ah1 : absR H2 = (absR H0) := p1.1.trans ah0
  have p2 := PR_slot (s := 51) f29 f0 f28 (by decide) p1.2.2.1
  have v2 : vwR H3 = vwR H0 := p2.2.1.trans v1
  have ah2 : absR H3 = (absR H0) := p2.1.trans ah1
  have c3 := f30.2.2 p2.2.2.1 (by rw [v2, ah2]; rw [kd]; decide)
  rw [v2, ah2, kd] at c3
  have v3 : vwR H4 = vwR H0 := (vwR_fr f30.1.2.1 (by decide +kernel)).trans v2
  have b35 := f1.1 285 35 _ _ rW_35
  have e35_8 : n2 = hV H0 285 35 := d8
  have e35_16 : n5 = hV H0 285 35 := d16.trans (uPlace f11 285 35 (by rw [f2]; decide))
  have e35_25 : n9 = hV H0 285 35 := d25.trans ((uSlot f20 285 35 (by rw [f19]; decide)).trans (uPlace f11 285 35 (by rw [f2]; decide)))
  have u1 := uRowQ f11 306 f2
  rw [f9] at u1
  have m17 := f17
  rw [f12] at m17
  rw [w32_id (by omega) (by omega)] at m17
  have m26 := f26
  rw [f21] at m26
  rw [w32_id (by omega) (by omega)] at m26
  have z1_ : ZRs H1 H4 := (ZRs_tr (ZRs_up f20 (by rw [f0]; decide)) (ZRs_tr (ZRs_up f29 (by rw [f0]; decide)) (ZRs_fr f30.1.2.1 (by decide +kernel))))
  have e51 : hV H4 285 51 = n10 := (f30.1.2.1.1 285 51 (by decide +kernel)).trans (uSame f29 285 51 (by rw [f0]; rfl) (by rw [f28]; rfl))
  have e44 : hV H4 285 44 = n6 := (f30.1.2.1.1 285 44 (by decide +kernel)).trans ((uSlot f29 285 44 (by rw [f28]; decide)).trans (uSame f20 285 44 (by rw [f0]; rfl) (by rw [f19]; rfl)))
  have r6 : hV H4 306 = uF (hV H0 306) (hV H0 285 35) 0 := by
    rw [z1_ 306 (by decide) (by decide), u1, show n2 = hV H0 285 35 by omega]
  have ot : OTs H0 H4 (hV H0 285 35) := by
    refine ⟨fun i _ => ⟨by rw [show hV H4 320 = hV H0 320 from (fRow f30.1.2.1 320 (by decide +kernel)).trans ((uRowNe f29 320 (by rw [f0]; decide)).trans ((uRowNe f20 320 (by rw [f0]; decide)).trans (uRowNe f11 320 (by rw [f2]; decide))))], by rw [show hV H4 321 = hV H0 321 from (fRow f30.1.2.1 321 (by decide +kernel)).trans ((uRowNe f29 321 (by rw [f0]; decide)).trans ((uRowNe f20 321 (by rw [f0]; decide)).trans (uRowNe f11 321 (by rw [f2]; decide))))]⟩, ?_, ?_, fun i n => by rw [r6, uF_at, if_neg n]⟩
    · intro q q1 q2 i _
      rcases (show q = 314 ∨ q = 315 ∨ q = 316 ∨ q = 317 ∨ q = 318 ∨ q = 319 by omega) with w | w | w | w | w | w <;> subst w
      · rw [show hV H4 314 = hV H0 314 from (fRow f30.1.2.1 314 (by decide +kernel)).trans ((uRowNe f29 314 (by rw [f0]; decide)).trans ((uRowNe f20 314 (by rw [f0]; decide)).trans (uRowNe f11 314 (by rw [f2]; decide))))]
      · rw [show hV H4 315 = hV H0 315 from (fRow f30.1.2.1 315 (by decide +kernel)).trans ((uRowNe f29 315 (by rw [f0]; decide)).trans ((uRowNe f20 315 (by rw [f0]; decide)).trans (uRowNe f11 315 (by rw [f2]; decide))))]
      · rw [show hV H4 316 = hV H0 316 from (fRow f30.1.2.1 316 (by decide +kernel)).trans ((uRowNe f29 316 (by rw [f0]; decide)).trans ((uRowNe f20 316 (by rw [f0]; decide)).trans (uRowNe f11 316 (by rw [f2]; decide))))]
      · rw [show hV H4 317 = hV H0 317 from (fRow f30.1.2.1 317 (by decide +kernel)).trans ((uRowNe f29 317 (by rw [f0]; decide)).trans ((uRowNe f20 317 (by rw [f0]; decide)).trans (uRowNe f11 317 (by rw [f2]; decide))))]
      · rw [show hV H4 318 = hV H0 318 from (fRow f30.1.2.1 318 (by decide +kernel)).trans ((uRowNe f29 318 (by rw [f0]; decide)).trans ((uRowNe f20 318 (by rw [f0]; decide)).trans (uRowNe f11 318 (by rw [f2]; decide))))]
      · rw [show hV H4 319 = hV H0 319 from (fRow f30.1.2.1 319 (by decide +kernel)).trans ((uRowNe f29 319 (by rw [f0]; decide)).trans ((uRowNe f20 319 (by rw [f0]; decide)).trans (uRowNe f11 319 (by rw [f2]; decide))))]
    · intro q q1 q2 i _
      rcases (show q = 307 ∨ q = 308 ∨ q = 309 ∨ q = 310 ∨ q = 311 by omega) with w | w | w | w | w <;> subst w
      · rw [show hV H4 307 = hV H0 307 from (fRow f30.1.2.1 307 (by decide +kernel)).trans ((uRowNe f29 307 (by rw [f0]; decide)).trans ((uRowNe f20 307 (by rw [f0]; decide)).trans (uRowNe f11 307 (by rw [f2]; decide))))]
      · rw [show hV H4 308 = hV H0 308 from (fRow f30.1.2.1 308 (by decide +kernel)).trans ((uRowNe f29 308 (by rw [f0]; decide)).trans ((uRowNe f20 308 (by rw [f0]; decide)).trans (uRowNe f11 308 (by rw [f2]; decide))))]
      · rw [show hV H4 309 = hV H0 309 from (fRow f30.1.2.1 309 (by decide +kernel)).trans ((uRowNe f29 309 (by rw [f0]; decide)).trans ((uRowNe f20 309 (by rw [f0]; decide)).trans (uRowNe f11 309 (by rw [f2]; decide))))]
      · rw [show hV H4 310 = hV H0 310 from (fRow f30.1.2.1 310 (by decide +kernel)).trans ((uRowNe f29 310 (by rw [f0]; decide)).trans ((uRowNe f20 310 (by rw [f0]; decide)).trans (uRowNe f11 310 (by rw [f2]; decide))))]
      · rw [show hV H4 311 = hV H0 311 from (fRow f30.1.2.1 311 (by decide +kernel)).trans ((uRowNe f29 311 (by rw [f0]; decide)).trans ((uRowNe f20 311 (by rw [f0]; decide)).trans (uRowNe f11 311 (by rw [f2]; decide))))]
  refine ⟨ot, by omega, by omega, fun hp => ?_⟩
  rw [c3.2]
  refine RSi_0 ?_
  rw [r6, uF_at, if_pos (by omega)]
def g_231y_s_0 : vG := ([(1219, [0], [3, 4], 0), (80, [0, 11, 10], [3, 2], 0), (0, [11], [], 51), (23, [0], [2], 12), (3, [10, 8, 9], [], 0), (20, [9, 0], [2], 35), (23, [0], [2], 12), (90, [9], [], 0), (91, [9], [], 1), (0, [8], [], 600), (80, [0, 7, 6], [2, 1], 0), (0, [7], [], 44), (23, [0], [1], 12), (3, [6, 4, 5], [], 0), (20, [5, 0], [1], 35), (23, [0], [1], 12), (90, [5], [], 0), (91, [5], [], 1), (0, [4], [], 200), (80, [1, 2, 3], [1, 0], 0), (23, [1], [0], 276), (0, [3], [], 0), (20, [2, 0], [0], 35), (23, [0], [0], 12), (90, [2], [], 0), (91, [2], [], 1), (20, [1, 0], [0], 36), (23, [0], [0], 12), (0, [1], [], 306), (6000, [0], [0], 0), (0, [0], [], 285)], (4000, [0], [4], 38))
theorem c_231y_s_0 : vOkm T0 (eN e_231w L_231y (eAB A_231 B_231) mu_231 y_231 By_231 none) 1 g_231y_s_0 := vOk_inI fun ρ η f0 f1 f2 f3 f4 f5 f6 f7 f8 f9 f10 f11 f12 f13 f14 f15 f16 f17 f18 f19 f20 f21 f22 f23 f24 f25 f26 f27 f28 f29 f30 => q_231y_0 (n0 := ρ 0) (n1 := ρ 1) (n2 := ρ 2) (n3 := ρ 3) (n4 := ρ 4) (n5 := ρ 5) (n6 := ρ 6) (n7 := ρ 7) (n8 := ρ 8) (n9 := ρ 9) (n10 := ρ 10) (n11 := ρ 11) (H0 := η 0) (H1 := η 1) (H2 := η 2) (H3 := η 3) (H4 := η 4) f30 f29 f28 f27 f26 f25 f24 f23 f22 f21 f20 f19 f18 f17 f16 f15 f14 f13 f12 f11 f10 f9 f8 f7 f6 f5 f4 f3 f2 f1 f0
def p_231y_s : List vG := [g_231y_s_0]
theorem r_231y_s : vCovBO (eR0 e_231w L_231w cs_231 2000) p_231y_s = true := by decide +kernel
theorem q_231y_1 {q0 : Nat} {n0 n1 n2 n3 : Int} {H0 H1 H2 : gH} (f0 : n0 = 285) (f1 : n1 = 285) (f2 : (hLe T0 H0 H1 ∧ hFr s_231.2.2.2.2 H0 H1 ∧ hWt T0 H1) ∧ (((Ab_231_38 n1 n0 H0 H1 ∧ Bb_231_38 n1 n0 H0 H1) ∧ Byb_231_38 n1 n0 H0 H1) ∧ preb_231 n1 H0) ∧ some q0 = some (mub_231_38 n1 n0 H0 H1)) (f3 : n2 ≤ 2) (f4 : 0 ≤ n2) (f5 : hK H1 (n0).toNat = 12) (f6 : n2 = hV H1 (n0).toNat 13) (f7 : n2 ≠ 0) (f8 : n3 = 21) (f9 : (hLe T0 H1 H2 ∧ hFr s_220.2.2.2.2 H1 H2 ∧ ((0 : Int) = 0 → H2.length = H1.length) ∧ hWt T0 H2) ∧ (postb_220 n0 n3 H1 H2 ∧ nb_220 n0 n3 H1 H2)) : yb_231 n1 H0 H2 := by
  unfold yb_231
  intro z kd
  have ga := f2.2.1.1.1.2
  unfold Bb_231_38 at ga
  obtain ⟨z1, mb, y1⟩ := ga z kd
  have vz : vwR H1 = vwR H0 := vwR_fr f2.1.2.1 (by decide +kernel)
  have gy := f2.2.1.1.2
  unfold Byb_231_38 at gy
  obtain ⟨ot, c0, l0, ky⟩ := gy z kd
  have d6 := rdS (q := 285) f6 f0
  have q7 := f7
  have fx : hV H1 285 35 = hV H0 285 35 := f2.1.2.1.1 285 35 (by decide +kernel)
  have b35 := f2.1.2.2 285 35 _ _ rW_35
  have ab := f2.2.1.1.1.1
  unfold Ab_231_38 at ab
  have c0 := f9.2.2 z1 (by rw [f8]; decide)
  try rw [f8] at c0
  rw [vz, kmc_21] at c0
  have v0 : vwR H2 = vwR H0 := (vwR_fr f9.1.2.1 (by decide +kernel)).trans vz
  have lo := z1.2.2.2.1
  have xk : XRk H1 H2 := (XRk_fr f9.1.2.1 (by decide +kernel))
  have yk : YRs H1 H2 := (YRs_fr f9.1.2.1 (by decide +kernel))
  have zk : ZRs H1 H2 := (ZRs_fr f9.1.2.1 (by decide +kernel))
  refine ⟨OTs_tr ot (OTs_k xk yk zk), fun hp => ?_⟩
  rw [c0.2] at hp
  have kq := pt1R_kind z hp
  have h1 := kq.1
  have k17 : (vwR H0).1 (absR H1).1 = 17 := kq.2
  have hf := faultR_no z1 h1
  have r5 := absR_500 z1 hf
  have ap := absR_pos z1 hf
  have re := RSi_end (ky h1) (by omega) (by omega) (by omega)
  exact SSe_k (by omega) xk yk zk re
def g_231y_38_0 : vG := ([(1220, [1, 3], [1, 2], 0), (0, [3], [], 21), (31, [2], [], 0), (20, [2, 1], [1], 13), (23, [1], [1], 12), (90, [2], [], 0), (91, [2], [], 2), (5000, [0, 1], [0, 1], 38), (0, [0], [], 285), (0, [1], [], 285)], (3000, [], [2], 67))
theorem c_231y_38_0 {q0 : Nat} : vOkm T0 (eN e_231w L_231y (eAB A_231 B_231) mu_231 y_231 By_231 (some q0)) 1 g_231y_38_0 := vOk_inI fun ρ η f0 f1 f2 f3 f4 f5 f6 f7 f8 f9 => q_231y_1 (q0 := q0) (n0 := ρ 1) (n1 := ρ 0) (n2 := ρ 2) (n3 := ρ 3) (H0 := η 0) (H1 := η 1) (H2 := η 2) f9 f8 f7 f6 f5 f4 f3 f2 f1 f0
theorem q_231y_2 {q0 : Nat} {n0 n1 n2 n3 n4 n5 : Int} {H0 H1 H2 H3 : gH} (f0 : n0 = 285) (f1 : n1 = 285) (f2 : (hLe T0 H0 H1 ∧ hFr s_231.2.2.2.2 H0 H1 ∧ hWt T0 H1) ∧ (((Ab_231_38 n1 n0 H0 H1 ∧ Bb_231_38 n1 n0 H0 H1) ∧ Byb_231_38 n1 n0 H0 H1) ∧ preb_231 n1 H0) ∧ some q0 = some (mub_231_38 n1 n0 H0 H1)) (f3 : n2 ≤ 2) (f4 : 0 ≤ n2) (f5 : hK H1 (n0).toNat = 12) (f6 : n2 = hV H1 (n0).toNat 13) (f7 : n2 = 0) (f8 : n3 = 21) (f9 : n4 ≤ 1) (f10 : 0 ≤ n4) (f11 : (hLe T0 H1 H2 ∧ hFr s_216.2.2.2.2 H1 H2 ∧ ((0 : Int) = 0 → H2.length = H1.length) ∧ hWt T0 H2) ∧ postb_216 n4 n0 n3 H1 H2) (f12 : n4 ≠ 0) (f13 : n5 = 21) (f14 : (hLe T0 H2 H3 ∧ hFr s_220.2.2.2.2 H2 H3 ∧ ((0 : Int) = 0 → H3.length = H2.length) ∧ hWt T0 H3) ∧ (postb_220 n0 n5 H2 H3 ∧ nb_220 n0 n5 H2 H3)) : yb_231 n1 H0 H3 := by
  unfold yb_231
  intro z kd
  have ga := f2.2.1.1.1.2
  unfold Bb_231_38 at ga
  obtain ⟨z1, mb, y1⟩ := ga z kd
  have vz : vwR H1 = vwR H0 := vwR_fr f2.1.2.1 (by decide +kernel)
  have gy := f2.2.1.1.2
  unfold Byb_231_38 at gy
  obtain ⟨ot, c0, l0, ky⟩ := gy z kd
  have d6 := rdS (q := 285) f6 f0
  have q7 := f7
  have q12 := f12
  have fx : hV H1 285 35 = hV H0 285 35 := f2.1.2.1.1 285 35 (by decide +kernel)
  have b35 := f2.1.2.2 285 35 _ _ rW_35
  have ab := f2.2.1.1.1.1
  unfold Ab_231_38 at ab
  have p0 := PR_fr f11.1.2.1 (by decide +kernel) z1
  have v0 : vwR H2 = vwR H0 := p0.2.1.trans vz
  have ah0 : absR H2 = (absR H1) := p0.1
  have i0 := f11.2
  unfold postb_216 at i0
  rw [f8] at i0
  have cm0 := f12
  have b0 := (isR_or (k := 21) p0.2.2.1 (by decide) i0).resolve_right (fun w => cm0 w.1)
  replace b0 := b0.2
  rw [v0, ah0, kmc_21] at b0
  have c1 := f14.2.2 p0.2.2.1 (by rw [f13]; decide)
  try rw [f13] at c1
  rw [v0, ah0, kmc_21] at c1
  have v1 : vwR H3 = vwR H0 := (vwR_fr f14.1.2.1 (by decide +kernel)).trans v0
  have lo := z1.2.2.2.1
  have xk : XRk H1 H3 := (XRk_tr (XRk_fr f11.1.2.1 (by decide +kernel)) (XRk_fr f14.1.2.1 (by decide +kernel)))
  have yk : YRs H1 H3 := (YRs_tr (YRs_fr f11.1.2.1 (by decide +kernel)) (YRs_fr f14.1.2.1 (by decide +kernel)))
  have zk : ZRs H1 H3 := (ZRs_tr (ZRs_fr f11.1.2.1 (by decide +kernel)) (ZRs_fr f14.1.2.1 (by decide +kernel)))
  refine ⟨OTs_tr ot (OTs_k xk yk zk), fun hp => ?_⟩
  rw [c1.2] at hp
  have kq := pt1R_kind z hp
  have h1 := kq.1
  have k17 : (vwR H0).1 (absR H1).1 = 17 := kq.2
  have hf := faultR_no z1 h1
  have r5 := absR_500 z1 hf
  have ap := absR_pos z1 hf
  have re := RSi_end (ky h1) (by omega) (by omega) (by omega)
  exact SSe_k (by omega) xk yk zk re
def g_231y_38_1 : vG := ([(1220, [1, 5], [2, 3], 0), (0, [5], [], 21), (31, [4], [], 0), (1216, [4, 1, 3], [1, 2], 0), (90, [4], [], 0), (91, [4], [], 1), (0, [3], [], 21), (30, [2], [], 0), (20, [2, 1], [1], 13), (23, [1], [1], 12), (90, [2], [], 0), (91, [2], [], 2), (5000, [0, 1], [0, 1], 38), (0, [0], [], 285), (0, [1], [], 285)], (3000, [], [3], 67))
theorem c_231y_38_1 {q0 : Nat} : vOkm T0 (eN e_231w L_231y (eAB A_231 B_231) mu_231 y_231 By_231 (some q0)) 1 g_231y_38_1 := vOk_inI fun ρ η f0 f1 f2 f3 f4 f5 f6 f7 f8 f9 f10 f11 f12 f13 f14 => q_231y_2 (q0 := q0) (n0 := ρ 1) (n1 := ρ 0) (n2 := ρ 2) (n3 := ρ 3) (n4 := ρ 4) (n5 := ρ 5) (H0 := η 0) (H1 := η 1) (H2 := η 2) (H3 := η 3) f14 f13 f12 f11 f10 f9 f8 f7 f6 f5 f4 f3 f2 f1 f0
theorem q_231y_3 {q0 : Nat} {n0 n1 n2 n3 n4 : Int} {H0 H1 H2 H3 : gH} (f0 : n0 = 285) (f1 : n1 = 285) (f2 : (hLe T0 H0 H1 ∧ hFr s_231.2.2.2.2 H0 H1 ∧ hWt T0 H1) ∧ (((Ab_231_38 n1 n0 H0 H1 ∧ Bb_231_38 n1 n0 H0 H1) ∧ Byb_231_38 n1 n0 H0 H1) ∧ preb_231 n1 H0) ∧ some q0 = some (mub_231_38 n1 n0 H0 H1)) (f3 : n2 ≤ 2) (f4 : 0 ≤ n2) (f5 : hK H1 (n0).toNat = 12) (f6 : n2 = hV H1 (n0).toNat 13) (f7 : n2 = 0) (f8 : n3 = 21) (f9 : n4 ≤ 1) (f10 : 0 ≤ n4) (f11 : (hLe T0 H1 H2 ∧ hFr s_216.2.2.2.2 H1 H2 ∧ ((0 : Int) = 0 → H2.length = H1.length) ∧ hWt T0 H2) ∧ postb_216 n4 n0 n3 H1 H2) (f12 : n4 = 0) (f13 : (hLe T0 H2 H3 ∧ hFr s_232.2.2.2.2 H2 H3 ∧ ((0 : Int) = 0 → H3.length = H2.length) ∧ hWt T0 H3) ∧ ((postb_232 n0 H2 H3 ∧ nb_232 n0 H2 H3) ∧ yb_232 n0 H2 H3)) : Byb_231_38 n1 n0 H0 H3 := by
  unfold Byb_231_38
  intro z kd
  have ga := f2.2.1.1.1.2
  unfold Bb_231_38 at ga
  obtain ⟨z1, mb, y1⟩ := ga z kd
  have vz : vwR H1 = vwR H0 := vwR_fr f2.1.2.1 (by decide +kernel)
  have gy := f2.2.1.1.2
  unfold Byb_231_38 at gy
  obtain ⟨ot, c0, l0, ky⟩ := gy z kd
  have d6 := rdS (q := 285) f6 f0
  have q7 := f7
  have q12 := f12
  have fx : hV H1 285 35 = hV H0 285 35 := f2.1.2.1.1 285 35 (by decide +kernel)
  have b35 := f2.1.2.2 285 35 _ _ rW_35
  have ab := f2.2.1.1.1.1
  unfold Ab_231_38 at ab
  have p0 := PR_fr f11.1.2.1 (by decide +kernel) z1
  have v0 : vwR H2 = vwR H0 := p0.2.1.trans vz
  have ah0 : absR H2 = (absR H1) := p0.1
  have i0 := f11.2
  unfold postb_216 at i0
  rw [f8] at i0
  have cm0 := f12
  have b0 := (isR_or (k := 21) p0.2.2.1 (by decide) i0).resolve_left (fun w => absurd (w.1.symm.trans cm0) (by decide))
  replace b0 := b0.2
  rw [v0, ah0, kmc_21] at b0
  have lo := z1.2.2.2.1
  have xb : XRk H1 H2 := (XRk_fr f11.1.2.1 (by decide +kernel))
  have yb : YRs H1 H2 := (YRs_fr f11.1.2.1 (by decide +kernel))
  have zb : ZRs H1 H2 := (ZRs_fr f11.1.2.1 (by decide +kernel))
  have s35_ : hV H2 285 35 = hV H1 285 35 := f11.1.2.1.1 285 35 (by decide +kernel)
  have mb1 := mb (by omega)
  have r6b : hV H2 306 = hV H1 306 := zb 306 (by decide) (by decide)
  have n := f13.2.1.2 p0.2.2.1
  rw [v0, ah0, r6b, s35_, fx] at n
  obtain ⟨m1, m2, m3⟩ := n
  have tq := f13.2.2
  unfold yb_232 at tq
  have tq := tq p0.2.2.1 (by rw [xb.1]; omega) (by rw [yb.1]; omega)
  rw [v0, ah0, r6b, s35_, fx] at tq
  obtain ⟨t1, t2, t3, t4, t5⟩ := tq
  have lm := m1.2.2.2.1
  have pa := f13.2.1.1
  unfold postb_232 at pa
  have s35c : hV H3 285 35 = hV H2 285 35 := f13.1.2.1.1 285 35 (by decide +kernel)
  have c51 := t1.1
  have c44 := t2.1
  have b51 := xb.1
  have b44 := yb.1
  have pe := pa
  have kcA := KPc_tr (KPc_x xb) t1
  have klA := KPl_tr (KPl_y yb) t2
  have hi : hV H3 285 51 ≤ 600 * hV H0 285 35 + 600 ∧ hV H3 285 44 ≤ 200 * hV H0 285 35 + 200 := by
    have tb := m1.2.2.1
    have fb := m1.2.2.2.2.1
    have s2 : hV H3 285 35 = hV H0 285 35 := s35c.trans (s35_.trans fx)
    omega
  have ot2 : OTs H1 H3 (hV H0 285 35) := by
    refine ⟨fun i hi_ => kcA.2 i (by omega), fun q q1 q2 i hi_ => klA.2 q q1 q2 i (by omega), fun q q1 q2 i hi_ => ?_, fun i hi_ => ?_⟩
    · rw [t3 q q1 q2 i (by omega), zb q (by omega) q2]
    · exact t4 i hi_
  refine ⟨OTs_tr ot ot2, by omega, by omega, fun hp => ?_⟩
  have f0 := faultR_no m1 hp
  have u := m3 f0
  have m2_ := m2
  have go : ((vwR H0).1 (absR H1).1 = 38 ∨ (vwR H0).1 (absR H1).1 = 40) ∧ ¬ hV H1 306 (hV H0 285 35).toNat = 12 ∧ absR H3 = ptk (vwR H0) 4 (if (vwR H0).1 (absR H1).1 = 38 then pRight (vwR H0) (absR H1) else pLoud (vwR H0) (absR H1)) := by
    rcases m2 with ⟨_, w⟩ | ⟨_, _, w⟩ | w
    · exact absurd f0 (faultR_of m1 (by rw [w]; exact pfailR_lt z (by decide)))
    · exact absurd f0 (faultR_of m1 (by rw [w]; exact pfailR_lt z (by decide)))
    · exact w
  obtain ⟨q1, q2⟩ := t5 hp
  obtain ⟨g1, g2, g3⟩ := go
  rw [b51, b44] at q1
  refine RSi_step (by have := b35.1; omega) (ky (absR_500 z1 (by omega)).1) g1 g2 c0 l0 kcA klA (fun q qa qb i n => ?_) u q1 q2 g3
  rw [t3 q qa qb i (.inl n), zb q (by omega) qb]
def g_231y_38_2 : vG := ([(1232, [1], [2, 3], 0), (30, [4], [], 0), (1216, [4, 1, 3], [1, 2], 0), (90, [4], [], 0), (91, [4], [], 1), (0, [3], [], 21), (30, [2], [], 0), (20, [2, 1], [1], 13), (23, [1], [1], 12), (90, [2], [], 0), (91, [2], [], 2), (5000, [0, 1], [0, 1], 38), (0, [0], [], 285), (0, [1], [], 285)], (4000, [1], [3], 38))
theorem c_231y_38_2 {q0 : Nat} : vOkm T0 (eN e_231w L_231y (eAB A_231 B_231) mu_231 y_231 By_231 (some q0)) 1 g_231y_38_2 := vOk_inI fun ρ η f0 f1 f2 f3 f4 f5 f6 f7 f8 f9 f10 f11 f12 f13 => q_231y_3 (q0 := q0) (n0 := ρ 1) (n1 := ρ 0) (n2 := ρ 2) (n3 := ρ 3) (n4 := ρ 4) (H0 := η 0) (H1 := η 1) (H2 := η 2) (H3 := η 3) f13 f12 f11 f10 f9 f8 f7 f6 f5 f4 f3 f2 f1 f0
def p_231y_38 : List vG := [g_231y_38_0,
  g_231y_38_1,
  g_231y_38_2]
theorem r_231y_38 : vCovBO (eRc e_231w L_231w cs_231 2000 (38, [(0, (3, 12, 285, 0))])) p_231y_38 = true := by decide +kernel
theorem o_231y : eOK e_231y L_231y cs_231 2000 (eAB (eAB A_231 B_231) By_231) mu_231 := eOK_ref (p1 := p_231y_s) o_231w (sub0 (sub0 (sub0 (sub1 trivial)))) r_231y_s (allC c_231y_s_0 allN) (allC ⟨p_231y_38, r_231y_38, fun q0 => (allC c_231y_38_0 (allC c_231y_38_1 (allC c_231y_38_2 allN)))⟩ allN)
theorem m_231y (d : Nat) : eC e_231y (d + 7) := eC_OK (d := d + 6) o_231y rfl ⟨m_216 (d + 5), ⟨m_219w (d + 4), ⟨m_220w (d + 3), ⟨m_232y d, trivial⟩⟩⟩⟩ rfl (.inl rfl) (by decide +kernel)
