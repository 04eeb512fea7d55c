/-! CONTRACTS of methods (printed by wip/gen/emit.py). -/
/- MixStageModel.tellTime (IZ)V -/
noncomputable def s_229 : vM := ([(3, 12, 285, 0), (0, 0, 1007, 0), (0, 0, 1, 0)], (9, 0, 0, 0), 1, 0, [(12, 11), (12, 13), (12, 14), (12, 15), (12, 16), (236, 0), (244, 0), (252, 0), (260, 0)])
def preb_229 (a0 a1 a2 : Int) (h : gH) : Prop := PA h ∧ hV h 285 32 = hV h 285 18 ∧ hV h 285 18 ≤ 7 ∧ 7 * hV h 285 32 + hV h 294 ((hV h 285 32).toNat) ≤ hV h 285 33 ∧ hV h 285 33 ≤ 7 * hV h 285 32 + 6 ∧ (hV h 285 13 = 0 → hV h 285 15 = 0 → PW h) ∧ 16 * hV h 285 33 + hV h 296 ((hV h 285 33).toNat) ≤ a1 ∧ PQ h
def pre_229 : List Int → gH → Prop := fun xs h => match xs with
  | [a0, a1, a2] => preb_229 a0 a1 a2 h
  | _ => False
def postb_229 (a0 a1 a2 : Int) (h0 h : gH) : Prop := PA h ∧ (hV h 285 13 = 0 → hV h 285 15 = 0 → PW h) ∧ hV h0 285 11 ≤ hV h 285 11 ∧ hV h0 285 11 + 1 ≤ hV h 285 11 + hV h 285 13 ∧ hV h0 285 13 ≤ hV h 285 13 ∧ hV h0 285 15 ≤ 6 * hV h 285 15 ∧ hV h0 285 15 ≤ 6 ∧ (a2 = 0 → hV h 301 ((a1).toNat) ≤ 7 + 9999 * (hV h 285 13 + hV h 285 15) ∧ -60 - 9999 * (hV h 285 13 + hV h 285 15) ≤ hV h 302 ((a1).toNat) ∧ hV h 302 ((a1).toNat) ≤ 60 + 9999 * (hV h 285 13 + hV h 285 15) ∧ hV h 301 ((a1).toNat) ≤ 9999 ∧ -9999 ≤ hV h 302 ((a1).toNat) ∧ hV h 302 ((a1).toNat) ≤ 9999 ∧ hV h 303 ((a1).toNat) = hV h0 303 ((a1).toNat)) ∧ (a2 = 1 → hV h 303 ((a1).toNat) ≤ 7 + 9999 * (hV h 285 13 + hV h 285 15) ∧ hV h 303 ((a1).toNat) ≤ 9999 ∧ hV h 301 ((a1).toNat) = hV h0 301 ((a1).toNat) ∧ hV h 302 ((a1).toNat) = hV h0 302 ((a1).toNat))
def post_229 : List Int → gH → gH → Prop := fun xs h0 h => match xs with
  | [a0, a1, a2] => postb_229 a0 a1 a2 h0 h
  | _ => True
noncomputable def e_229 : vE := (229, s_229, pre_229, post_229)
noncomputable def L_229 : List vE := [e_216, e_219, e_223]
def cs_229 : List vC := [(88, [(0, (3, 12, 285, 0)), (1, (0, 0, 1007, 0)), (2, (0, 0, 1, 0)), (3, (0, -1, 9999, 0)), (4, (0, -9999, 9999, 0))])]
def Ab_229_88 (a0 a1 a2 x0 x1 x2 x3 x4 : Int) (h0 h : gH) : Prop := x1 = a1 ∧ x2 = a2 ∧ PA h ∧ (hV h 285 13 = 0 → hV h 285 15 = 0 → PW h) ∧ hV h0 285 11 ≤ hV h 285 11 ∧ hV h0 285 11 + 1 ≤ hV h 285 11 + hV h 285 13 ∧ hV h0 285 13 ≤ hV h 285 13 ∧ hV h0 285 15 ≤ 6 * hV h 285 15 ∧ hV h0 285 15 ≤ 6 ∧ x3 ≤ 7 + 9999 * (hV h 285 13 + hV h 285 15) ∧ -60 - 9999 * (hV h 285 13 + hV h 285 15) ≤ x4 ∧ x4 ≤ 60 + 9999 * (hV h 285 13 + hV h 285 15) ∧ hV h 301 ((a1).toNat) = hV h0 301 ((a1).toNat) ∧ hV h 302 ((a1).toNat) = hV h0 302 ((a1).toNat) ∧ hV h 303 ((a1).toNat) = hV h0 303 ((a1).toNat)
def mub_229_88 (a0 a1 a2 x0 x1 x2 x3 x4 : Int) (h0 h : gH) : Nat := 0
def A_229 : Int → List Int → gH → gH → Prop := fun c xs h0 h => match c.toNat with
  | 88 => (match xs with
    | [a0, a1, a2, x0, x1, x2, x3, x4] => Ab_229_88 a0 a1 a2 x0 x1 x2 x3 x4 h0 h
    | _ => False)
  | _ => True
def mu_229 : Int → List Int → gH → gH → Nat := fun c xs h0 h => match c.toNat with
  | 88 => 0
  | _ => 0
set_option maxHeartbeats 20000000 in
theorem kR_223_301 : vFreeR s_223.2.2.2.2 301 = true := by decide +kernel
theorem kR_216_301 : vFreeR s_216.2.2.2.2 301 = true := by decide +kernel
theorem kR_223_302 : vFreeR s_223.2.2.2.2 302 = true := by decide +kernel
theorem kR_216_302 : vFreeR s_216.2.2.2.2 302 = true := by decide +kernel
theorem kR_223_303 : vFreeR s_223.2.2.2.2 303 = true := by decide +kernel
theorem kR_216_303 : vFreeR s_216.2.2.2.2 303 = true := by decide +kernel
theorem kW_285_32 : vRg T0 285 32 (0) (7) = true := by decide +kernel
theorem kW_285_33 : vRg T0 285 33 (0) (62) = true := by decide +kernel
theorem q_229_0 {n0 n1 n2 n3 n4 n5 n6 n7 n8 : Int} {H0 H1 H2 : gH} (f0 : n0 ≤ 1) (f1 : 0 ≤ n0) (f2 : n1 ≤ 1007) (f3 : 0 ≤ n1) (f4 : n2 = 285) (f5 : hWt T0 H0 ∧ preb_229 n2 n1 n0 H0) (f6 : n3 = (-1)) (f7 : n4 = 41) (f8 : n5 ≤ 1) (f9 : 0 ≤ n5) (f10 : (hLe T0 H0 H1 ∧ hFr s_216.2.2.2.2 H0 H1 ∧ ((0 : Int) = 0 → H1.length = H0.length) ∧ hWt T0 H1) ∧ postb_216 n5 n2 n4 H0 H1) (f11 : n5 = 0) (f12 : n6 = 0) (f13 : n7 = 60) (f14 : n8 ≤ 9999) (f15 : 0 ≤ n8) (f16 : (hLe T0 H1 H2 ∧ hFr s_223.2.2.2.2 H1 H2 ∧ ((0 : Int) = 0 → H2.length = H1.length) ∧ hWt T0 H2) ∧ postb_223 n8 n2 n6 n7 H1 H2) : Ab_229_88 n2 n1 n0 n2 n1 n0 n3 n8 H0 H2 ∧ ∀ q, none = some q → mub_229_88 n2 n1 n0 n2 n1 n0 n3 n8 H0 H2 < q := by
  unfold preb_229 at f5
  unfold postb_216 at f10
  unfold postb_223 at f16
  unfold Ab_229_88
  have e1 : hV H1 285 11 = hV H0 285 11 := (f10.1.2.1.1 285 11 kF_216_285_11)
  have e3 : hV H1 285 13 = hV H0 285 13 := (f10.1.2.1.1 285 13 kF_216_285_13)
  have e5 : hV H1 285 15 = hV H0 285 15 := (f10.1.2.1.1 285 15 kF_216_285_15)
  have e11 : hV H2 301 = hV H0 301 := (fRow f16.1.2.1 301 kR_223_301).trans (fRow f10.1.2.1 301 kR_216_301)
  have e14 : hV H2 302 = hV H0 302 := (fRow f16.1.2.1 302 kR_223_302).trans (fRow f10.1.2.1 302 kR_216_302)
  have e17 : hV H2 303 = hV H0 303 := (fRow f16.1.2.1 303 kR_223_303).trans (fRow f10.1.2.1 303 kR_216_303)
  have e18 : PA H1 = PA H0 := PA_fr f10.1.2.1 (by decide +kernel)
  have e19 : PA H2 = PA H1 := PA_fr f16.1.2.1 (by decide +kernel)
  have e20 : PA H2 = PA H0 := e19.trans e18
  have e21 : PW H1 = PW H0 := PW_fr f10.1.2.1 (by decide +kernel)
  have e22 : PW H2 = PW H1 := PW_fr f16.1.2.1 (by decide +kernel)
  have e23 : PW H2 = PW H0 := e22.trans e21
  have e24 : (0 : Int) ≤ hV H0 285 11 ∧ hV H0 285 11 ≤ 500 := f5.1 285 11 _ _ kW_285_11
  have e25 : (0 : Int) ≤ hV H0 285 13 ∧ hV H0 285 13 ≤ 2 := f5.1 285 13 _ _ kW_285_13
  have e26 : (0 : Int) ≤ hV H0 285 15 ∧ hV H0 285 15 ≤ 6 := f5.1 285 15 _ _ kW_285_15
  have e27 : (0 : Int) ≤ hV H0 285 18 ∧ hV H0 285 18 ≤ 8 := f5.1 285 18 _ _ kW_285_18
  have e28 : (0 : Int) ≤ hV H0 285 32 ∧ hV H0 285 32 ≤ 7 := f5.1 285 32 _ _ kW_285_32
  have e29 : (0 : Int) ≤ hV H0 285 33 ∧ hV H0 285 33 ≤ 62 := f5.1 285 33 _ _ kW_285_33
  have e33 : (0 : Int) ≤ hV H2 285 11 ∧ hV H2 285 11 ≤ 500 := f16.1.2.2.2 285 11 _ _ kW_285_11
  have e34 : (0 : Int) ≤ hV H2 285 13 ∧ hV H2 285 13 ≤ 2 := f16.1.2.2.2 285 13 _ _ kW_285_13
  have e35 : (0 : Int) ≤ hV H2 285 15 ∧ hV H2 285 15 ≤ 6 := f16.1.2.2.2 285 15 _ _ kW_285_15
  try simp only [e11, e14, e17, e20, e23]
  have p0 := f5.2.1
  have p1 := f5.2.2.1
  have p2 := f5.2.2.2.1
  have p3 := f5.2.2.2.2.1
  have p4 := f5.2.2.2.2.2.1
  have p5 := f5.2.2.2.2.2.2.1
  have p6 := f5.2.2.2.2.2.2.2.1
  have p7 := f5.2.2.2.2.2.2.2.2
  have r0_0 := f10.2.1
  have r1_0 := f16.2.1
  have r1_1 := f16.2.2.1
  have r1_2 := f16.2.2.2.1
  have r1_3 := f16.2.2.2.2.1
  have r1_4 := f16.2.2.2.2.2.1
  have r1_5 := f16.2.2.2.2.2.2.1
  have r1_6 := f16.2.2.2.2.2.2.2.1
  try simp only [e3] at r0_0
  try simp only [e1] at r1_0
  try simp only [e1] at r1_1
  try simp only [e3] at r1_2
  try simp only [e1] at r1_3
  try simp only [e5] at r1_4
  have wb0 := (p7 (hV H0 285 32).toNat).1
  have wp0 := (p7 (hV H0 285 33).toNat).2
  clear e1 e3 e5 e11 e14 e17 e18 e19 e20 e21 e22 e23
  clear f5 f10 f16

  refine ⟨⟨?_, ?_, ?_, ?_, ?_⟩, fun q hq => ?_⟩
  · first | exact True.intro | rfl | omega
  · first | exact True.intro | rfl | omega
  · exact p0
  · intro z1 z2
    exact p5 (by omega) (by omega)
  · (try clear p0 p5 p7)
    first
    | omega
    | (refine ⟨?_, ?_, ?_, ?_, ?_, ?_, ?_, ?_, ?_, ?_, ?_⟩ <;> first | exact True.intro | omega)
  · exact nomatch hq
def g_229_s_0 : vG := ([(1223, [9, 0, 7, 8], [1, 2], 0), (90, [9], [], 0), (91, [9], [], 9999), (0, [8], [], 60), (0, [7], [], 0), (30, [6], [], 0), (1216, [6, 0, 5], [0, 1], 0), (90, [6], [], 0), (91, [6], [], 1), (0, [5], [], 41), (0, [3], [], -1), (6000, [0, 1, 2], [0], 0), (0, [0], [], 285), (90, [1], [], 0), (91, [1], [], 1007), (90, [2], [], 0), (91, [2], [], 1)], (4000, [0, 1, 2, 3, 9], [2], 88))
theorem c_229_s_0 : vOkm T0 (eP e_229 L_229 A_229 mu_229 none) 3 g_229_s_0 := vOk_inI fun ρ η f0 f1 f2 f3 f4 f5 f6 f7 f8 f9 f10 f11 f12 f13 f14 f15 f16 => q_229_0 (n0 := ρ 2) (n1 := ρ 1) (n2 := ρ 0) (n3 := ρ 3) (n4 := ρ 5) (n5 := ρ 6) (n6 := ρ 7) (n7 := ρ 8) (n8 := ρ 9) (H0 := η 0) (H1 := η 1) (H2 := η 2) f16 f15 f14 f13 f12 f11 f10 f9 f8 f7 f6 f5 f4 f3 f2 f1 f0
set_option maxHeartbeats 20000000 in
theorem kR_223_288 : vFreeR s_223.2.2.2.2 288 = true := by decide +kernel
theorem kF_219_285_15 : vFree s_219.2.2.2.2 285 15 = true := by decide +kernel
theorem q_229_1 {n0 n1 n2 n3 n4 n5 n6 n7 n8 n9 n10 n11 n12 n13 n14 n15 n16 : Int} {H0 H1 H2 H3 H4 H5 H6 H7 : gH} (f0 : n0 ≤ 1) (f1 : 0 ≤ n0) (f2 : n1 ≤ 1007) (f3 : 0 ≤ n1) (f4 : n2 = 285) (f5 : hWt T0 H0 ∧ preb_229 n2 n1 n0 H0) (f6 : n3 = 41) (f7 : n4 ≤ 1) (f8 : 0 ≤ n4) (f9 : (hLe T0 H0 H1 ∧ hFr s_216.2.2.2.2 H0 H1 ∧ ((0 : Int) = 0 → H1.length = H0.length) ∧ hWt T0 H1) ∧ postb_216 n4 n2 n3 H0 H1) (f10 : n4 ≠ 0) (f11 : (hLe T0 H1 H2 ∧ hFr s_219.2.2.2.2 H1 H2 ∧ ((0 : Int) = 0 → H2.length = H1.length) ∧ hWt T0 H2) ∧ postb_219 n2 H1 H2) (f12 : n5 = 0) (f13 : n6 = 7) (f14 : n7 ≤ 9999) (f15 : 0 ≤ n7) (f16 : (hLe T0 H2 H3 ∧ hFr s_223.2.2.2.2 H2 H3 ∧ ((0 : Int) = 0 → H3.length = H2.length) ∧ hWt T0 H3) ∧ postb_223 n7 n2 n5 n6 H2 H3) (f17 : n8 = 9) (f18 : n9 ≤ 1) (f19 : 0 ≤ n9) (f20 : (hLe T0 H3 H4 ∧ hFr s_216.2.2.2.2 H3 H4 ∧ ((0 : Int) = 0 → H4.length = H3.length) ∧ hWt T0 H4) ∧ postb_216 n9 n2 n8 H3 H4) (f21 : n9 = 0) (f22 : n10 = 1) (f23 : n11 = 8) (f24 : n12 ≤ 1) (f25 : 0 ≤ n12) (f26 : (hLe T0 H4 H5 ∧ hFr s_216.2.2.2.2 H4 H5 ∧ ((0 : Int) = 0 → H5.length = H4.length) ∧ hWt T0 H5) ∧ postb_216 n12 n2 n11 H4 H5) (f27 : n12 ≠ 0) (f28 : (hLe T0 H5 H6 ∧ hFr s_219.2.2.2.2 H5 H6 ∧ ((0 : Int) = 0 → H6.length = H5.length) ∧ hWt T0 H6) ∧ postb_219 n2 H5 H6) (f29 : n13 = 0) (f30 : n14 = 60) (f31 : n15 ≤ 9999) (f32 : 0 ≤ n15) (f33 : (hLe T0 H6 H7 ∧ hFr s_223.2.2.2.2 H6 H7 ∧ ((0 : Int) = 0 → H7.length = H6.length) ∧ hWt T0 H7) ∧ postb_223 n15 n2 n13 n14 H6 H7) (f34 : n16 = w32 (n10 * n15)) : (-9999) ≤ n16 := by
  unfold preb_229 at f5
  unfold postb_216 at f9
  unfold postb_219 at f11
  unfold postb_223 at f16
  unfold postb_216 at f20
  unfold postb_216 at f26
  unfold postb_219 at f28
  unfold postb_223 at f33
  have e1 : hV H1 285 11 = hV H0 285 11 := (f9.1.2.1.1 285 11 kF_216_285_11)
  have e3 : hV H1 285 13 = hV H0 285 13 := (f9.1.2.1.1 285 13 kF_216_285_13)
  have e4 : hV H1 288 = hV H0 288 := fRow f9.1.2.1 288 kR_216_288
  have e7 : hV H2 285 15 = hV H0 285 15 := ((f11.1.2.1.1 285 15 kF_219_285_15)).trans (f9.1.2.1.1 285 15 kF_216_285_15)
  have e13 : hV H4 285 11 = hV H3 285 11 := (f20.1.2.1.1 285 11 kF_216_285_11)
  have e15 : hV H4 285 13 = hV H3 285 13 := (f20.1.2.1.1 285 13 kF_216_285_13)
  have e17 : hV H4 288 = hV H0 288 := (fRow f20.1.2.1 288 kR_216_288).trans ((fRow f16.1.2.1 288 kR_223_288).trans ((fRow f11.1.2.1 288 kR_219_288).trans e4))
  have e19 : hV H5 285 11 = hV H3 285 11 := ((f26.1.2.1.1 285 11 kF_216_285_11)).trans (f20.1.2.1.1 285 11 kF_216_285_11)
  have e21 : hV H5 285 13 = hV H3 285 13 := ((f26.1.2.1.1 285 13 kF_216_285_13)).trans (f20.1.2.1.1 285 13 kF_216_285_13)
  have e23 : hV H5 288 = hV H0 288 := (fRow f26.1.2.1 288 kR_216_288).trans e17
  have e27 : hV H6 285 15 = hV H3 285 15 := ((f28.1.2.1.1 285 15 kF_219_285_15)).trans (((f26.1.2.1.1 285 15 kF_216_285_15)).trans (f20.1.2.1.1 285 15 kF_216_285_15))
  have e32 : (0 : Int) ≤ hV H0 285 13 ∧ hV H0 285 13 ≤ 2 := f5.1 285 13 _ _ kW_285_13
  have e33 : (0 : Int) ≤ hV H0 285 15 ∧ hV H0 285 15 ≤ 6 := f5.1 285 15 _ _ kW_285_15
  have e34 : (0 : Int) ≤ hV H0 285 18 ∧ hV H0 285 18 ≤ 8 := f5.1 285 18 _ _ kW_285_18
  have e35 : (0 : Int) ≤ hV H0 285 32 ∧ hV H0 285 32 ≤ 7 := f5.1 285 32 _ _ kW_285_32
  have e36 : (0 : Int) ≤ hV H0 285 33 ∧ hV H0 285 33 ≤ 62 := f5.1 285 33 _ _ kW_285_33
  have e37 : (0 : Int) ≤ hV H0 285 11 ∧ hV H0 285 11 ≤ 500 := bTo e1 (f9.1.2.2.2 285 11 _ _ kW_285_11)
  have e40 : (0 : Int) ≤ hV H2 285 11 ∧ hV H2 285 11 ≤ 500 := f11.1.2.2.2 285 11 _ _ kW_285_11
  have e41 : (0 : Int) ≤ hV H2 285 13 ∧ hV H2 285 13 ≤ 2 := f11.1.2.2.2 285 13 _ _ kW_285_13
  have e43 : (0 : Int) ≤ hV H3 285 11 ∧ hV H3 285 11 ≤ 500 := f16.1.2.2.2 285 11 _ _ kW_285_11
  have e44 : (0 : Int) ≤ hV H3 285 13 ∧ hV H3 285 13 ≤ 2 := f16.1.2.2.2 285 13 _ _ kW_285_13
  have e45 : (0 : Int) ≤ hV H3 285 15 ∧ hV H3 285 15 ≤ 6 := f16.1.2.2.2 285 15 _ _ kW_285_15
  have e50 : (0 : Int) ≤ hV H6 285 11 ∧ hV H6 285 11 ≤ 500 := f28.1.2.2.2 285 11 _ _ kW_285_11
  have e51 : (0 : Int) ≤ hV H6 285 13 ∧ hV H6 285 13 ≤ 2 := f28.1.2.2.2 285 13 _ _ kW_285_13
  have e53 : (0 : Int) ≤ hV H7 285 11 ∧ hV H7 285 11 ≤ 500 := f33.1.2.2.2 285 11 _ _ kW_285_11
  have e54 : (0 : Int) ≤ hV H7 285 13 ∧ hV H7 285 13 ≤ 2 := f33.1.2.2.2 285 13 _ _ kW_285_13
  have e55 : (0 : Int) ≤ hV H7 285 15 ∧ hV H7 285 15 ≤ 6 := f33.1.2.2.2 285 15 _ _ kW_285_15
  have p0 := f5.2.1
  have p1 := f5.2.2.1
  have p2 := f5.2.2.2.1
  have p3 := f5.2.2.2.2.1
  have p4 := f5.2.2.2.2.2.1
  have p5 := f5.2.2.2.2.2.2.1
  have p6 := f5.2.2.2.2.2.2.2.1
  have p7 := f5.2.2.2.2.2.2.2.2
  have r0_0 := f9.2.1
  have r0_1 := f9.2.2.resolve_right (fun z => f10 z.1)
  have r1_0 := f11.2.1
  have r1_1 := f11.2.2.1
  have r1_2 := f11.2.2.2.1
  have r1_3 := f11.2.2.2.2
  have r2_0 := f16.2.1
  have r2_1 := f16.2.2.1
  have r2_2 := f16.2.2.2.1
  have r2_3 := f16.2.2.2.2.1
  have r2_4 := f16.2.2.2.2.2.1
  have r2_5 := f16.2.2.2.2.2.2.1
  have r2_6 := f16.2.2.2.2.2.2.2.1
  have r3_0 := f20.2.1
  have r4_0 := f26.2.1
  have r4_1 := f26.2.2.resolve_right (fun z => f27 z.1)
  have r5_0 := f28.2.1
  have r5_1 := f28.2.2.1
  have r5_2 := f28.2.2.2.1
  have r5_3 := f28.2.2.2.2
  have r6_0 := f33.2.1
  have r6_1 := f33.2.2.1
  have r6_2 := f33.2.2.2.1
  have r6_3 := f33.2.2.2.2.1
  have r6_4 := f33.2.2.2.2.2.1
  have r6_5 := f33.2.2.2.2.2.2.1
  have r6_6 := f33.2.2.2.2.2.2.2.1
  try simp only [e3] at r0_0
  try simp only [e1, e3, e4] at r0_1
  try simp only [e1] at r1_0
  try simp only [e1] at r1_1
  try simp only [e3] at r1_2
  try simp only [e1] at r1_3
  try simp only [e7] at r2_4
  try simp only [e15] at r3_0
  try simp only [e21] at r4_0
  try simp only [e13, e15, e17, e19, e21, e23] at r4_1
  try simp only [e19] at r5_0
  try simp only [e19] at r5_1
  try simp only [e21] at r5_2
  try simp only [e19] at r5_3
  try simp only [e27] at r6_4
  have wb0 := (p7 (hV H0 285 32).toNat).1
  have wp0 := (p7 (hV H0 285 33).toNat).2
  clear e1 e3 e4 e7 e13 e15 e17 e19 e21 e23 e27
  clear f5 f9 f11 f16 f20 f26 f28 f33
  rw [f22] at f34
  first
  | (have ix0 : n16 = 1 * n15 := Eq.trans f34 (w32_iv (Iml 1 rfl (Iat f32 f31)) (by decide)); subst ix0; clear f34)
  | (have ix0 : n16 = 1 * n15 := Eq.trans f34 (w32_id (by omega) (by omega)); subst ix0; clear f34)
  | (unfold w32 at f34; have ix0 : n16 = 1 * n15 := (by omega); subst ix0)
  | skip
  try unfold w32 at f34

  (try clear p0 p5 p7)
  omega
def g_229_s_1 : vG := ([(3, [18, 12, 17], [], 0), (1223, [17, 0, 15, 16], [6, 7], 0), (90, [17], [], 0), (91, [17], [], 9999), (0, [16], [], 60), (0, [15], [], 0), (1219, [0], [5, 6], 0), (31, [14], [], 0), (1216, [14, 0, 13], [4, 5], 0), (90, [14], [], 0), (91, [14], [], 1), (0, [13], [], 8), (0, [12], [], 1), (30, [11], [], 0), (1216, [11, 0, 10], [3, 4], 0), (90, [11], [], 0), (91, [11], [], 1), (0, [10], [], 9), (1223, [9, 0, 7, 8], [2, 3], 0), (90, [9], [], 0), (91, [9], [], 9999), (0, [8], [], 7), (0, [7], [], 0), (1219, [0], [1, 2], 0), (31, [6], [], 0), (1216, [6, 0, 5], [0, 1], 0), (90, [6], [], 0), (91, [6], [], 1), (0, [5], [], 41), (6000, [0, 1, 2], [0], 0), (0, [0], [], 285), (90, [1], [], 0), (91, [1], [], 1007), (90, [2], [], 0), (91, [2], [], 1)], (90, [18], [], -9999))
theorem c_229_s_1 : vOkm T0 (eP e_229 L_229 A_229 mu_229 none) 3 g_229_s_1 := vOk_inI fun ρ η f0 f1 f2 f3 f4 f5 f6 f7 f8 f9 f10 f11 f12 f13 f14 f15 f16 f17 f18 f19 f20 f21 f22 f23 f24 f25 f26 f27 f28 f29 f30 f31 f32 f33 f34 => q_229_1 (n0 := ρ 2) (n1 := ρ 1) (n2 := ρ 0) (n3 := ρ 5) (n4 := ρ 6) (n5 := ρ 7) (n6 := ρ 8) (n7 := ρ 9) (n8 := ρ 10) (n9 := ρ 11) (n10 := ρ 12) (n11 := ρ 13) (n12 := ρ 14) (n13 := ρ 15) (n14 := ρ 16) (n15 := ρ 17) (n16 := ρ 18) (H0 := η 0) (H1 := η 1) (H2 := η 2) (H3 := η 3) (H4 := η 4) (H5 := η 5) (H6 := η 6) (H7 := η 7) f34 f33 f32 f31 f30 f29 f28 f27 f26 f25 f24 f23 f22 f21 f20 f19 f18 f17 f16 f15 f14 f13 f12 f11 f10 f9 f8 f7 f6 f5 f4 f3 f2 f1 f0
set_option maxHeartbeats 20000000 in
theorem q_229_2 {n0 n1 n2 n3 n4 n5 n6 n7 n8 n9 n10 n11 n12 n13 n14 n15 n16 : Int} {H0 H1 H2 H3 H4 H5 H6 H7 : gH} (f0 : n0 ≤ 1) (f1 : 0 ≤ n0) (f2 : n1 ≤ 1007) (f3 : 0 ≤ n1) (f4 : n2 = 285) (f5 : hWt T0 H0 ∧ preb_229 n2 n1 n0 H0) (f6 : n3 = 41) (f7 : n4 ≤ 1) (f8 : 0 ≤ n4) (f9 : (hLe T0 H0 H1 ∧ hFr s_216.2.2.2.2 H0 H1 ∧ ((0 : Int) = 0 → H1.length = H0.length) ∧ hWt T0 H1) ∧ postb_216 n4 n2 n3 H0 H1) (f10 : n4 ≠ 0) (f11 : (hLe T0 H1 H2 ∧ hFr s_219.2.2.2.2 H1 H2 ∧ ((0 : Int) = 0 → H2.length = H1.length) ∧ hWt T0 H2) ∧ postb_219 n2 H1 H2) (f12 : n5 = 0) (f13 : n6 = 7) (f14 : n7 ≤ 9999) (f15 : 0 ≤ n7) (f16 : (hLe T0 H2 H3 ∧ hFr s_223.2.2.2.2 H2 H3 ∧ ((0 : Int) = 0 → H3.length = H2.length) ∧ hWt T0 H3) ∧ postb_223 n7 n2 n5 n6 H2 H3) (f17 : n8 = 9) (f18 : n9 ≤ 1) (f19 : 0 ≤ n9) (f20 : (hLe T0 H3 H4 ∧ hFr s_216.2.2.2.2 H3 H4 ∧ ((0 : Int) = 0 → H4.length = H3.length) ∧ hWt T0 H4) ∧ postb_216 n9 n2 n8 H3 H4) (f21 : n9 = 0) (f22 : n10 = 1) (f23 : n11 = 8) (f24 : n12 ≤ 1) (f25 : 0 ≤ n12) (f26 : (hLe T0 H4 H5 ∧ hFr s_216.2.2.2.2 H4 H5 ∧ ((0 : Int) = 0 → H5.length = H4.length) ∧ hWt T0 H5) ∧ postb_216 n12 n2 n11 H4 H5) (f27 : n12 ≠ 0) (f28 : (hLe T0 H5 H6 ∧ hFr s_219.2.2.2.2 H5 H6 ∧ ((0 : Int) = 0 → H6.length = H5.length) ∧ hWt T0 H6) ∧ postb_219 n2 H5 H6) (f29 : n13 = 0) (f30 : n14 = 60) (f31 : n15 ≤ 9999) (f32 : 0 ≤ n15) (f33 : (hLe T0 H6 H7 ∧ hFr s_223.2.2.2.2 H6 H7 ∧ ((0 : Int) = 0 → H7.length = H6.length) ∧ hWt T0 H7) ∧ postb_223 n15 n2 n13 n14 H6 H7) (f34 : n16 = w32 (n10 * n15)) : n16 ≤ 9999 := by
  unfold preb_229 at f5
  unfold postb_216 at f9
  unfold postb_219 at f11
  unfold postb_223 at f16
  unfold postb_216 at f20
  unfold postb_216 at f26
  unfold postb_219 at f28
  unfold postb_223 at f33
  have e1 : hV H1 285 11 = hV H0 285 11 := (f9.1.2.1.1 285 11 kF_216_285_11)
  have e3 : hV H1 285 13 = hV H0 285 13 := (f9.1.2.1.1 285 13 kF_216_285_13)
  have e4 : hV H1 288 = hV H0 288 := fRow f9.1.2.1 288 kR_216_288
  have e7 : hV H2 285 15 = hV H0 285 15 := ((f11.1.2.1.1 285 15 kF_219_285_15)).trans (f9.1.2.1.1 285 15 kF_216_285_15)
  have e13 : hV H4 285 11 = hV H3 285 11 := (f20.1.2.1.1 285 11 kF_216_285_11)
  have e15 : hV H4 285 13 = hV H3 285 13 := (f20.1.2.1.1 285 13 kF_216_285_13)
  have e17 : hV H4 288 = hV H0 288 := (fRow f20.1.2.1 288 kR_216_288).trans ((fRow f16.1.2.1 288 kR_223_288).trans ((fRow f11.1.2.1 288 kR_219_288).trans e4))
  have e19 : hV H5 285 11 = hV H3 285 11 := ((f26.1.2.1.1 285 11 kF_216_285_11)).trans (f20.1.2.1.1 285 11 kF_216_285_11)
  have e21 : hV H5 285 13 = hV H3 285 13 := ((f26.1.2.1.1 285 13 kF_216_285_13)).trans (f20.1.2.1.1 285 13 kF_216_285_13)
  have e23 : hV H5 288 = hV H0 288 := (fRow f26.1.2.1 288 kR_216_288).trans e17
  have e27 : hV H6 285 15 = hV H3 285 15 := ((f28.1.2.1.1 285 15 kF_219_285_15)).trans (((f26.1.2.1.1 285 15 kF_216_285_15)).trans (f20.1.2.1.1 285 15 kF_216_285_15))
  have e32 : (0 : Int) ≤ hV H0 285 13 ∧ hV H0 285 13 ≤ 2 := f5.1 285 13 _ _ kW_285_13
  have e33 : (0 : Int) ≤ hV H0 285 15 ∧ hV H0 285 15 ≤ 6 := f5.1 285 15 _ _ kW_285_15
  have e34 : (0 : Int) ≤ hV H0 285 18 ∧ hV H0 285 18 ≤ 8 := f5.1 285 18 _ _ kW_285_18
  have e35 : (0 : Int) ≤ hV H0 285 32 ∧ hV H0 285 32 ≤ 7 := f5.1 285 32 _ _ kW_285_32
  have e36 : (0 : Int) ≤ hV H0 285 33 ∧ hV H0 285 33 ≤ 62 := f5.1 285 33 _ _ kW_285_33
  have e37 : (0 : Int) ≤ hV H0 285 11 ∧ hV H0 285 11 ≤ 500 := bTo e1 (f9.1.2.2.2 285 11 _ _ kW_285_11)
  have e40 : (0 : Int) ≤ hV H2 285 11 ∧ hV H2 285 11 ≤ 500 := f11.1.2.2.2 285 11 _ _ kW_285_11
  have e41 : (0 : Int) ≤ hV H2 285 13 ∧ hV H2 285 13 ≤ 2 := f11.1.2.2.2 285 13 _ _ kW_285_13
  have e43 : (0 : Int) ≤ hV H3 285 11 ∧ hV H3 285 11 ≤ 500 := f16.1.2.2.2 285 11 _ _ kW_285_11
  have e44 : (0 : Int) ≤ hV H3 285 13 ∧ hV H3 285 13 ≤ 2 := f16.1.2.2.2 285 13 _ _ kW_285_13
  have e45 : (0 : Int) ≤ hV H3 285 15 ∧ hV H3 285 15 ≤ 6 := f16.1.2.2.2 285 15 _ _ kW_285_15
  have e50 : (0 : Int) ≤ hV H6 285 11 ∧ hV H6 285 11 ≤ 500 := f28.1.2.2.2 285 11 _ _ kW_285_11
  have e51 : (0 : Int) ≤ hV H6 285 13 ∧ hV H6 285 13 ≤ 2 := f28.1.2.2.2 285 13 _ _ kW_285_13
  have e53 : (0 : Int) ≤ hV H7 285 11 ∧ hV H7 285 11 ≤ 500 := f33.1.2.2.2 285 11 _ _ kW_285_11
  have e54 : (0 : Int) ≤ hV H7 285 13 ∧ hV H7 285 13 ≤ 2 := f33.1.2.2.2 285 13 _ _ kW_285_13
  have e55 : (0 : Int) ≤ hV H7 285 15 ∧ hV H7 285 15 ≤ 6 := f33.1.2.2.2 285 15 _ _ kW_285_15
  have p0 := f5.2.1
  have p1 := f5.2.2.1
  have p2 := f5.2.2.2.1
  have p3 := f5.2.2.2.2.1
  have p4 := f5.2.2.2.2.2.1
  have p5 := f5.2.2.2.2.2.2.1
  have p6 := f5.2.2.2.2.2.2.2.1
  have p7 := f5.2.2.2.2.2.2.2.2
  have r0_0 := f9.2.1
  have r0_1 := f9.2.2.resolve_right (fun z => f10 z.1)
  have r1_0 := f11.2.1
  have r1_1 := f11.2.2.1
  have r1_2 := f11.2.2.2.1
  have r1_3 := f11.2.2.2.2
  have r2_0 := f16.2.1
  have r2_1 := f16.2.2.1
  have r2_2 := f16.2.2.2.1
  have r2_3 := f16.2.2.2.2.1
  have r2_4 := f16.2.2.2.2.2.1
  have r2_5 := f16.2.2.2.2.2.2.1
  have r2_6 := f16.2.2.2.2.2.2.2.1
  have r3_0 := f20.2.1
  have r4_0 := f26.2.1
  have r4_1 := f26.2.2.resolve_right (fun z => f27 z.1)
  have r5_0 := f28.2.1
  have r5_1 := f28.2.2.1
  have r5_2 := f28.2.2.2.1
  have r5_3 := f28.2.2.2.2
  have r6_0 := f33.2.1
  have r6_1 := f33.2.2.1
  have r6_2 := f33.2.2.2.1
  have r6_3 := f33.2.2.2.2.1
  have r6_4 := f33.2.2.2.2.2.1
  have r6_5 := f33.2.2.2.2.2.2.1
  have r6_6 := f33.2.2.2.2.2.2.2.1
  try simp only [e3] at r0_0
  try simp only [e1, e3, e4] at r0_1
  try simp only [e1] at r1_0
  try simp only [e1] at r1_1
  try simp only [e3] at r1_2
  try simp only [e1] at r1_3
  try simp only [e7] at r2_4
  try simp only [e15] at r3_0
  try simp only [e21] at r4_0
  try simp only [e13, e15, e17, e19, e21, e23] at r4_1
  try simp only [e19] at r5_0
  try simp only [e19] at r5_1
  try simp only [e21] at r5_2
  try simp only [e19] at r5_3
  try simp only [e27] at r6_4
  have wb0 := (p7 (hV H0 285 32).toNat).1
  have wp0 := (p7 (hV H0 285 33).toNat).2
  clear e1 e3 e4 e7 e13 e15 e17 e19 e21 e23 e27
  clear f5 f9 f11 f16 f20 f26 f28 f33
  rw [f22] at f34
  first
  | (have ix0 : n16 = 1 * n15 := Eq.trans f34 (w32_iv (Iml 1 rfl (Iat f32 f31)) (by decide)); subst ix0; clear f34)
  | (have ix0 : n16 = 1 * n15 := Eq.trans f34 (w32_id (by omega) (by omega)); subst ix0; clear f34)
  | (unfold w32 at f34; have ix0 : n16 = 1 * n15 := (by omega); subst ix0)
  | skip
  try unfold w32 at f34

  (try clear p0 p5 p7)
  omega
def g_229_s_2 : vG := ([(3, [18, 12, 17], [], 0), (1223, [17, 0, 15, 16], [6, 7], 0), (90, [17], [], 0), (91, [17], [], 9999), (0, [16], [], 60), (0, [15], [], 0), (1219, [0], [5, 6], 0), (31, [14], [], 0), (1216, [14, 0, 13], [4, 5], 0), (90, [14], [], 0), (91, [14], [], 1), (0, [13], [], 8), (0, [12], [], 1), (30, [11], [], 0), (1216, [11, 0, 10], [3, 4], 0), (90, [11], [], 0), (91, [11], [], 1), (0, [10], [], 9), (1223, [9, 0, 7, 8], [2, 3], 0), (90, [9], [], 0), (91, [9], [], 9999), (0, [8], [], 7), (0, [7], [], 0), (1219, [0], [1, 2], 0), (31, [6], [], 0), (1216, [6, 0, 5], [0, 1], 0), (90, [6], [], 0), (91, [6], [], 1), (0, [5], [], 41), (6000, [0, 1, 2], [0], 0), (0, [0], [], 285), (90, [1], [], 0), (91, [1], [], 1007), (90, [2], [], 0), (91, [2], [], 1)], (91, [18], [], 9999))
theorem c_229_s_2 : vOkm T0 (eP e_229 L_229 A_229 mu_229 none) 3 g_229_s_2 := vOk_inI fun ρ η f0 f1 f2 f3 f4 f5 f6 f7 f8 f9 f10 f11 f12 f13 f14 f15 f16 f17 f18 f19 f20 f21 f22 f23 f24 f25 f26 f27 f28 f29 f30 f31 f32 f33 f34 => q_229_2 (n0 := ρ 2) (n1 := ρ 1) (n2 := ρ 0) (n3 := ρ 5) (n4 := ρ 6) (n5 := ρ 7) (n6 := ρ 8) (n7 := ρ 9) (n8 := ρ 10) (n9 := ρ 11) (n10 := ρ 12) (n11 := ρ 13) (n12 := ρ 14) (n13 := ρ 15) (n14 := ρ 16) (n15 := ρ 17) (n16 := ρ 18) (H0 := η 0) (H1 := η 1) (H2 := η 2) (H3 := η 3) (H4 := η 4) (H5 := η 5) (H6 := η 6) (H7 := η 7) f34 f33 f32 f31 f30 f29 f28 f27 f26 f25 f24 f23 f22 f21 f20 f19 f18 f17 f16 f15 f14 f13 f12 f11 f10 f9 f8 f7 f6 f5 f4 f3 f2 f1 f0
set_option maxHeartbeats 20000000 in
theorem kR_219_301 : vFreeR s_219.2.2.2.2 301 = true := by decide +kernel
theorem kR_219_302 : vFreeR s_219.2.2.2.2 302 = true := by decide +kernel
theorem kR_219_303 : vFreeR s_219.2.2.2.2 303 = true := by decide +kernel
theorem q_229_3 {n0 n1 n2 n3 n4 n5 n6 n7 n8 n9 n10 n11 n12 n13 n14 n15 n16 : Int} {H0 H1 H2 H3 H4 H5 H6 H7 : gH} (f0 : n0 ≤ 1) (f1 : 0 ≤ n0) (f2 : n1 ≤ 1007) (f3 : 0 ≤ n1) (f4 : n2 = 285) (f5 : hWt T0 H0 ∧ preb_229 n2 n1 n0 H0) (f6 : n3 = 41) (f7 : n4 ≤ 1) (f8 : 0 ≤ n4) (f9 : (hLe T0 H0 H1 ∧ hFr s_216.2.2.2.2 H0 H1 ∧ ((0 : Int) = 0 → H1.length = H0.length) ∧ hWt T0 H1) ∧ postb_216 n4 n2 n3 H0 H1) (f10 : n4 ≠ 0) (f11 : (hLe T0 H1 H2 ∧ hFr s_219.2.2.2.2 H1 H2 ∧ ((0 : Int) = 0 → H2.length = H1.length) ∧ hWt T0 H2) ∧ postb_219 n2 H1 H2) (f12 : n5 = 0) (f13 : n6 = 7) (f14 : n7 ≤ 9999) (f15 : 0 ≤ n7) (f16 : (hLe T0 H2 H3 ∧ hFr s_223.2.2.2.2 H2 H3 ∧ ((0 : Int) = 0 → H3.length = H2.length) ∧ hWt T0 H3) ∧ postb_223 n7 n2 n5 n6 H2 H3) (f17 : n8 = 9) (f18 : n9 ≤ 1) (f19 : 0 ≤ n9) (f20 : (hLe T0 H3 H4 ∧ hFr s_216.2.2.2.2 H3 H4 ∧ ((0 : Int) = 0 → H4.length = H3.length) ∧ hWt T0 H4) ∧ postb_216 n9 n2 n8 H3 H4) (f21 : n9 = 0) (f22 : n10 = 1) (f23 : n11 = 8) (f24 : n12 ≤ 1) (f25 : 0 ≤ n12) (f26 : (hLe T0 H4 H5 ∧ hFr s_216.2.2.2.2 H4 H5 ∧ ((0 : Int) = 0 → H5.length = H4.length) ∧ hWt T0 H5) ∧ postb_216 n12 n2 n11 H4 H5) (f27 : n12 ≠ 0) (f28 : (hLe T0 H5 H6 ∧ hFr s_219.2.2.2.2 H5 H6 ∧ ((0 : Int) = 0 → H6.length = H5.length) ∧ hWt T0 H6) ∧ postb_219 n2 H5 H6) (f29 : n13 = 0) (f30 : n14 = 60) (f31 : n15 ≤ 9999) (f32 : 0 ≤ n15) (f33 : (hLe T0 H6 H7 ∧ hFr s_223.2.2.2.2 H6 H7 ∧ ((0 : Int) = 0 → H7.length = H6.length) ∧ hWt T0 H7) ∧ postb_223 n15 n2 n13 n14 H6 H7) (f34 : n16 = w32 (n10 * n15)) : Ab_229_88 n2 n1 n0 n2 n1 n0 n7 n16 H0 H7 ∧ ∀ q, none = some q → mub_229_88 n2 n1 n0 n2 n1 n0 n7 n16 H0 H7 < q := by
  unfold preb_229 at f5
  unfold postb_216 at f9
  unfold postb_219 at f11
  unfold postb_223 at f16
  unfold postb_216 at f20
  unfold postb_216 at f26
  unfold postb_219 at f28
  unfold postb_223 at f33
  unfold Ab_229_88
  have e1 : hV H1 285 11 = hV H0 285 11 := (f9.1.2.1.1 285 11 kF_216_285_11)
  have e3 : hV H1 285 13 = hV H0 285 13 := (f9.1.2.1.1 285 13 kF_216_285_13)
  have e4 : hV H1 288 = hV H0 288 := fRow f9.1.2.1 288 kR_216_288
  have e7 : hV H2 285 15 = hV H0 285 15 := ((f11.1.2.1.1 285 15 kF_219_285_15)).trans (f9.1.2.1.1 285 15 kF_216_285_15)
  have e13 : hV H4 285 11 = hV H3 285 11 := (f20.1.2.1.1 285 11 kF_216_285_11)
  have e15 : hV H4 285 13 = hV H3 285 13 := (f20.1.2.1.1 285 13 kF_216_285_13)
  have e17 : hV H4 288 = hV H0 288 := (fRow f20.1.2.1 288 kR_216_288).trans ((fRow f16.1.2.1 288 kR_223_288).trans ((fRow f11.1.2.1 288 kR_219_288).trans e4))
  have e19 : hV H5 285 11 = hV H3 285 11 := ((f26.1.2.1.1 285 11 kF_216_285_11)).trans (f20.1.2.1.1 285 11 kF_216_285_11)
  have e21 : hV H5 285 13 = hV H3 285 13 := ((f26.1.2.1.1 285 13 kF_216_285_13)).trans (f20.1.2.1.1 285 13 kF_216_285_13)
  have e23 : hV H5 288 = hV H0 288 := (fRow f26.1.2.1 288 kR_216_288).trans e17
  have e27 : hV H6 285 15 = hV H3 285 15 := ((f28.1.2.1.1 285 15 kF_219_285_15)).trans (((f26.1.2.1.1 285 15 kF_216_285_15)).trans (f20.1.2.1.1 285 15 kF_216_285_15))
  have e44 : hV H7 301 = hV H0 301 := (fRow f33.1.2.1 301 kR_223_301).trans ((fRow f28.1.2.1 301 kR_219_301).trans ((fRow f26.1.2.1 301 kR_216_301).trans ((fRow f20.1.2.1 301 kR_216_301).trans ((fRow f16.1.2.1 301 kR_223_301).trans ((fRow f11.1.2.1 301 kR_219_301).trans (fRow f9.1.2.1 301 kR_216_301))))))
  have e57 : hV H7 302 = hV H0 302 := (fRow f33.1.2.1 302 kR_223_302).trans ((fRow f28.1.2.1 302 kR_219_302).trans ((fRow f26.1.2.1 302 kR_216_302).trans ((fRow f20.1.2.1 302 kR_216_302).trans ((fRow f16.1.2.1 302 kR_223_302).trans ((fRow f11.1.2.1 302 kR_219_302).trans (fRow f9.1.2.1 302 kR_216_302))))))
  have e70 : hV H7 303 = hV H0 303 := (fRow f33.1.2.1 303 kR_223_303).trans ((fRow f28.1.2.1 303 kR_219_303).trans ((fRow f26.1.2.1 303 kR_216_303).trans ((fRow f20.1.2.1 303 kR_216_303).trans ((fRow f16.1.2.1 303 kR_223_303).trans ((fRow f11.1.2.1 303 kR_219_303).trans (fRow f9.1.2.1 303 kR_216_303))))))
  have e71 : PA H1 = PA H0 := PA_fr f9.1.2.1 (by decide +kernel)
  have e72 : PA H2 = PA H1 := PA_fr f11.1.2.1 (by decide +kernel)
  have e73 : PA H2 = PA H0 := e72.trans e71
  have e74 : PA H3 = PA H2 := PA_fr f16.1.2.1 (by decide +kernel)
  have e75 : PA H3 = PA H0 := e74.trans e73
  have e76 : PA H4 = PA H3 := PA_fr f20.1.2.1 (by decide +kernel)
  have e77 : PA H4 = PA H0 := e76.trans e75
  have e78 : PA H5 = PA H4 := PA_fr f26.1.2.1 (by decide +kernel)
  have e79 : PA H5 = PA H0 := e78.trans e77
  have e80 : PA H6 = PA H5 := PA_fr f28.1.2.1 (by decide +kernel)
  have e81 : PA H6 = PA H0 := e80.trans e79
  have e82 : PA H7 = PA H6 := PA_fr f33.1.2.1 (by decide +kernel)
  have e83 : PA H7 = PA H0 := e82.trans e81
  have e84 : PW H1 = PW H0 := PW_fr f9.1.2.1 (by decide +kernel)
  have e85 : PW H2 = PW H1 := PW_fr f11.1.2.1 (by decide +kernel)
  have e86 : PW H2 = PW H0 := e85.trans e84
  have e87 : PW H3 = PW H2 := PW_fr f16.1.2.1 (by decide +kernel)
  have e88 : PW H3 = PW H0 := e87.trans e86
  have e89 : PW H4 = PW H3 := PW_fr f20.1.2.1 (by decide +kernel)
  have e90 : PW H4 = PW H0 := e89.trans e88
  have e91 : PW H5 = PW H4 := PW_fr f26.1.2.1 (by decide +kernel)
  have e92 : PW H5 = PW H0 := e91.trans e90
  have e93 : PW H6 = PW H5 := PW_fr f28.1.2.1 (by decide +kernel)
  have e94 : PW H6 = PW H0 := e93.trans e92
  have e95 : PW H7 = PW H6 := PW_fr f33.1.2.1 (by decide +kernel)
  have e96 : PW H7 = PW H0 := e95.trans e94
  have e97 : (0 : Int) ≤ hV H0 285 11 ∧ hV H0 285 11 ≤ 500 := f5.1 285 11 _ _ kW_285_11
  have e98 : (0 : Int) ≤ hV H0 285 13 ∧ hV H0 285 13 ≤ 2 := f5.1 285 13 _ _ kW_285_13
  have e99 : (0 : Int) ≤ hV H0 285 15 ∧ hV H0 285 15 ≤ 6 := f5.1 285 15 _ _ kW_285_15
  have e100 : (0 : Int) ≤ hV H0 285 18 ∧ hV H0 285 18 ≤ 8 := f5.1 285 18 _ _ kW_285_18
  have e101 : (0 : Int) ≤ hV H0 285 32 ∧ hV H0 285 32 ≤ 7 := f5.1 285 32 _ _ kW_285_32
  have e102 : (0 : Int) ≤ hV H0 285 33 ∧ hV H0 285 33 ≤ 62 := f5.1 285 33 _ _ kW_285_33
  have e105 : (0 : Int) ≤ hV H2 285 11 ∧ hV H2 285 11 ≤ 500 := f11.1.2.2.2 285 11 _ _ kW_285_11
  have e106 : (0 : Int) ≤ hV H2 285 13 ∧ hV H2 285 13 ≤ 2 := f11.1.2.2.2 285 13 _ _ kW_285_13
  have e108 : (0 : Int) ≤ hV H3 285 11 ∧ hV H3 285 11 ≤ 500 := f16.1.2.2.2 285 11 _ _ kW_285_11
  have e109 : (0 : Int) ≤ hV H3 285 13 ∧ hV H3 285 13 ≤ 2 := f16.1.2.2.2 285 13 _ _ kW_285_13
  have e110 : (0 : Int) ≤ hV H3 285 15 ∧ hV H3 285 15 ≤ 6 := f16.1.2.2.2 285 15 _ _ kW_285_15
  have e115 : (0 : Int) ≤ hV H6 285 11 ∧ hV H6 285 11 ≤ 500 := f28.1.2.2.2 285 11 _ _ kW_285_11
  have e116 : (0 : Int) ≤ hV H6 285 13 ∧ hV H6 285 13 ≤ 2 := f28.1.2.2.2 285 13 _ _ kW_285_13
  have e118 : (0 : Int) ≤ hV H7 285 11 ∧ hV H7 285 11 ≤ 500 := f33.1.2.2.2 285 11 _ _ kW_285_11
  have e119 : (0 : Int) ≤ hV H7 285 13 ∧ hV H7 285 13 ≤ 2 := f33.1.2.2.2 285 13 _ _ kW_285_13
  have e120 : (0 : Int) ≤ hV H7 285 15 ∧ hV H7 285 15 ≤ 6 := f33.1.2.2.2 285 15 _ _ kW_285_15
  try simp only [e44, e57, e70, e83, e96]
  have p0 := f5.2.1
  have p1 := f5.2.2.1
  have p2 := f5.2.2.2.1
  have p3 := f5.2.2.2.2.1
  have p4 := f5.2.2.2.2.2.1
  have p5 := f5.2.2.2.2.2.2.1
  have p6 := f5.2.2.2.2.2.2.2.1
  have p7 := f5.2.2.2.2.2.2.2.2
  have r0_0 := f9.2.1
  have r0_1 := f9.2.2.resolve_right (fun z => f10 z.1)
  have r1_0 := f11.2.1
  have r1_1 := f11.2.2.1
  have r1_2 := f11.2.2.2.1
  have r1_3 := f11.2.2.2.2
  have r2_0 := f16.2.1
  have r2_1 := f16.2.2.1
  have r2_2 := f16.2.2.2.1
  have r2_3 := f16.2.2.2.2.1
  have r2_4 := f16.2.2.2.2.2.1
  have r2_5 := f16.2.2.2.2.2.2.1
  have r2_6 := f16.2.2.2.2.2.2.2.1
  have r3_0 := f20.2.1
  have r4_0 := f26.2.1
  have r4_1 := f26.2.2.resolve_right (fun z => f27 z.1)
  have r5_0 := f28.2.1
  have r5_1 := f28.2.2.1
  have r5_2 := f28.2.2.2.1
  have r5_3 := f28.2.2.2.2
  have r6_0 := f33.2.1
  have r6_1 := f33.2.2.1
  have r6_2 := f33.2.2.2.1
  have r6_3 := f33.2.2.2.2.1
  have r6_4 := f33.2.2.2.2.2.1
  have r6_5 := f33.2.2.2.2.2.2.1
  have r6_6 := f33.2.2.2.2.2.2.2.1
  try simp only [e3] at r0_0
  try simp only [e1, e3, e4] at r0_1
  try simp only [e1] at r1_0
  try simp only [e1] at r1_1
  try simp only [e3] at r1_2
  try simp only [e1] at r1_3
  try simp only [e7] at r2_4
  try simp only [e15] at r3_0
  try simp only [e21] at r4_0
  try simp only [e13, e15, e17, e19, e21, e23] at r4_1
  try simp only [e19] at r5_0
  try simp only [e19] at r5_1
  try simp only [e21] at r5_2
  try simp only [e19] at r5_3
  try simp only [e27] at r6_4
  have wb0 := (p7 (hV H0 285 32).toNat).1
  have wp0 := (p7 (hV H0 285 33).toNat).2
  clear e1 e3 e4 e7 e13 e15 e17 e19 e21 e23 e27 e44 e57 e70 e71 e72 e73 e74 e75 e76 e77 e78 e79 e80 e81 e82 e83 e84 e85 e86 e87 e88 e89 e90 e91 e92 e93 e94 e95 e96
  clear f5 f9 f11 f16 f20 f26 f28 f33
  rw [f22] at f34
  first
  | (have ix0 : n16 = 1 * n15 := Eq.trans f34 (w32_iv (Iml 1 rfl (Iat f32 f31)) (by decide)); subst ix0; clear f34)
  | (have ix0 : n16 = 1 * n15 := Eq.trans f34 (w32_id (by omega) (by omega)); subst ix0; clear f34)
  | (unfold w32 at f34; have ix0 : n16 = 1 * n15 := (by omega); subst ix0)
  | skip
  try unfold w32 at f34

  refine ⟨⟨?_, ?_, ?_, ?_, ?_⟩, fun q hq => ?_⟩
  · first | exact True.intro | rfl | omega
  · first | exact True.intro | rfl | omega
  · exact p0
  · intro z1 z2
    exact p5 (by omega) (by omega)
  · (try clear p0 p5 p7)
    first
    | omega
    | (refine ⟨?_, ?_, ?_, ?_, ?_, ?_, ?_, ?_, ?_, ?_, ?_⟩ <;> first | exact True.intro | omega)
  · exact nomatch hq
def g_229_s_3 : vG := ([(3, [18, 12, 17], [], 0), (1223, [17, 0, 15, 16], [6, 7], 0), (90, [17], [], 0), (91, [17], [], 9999), (0, [16], [], 60), (0, [15], [], 0), (1219, [0], [5, 6], 0), (31, [14], [], 0), (1216, [14, 0, 13], [4, 5], 0), (90, [14], [], 0), (91, [14], [], 1), (0, [13], [], 8), (0, [12], [], 1), (30, [11], [], 0), (1216, [11, 0, 10], [3, 4], 0), (90, [11], [], 0), (91, [11], [], 1), (0, [10], [], 9), (1223, [9, 0, 7, 8], [2, 3], 0), (90, [9], [], 0), (91, [9], [], 9999), (0, [8], [], 7), (0, [7], [], 0), (1219, [0], [1, 2], 0), (31, [6], [], 0), (1216, [6, 0, 5], [0, 1], 0), (90, [6], [], 0), (91, [6], [], 1), (0, [5], [], 41), (6000, [0, 1, 2], [0], 0), (0, [0], [], 285), (90, [1], [], 0), (91, [1], [], 1007), (90, [2], [], 0), (91, [2], [], 1)], (4000, [0, 1, 2, 9, 18], [7], 88))
theorem c_229_s_3 : vOkm T0 (eP e_229 L_229 A_229 mu_229 none) 3 g_229_s_3 := vOk_inI fun ρ η f0 f1 f2 f3 f4 f5 f6 f7 f8 f9 f10 f11 f12 f13 f14 f15 f16 f17 f18 f19 f20 f21 f22 f23 f24 f25 f26 f27 f28 f29 f30 f31 f32 f33 f34 => q_229_3 (n0 := ρ 2) (n1 := ρ 1) (n2 := ρ 0) (n3 := ρ 5) (n4 := ρ 6) (n5 := ρ 7) (n6 := ρ 8) (n7 := ρ 9) (n8 := ρ 10) (n9 := ρ 11) (n10 := ρ 12) (n11 := ρ 13) (n12 := ρ 14) (n13 := ρ 15) (n14 := ρ 16) (n15 := ρ 17) (n16 := ρ 18) (H0 := η 0) (H1 := η 1) (H2 := η 2) (H3 := η 3) (H4 := η 4) (H5 := η 5) (H6 := η 6) (H7 := η 7) f34 f33 f32 f31 f30 f29 f28 f27 f26 f25 f24 f23 f22 f21 f20 f19 f18 f17 f16 f15 f14 f13 f12 f11 f10 f9 f8 f7 f6 f5 f4 f3 f2 f1 f0
set_option maxHeartbeats 20000000 in
theorem q_229_4 {n0 n1 n2 n3 n4 n5 n6 n7 n8 n9 n10 n11 n12 n13 n14 : Int} {H0 H1 H2 H3 H4 H5 H6 : gH} (f0 : n0 ≤ 1) (f1 : 0 ≤ n0) (f2 : n1 ≤ 1007) (f3 : 0 ≤ n1) (f4 : n2 = 285) (f5 : hWt T0 H0 ∧ preb_229 n2 n1 n0 H0) (f6 : n3 = 0) (f7 : n4 = 41) (f8 : n5 ≤ 1) (f9 : 0 ≤ n5) (f10 : (hLe T0 H0 H1 ∧ hFr s_216.2.2.2.2 H0 H1 ∧ ((0 : Int) = 0 → H1.length = H0.length) ∧ hWt T0 H1) ∧ postb_216 n5 n2 n4 H0 H1) (f11 : n5 ≠ 0) (f12 : (hLe T0 H1 H2 ∧ hFr s_219.2.2.2.2 H1 H2 ∧ ((0 : Int) = 0 → H2.length = H1.length) ∧ hWt T0 H2) ∧ postb_219 n2 H1 H2) (f13 : n6 = 0) (f14 : n7 = 7) (f15 : n8 ≤ 9999) (f16 : 0 ≤ n8) (f17 : (hLe T0 H2 H3 ∧ hFr s_223.2.2.2.2 H2 H3 ∧ ((0 : Int) = 0 → H3.length = H2.length) ∧ hWt T0 H3) ∧ postb_223 n8 n2 n6 n7 H2 H3) (f18 : n9 = 9) (f19 : n10 ≤ 1) (f20 : 0 ≤ n10) (f21 : (hLe T0 H3 H4 ∧ hFr s_216.2.2.2.2 H3 H4 ∧ ((0 : Int) = 0 → H4.length = H3.length) ∧ hWt T0 H4) ∧ postb_216 n10 n2 n9 H3 H4) (f22 : n10 = 0) (f23 : n11 = 8) (f24 : n12 ≤ 1) (f25 : 0 ≤ n12) (f26 : (hLe T0 H4 H5 ∧ hFr s_216.2.2.2.2 H4 H5 ∧ ((0 : Int) = 0 → H5.length = H4.length) ∧ hWt T0 H5) ∧ postb_216 n12 n2 n11 H4 H5) (f27 : n12 = 0) (f28 : n13 = 9) (f29 : n14 ≤ 1) (f30 : 0 ≤ n14) (f31 : (hLe T0 H5 H6 ∧ hFr s_216.2.2.2.2 H5 H6 ∧ ((0 : Int) = 0 → H6.length = H5.length) ∧ hWt T0 H6) ∧ postb_216 n14 n2 n13 H5 H6) (f32 : n14 = 0) : Ab_229_88 n2 n1 n0 n2 n1 n0 n8 n3 H0 H6 ∧ ∀ q, none = some q → mub_229_88 n2 n1 n0 n2 n1 n0 n8 n3 H0 H6 < q := by
  unfold preb_229 at f5
  unfold postb_216 at f10
  unfold postb_219 at f12
  unfold postb_223 at f17
  unfold postb_216 at f21
  unfold postb_216 at f26
  unfold postb_216 at f31
  unfold Ab_229_88
  have e1 : hV H1 285 11 = hV H0 285 11 := (f10.1.2.1.1 285 11 kF_216_285_11)
  have e3 : hV H1 285 13 = hV H0 285 13 := (f10.1.2.1.1 285 13 kF_216_285_13)
  have e4 : hV H1 288 = hV H0 288 := fRow f10.1.2.1 288 kR_216_288
  have e7 : hV H2 285 15 = hV H0 285 15 := ((f12.1.2.1.1 285 15 kF_219_285_15)).trans (f10.1.2.1.1 285 15 kF_216_285_15)
  have e15 : hV H4 285 13 = hV H3 285 13 := (f21.1.2.1.1 285 13 kF_216_285_13)
  have e21 : hV H5 285 13 = hV H3 285 13 := ((f26.1.2.1.1 285 13 kF_216_285_13)).trans (f21.1.2.1.1 285 13 kF_216_285_13)
  have e25 : hV H6 285 11 = hV H3 285 11 := ((f31.1.2.1.1 285 11 kF_216_285_11)).trans (((f26.1.2.1.1 285 11 kF_216_285_11)).trans (f21.1.2.1.1 285 11 kF_216_285_11))
  have e27 : hV H6 285 13 = hV H3 285 13 := ((f31.1.2.1.1 285 13 kF_216_285_13)).trans (((f26.1.2.1.1 285 13 kF_216_285_13)).trans (f21.1.2.1.1 285 13 kF_216_285_13))
  have e31 : hV H6 285 15 = hV H3 285 15 := ((f31.1.2.1.1 285 15 kF_216_285_15)).trans (((f26.1.2.1.1 285 15 kF_216_285_15)).trans (f21.1.2.1.1 285 15 kF_216_285_15))
  have e44 : hV H6 301 = hV H0 301 := (fRow f31.1.2.1 301 kR_216_301).trans ((fRow f26.1.2.1 301 kR_216_301).trans ((fRow f21.1.2.1 301 kR_216_301).trans ((fRow f17.1.2.1 301 kR_223_301).trans ((fRow f12.1.2.1 301 kR_219_301).trans (fRow f10.1.2.1 301 kR_216_301)))))
  have e55 : hV H6 302 = hV H0 302 := (fRow f31.1.2.1 302 kR_216_302).trans ((fRow f26.1.2.1 302 kR_216_302).trans ((fRow f21.1.2.1 302 kR_216_302).trans ((fRow f17.1.2.1 302 kR_223_302).trans ((fRow f12.1.2.1 302 kR_219_302).trans (fRow f10.1.2.1 302 kR_216_302)))))
  have e66 : hV H6 303 = hV H0 303 := (fRow f31.1.2.1 303 kR_216_303).trans ((fRow f26.1.2.1 303 kR_216_303).trans ((fRow f21.1.2.1 303 kR_216_303).trans ((fRow f17.1.2.1 303 kR_223_303).trans ((fRow f12.1.2.1 303 kR_219_303).trans (fRow f10.1.2.1 303 kR_216_303)))))
  have e67 : PA H1 = PA H0 := PA_fr f10.1.2.1 (by decide +kernel)
  have e68 : PA H2 = PA H1 := PA_fr f12.1.2.1 (by decide +kernel)
  have e69 : PA H2 = PA H0 := e68.trans e67
  have e70 : PA H3 = PA H2 := PA_fr f17.1.2.1 (by decide +kernel)
  have e71 : PA H3 = PA H0 := e70.trans e69
  have e72 : PA H4 = PA H3 := PA_fr f21.1.2.1 (by decide +kernel)
  have e73 : PA H4 = PA H0 := e72.trans e71
  have e74 : PA H5 = PA H4 := PA_fr f26.1.2.1 (by decide +kernel)
  have e75 : PA H5 = PA H0 := e74.trans e73
  have e76 : PA H6 = PA H5 := PA_fr f31.1.2.1 (by decide +kernel)
  have e77 : PA H6 = PA H0 := e76.trans e75
  have e78 : PW H1 = PW H0 := PW_fr f10.1.2.1 (by decide +kernel)
  have e79 : PW H2 = PW H1 := PW_fr f12.1.2.1 (by decide +kernel)
  have e80 : PW H2 = PW H0 := e79.trans e78
  have e81 : PW H3 = PW H2 := PW_fr f17.1.2.1 (by decide +kernel)
  have e82 : PW H3 = PW H0 := e81.trans e80
  have e83 : PW H4 = PW H3 := PW_fr f21.1.2.1 (by decide +kernel)
  have e84 : PW H4 = PW H0 := e83.trans e82
  have e85 : PW H5 = PW H4 := PW_fr f26.1.2.1 (by decide +kernel)
  have e86 : PW H5 = PW H0 := e85.trans e84
  have e87 : PW H6 = PW H5 := PW_fr f31.1.2.1 (by decide +kernel)
  have e88 : PW H6 = PW H0 := e87.trans e86
  have e89 : (0 : Int) ≤ hV H0 285 11 ∧ hV H0 285 11 ≤ 500 := f5.1 285 11 _ _ kW_285_11
  have e90 : (0 : Int) ≤ hV H0 285 13 ∧ hV H0 285 13 ≤ 2 := f5.1 285 13 _ _ kW_285_13
  have e91 : (0 : Int) ≤ hV H0 285 15 ∧ hV H0 285 15 ≤ 6 := f5.1 285 15 _ _ kW_285_15
  have e92 : (0 : Int) ≤ hV H0 285 18 ∧ hV H0 285 18 ≤ 8 := f5.1 285 18 _ _ kW_285_18
  have e93 : (0 : Int) ≤ hV H0 285 32 ∧ hV H0 285 32 ≤ 7 := f5.1 285 32 _ _ kW_285_32
  have e94 : (0 : Int) ≤ hV H0 285 33 ∧ hV H0 285 33 ≤ 62 := f5.1 285 33 _ _ kW_285_33
  have e97 : (0 : Int) ≤ hV H2 285 11 ∧ hV H2 285 11 ≤ 500 := f12.1.2.2.2 285 11 _ _ kW_285_11
  have e98 : (0 : Int) ≤ hV H2 285 13 ∧ hV H2 285 13 ≤ 2 := f12.1.2.2.2 285 13 _ _ kW_285_13
  have e100 : (0 : Int) ≤ hV H3 285 11 ∧ hV H3 285 11 ≤ 500 := f17.1.2.2.2 285 11 _ _ kW_285_11
  have e101 : (0 : Int) ≤ hV H3 285 13 ∧ hV H3 285 13 ≤ 2 := f17.1.2.2.2 285 13 _ _ kW_285_13
  have e102 : (0 : Int) ≤ hV H3 285 15 ∧ hV H3 285 15 ≤ 6 := f17.1.2.2.2 285 15 _ _ kW_285_15
  try simp only [e25, e27, e31, e44, e55, e66, e77, e88]
  have p0 := f5.2.1
  have p1 := f5.2.2.1
  have p2 := f5.2.2.2.1
  have p3 := f5.2.2.2.2.1
  have p4 := f5.2.2.2.2.2.1
  have p5 := f5.2.2.2.2.2.2.1
  have p6 := f5.2.2.2.2.2.2.2.1
  have p7 := f5.2.2.2.2.2.2.2.2
  have r0_0 := f10.2.1
  have r0_1 := f10.2.2.resolve_right (fun z => f11 z.1)
  have r1_0 := f12.2.1
  have r1_1 := f12.2.2.1
  have r1_2 := f12.2.2.2.1
  have r1_3 := f12.2.2.2.2
  have r2_0 := f17.2.1
  have r2_1 := f17.2.2.1
  have r2_2 := f17.2.2.2.1
  have r2_3 := f17.2.2.2.2.1
  have r2_4 := f17.2.2.2.2.2.1
  have r2_5 := f17.2.2.2.2.2.2.1
  have r2_6 := f17.2.2.2.2.2.2.2.1
  have r3_0 := f21.2.1
  have r4_0 := f26.2.1
  have r5_0 := f31.2.1
  try simp only [e3] at r0_0
  try simp only [e1, e3, e4] at r0_1
  try simp only [e1] at r1_0
  try simp only [e1] at r1_1
  try simp only [e3] at r1_2
  try simp only [e1] at r1_3
  try simp only [e7] at r2_4
  try simp only [e15] at r3_0
  try simp only [e21] at r4_0
  try simp only [e27] at r5_0
  have wb0 := (p7 (hV H0 285 32).toNat).1
  have wp0 := (p7 (hV H0 285 33).toNat).2
  clear e1 e3 e4 e7 e15 e21 e25 e27 e31 e44 e55 e66 e67 e68 e69 e70 e71 e72 e73 e74 e75 e76 e77 e78 e79 e80 e81 e82 e83 e84 e85 e86 e87 e88
  clear f5 f10 f12 f17 f21 f26 f31

  refine ⟨⟨?_, ?_, ?_, ?_, ?_⟩, fun q hq => ?_⟩
  · first | exact True.intro | rfl | omega
  · first | exact True.intro | rfl | omega
  · exact p0
  · intro z1 z2
    exact p5 (by omega) (by omega)
  · (try clear p0 p5 p7)
    first
    | omega
    | (refine ⟨?_, ?_, ?_, ?_, ?_, ?_, ?_, ?_, ?_, ?_, ?_⟩ <;> first | exact True.intro | omega)
  · exact nomatch hq
def g_229_s_4 : vG := ([(30, [16], [], 0), (1216, [16, 0, 15], [5, 6], 0), (90, [16], [], 0), (91, [16], [], 1), (0, [15], [], 9), (30, [14], [], 0), (1216, [14, 0, 13], [4, 5], 0), (90, [14], [], 0), (91, [14], [], 1), (0, [13], [], 8), (30, [11], [], 0), (1216, [11, 0, 10], [3, 4], 0), (90, [11], [], 0), (91, [11], [], 1), (0, [10], [], 9), (1223, [9, 0, 7, 8], [2, 3], 0), (90, [9], [], 0), (91, [9], [], 9999), (0, [8], [], 7), (0, [7], [], 0), (1219, [0], [1, 2], 0), (31, [6], [], 0), (1216, [6, 0, 5], [0, 1], 0), (90, [6], [], 0), (91, [6], [], 1), (0, [5], [], 41), (0, [4], [], 0), (6000, [0, 1, 2], [0], 0), (0, [0], [], 285), (90, [1], [], 0), (91, [1], [], 1007), (90, [2], [], 0), (91, [2], [], 1)], (4000, [0, 1, 2, 9, 4], [6], 88))
theorem c_229_s_4 : vOkm T0 (eP e_229 L_229 A_229 mu_229 none) 3 g_229_s_4 := vOk_inI fun ρ η f0 f1 f2 f3 f4 f5 f6 f7 f8 f9 f10 f11 f12 f13 f14 f15 f16 f17 f18 f19 f20 f21 f22 f23 f24 f25 f26 f27 f28 f29 f30 f31 f32 => q_229_4 (n0 := ρ 2) (n1 := ρ 1) (n2 := ρ 0) (n3 := ρ 4) (n4 := ρ 5) (n5 := ρ 6) (n6 := ρ 7) (n7 := ρ 8) (n8 := ρ 9) (n9 := ρ 10) (n10 := ρ 11) (n11 := ρ 13) (n12 := ρ 14) (n13 := ρ 15) (n14 := ρ 16) (H0 := η 0) (H1 := η 1) (H2 := η 2) (H3 := η 3) (H4 := η 4) (H5 := η 5) (H6 := η 6) f32 f31 f30 f29 f28 f27 f26 f25 f24 f23 f22 f21 f20 f19 f18 f17 f16 f15 f14 f13 f12 f11 f10 f9 f8 f7 f6 f5 f4 f3 f2 f1 f0
set_option maxHeartbeats 20000000 in
theorem q_229_5 {n0 n1 n2 n3 n4 n5 n6 n7 n8 n9 n10 n11 n12 n13 n14 n15 n16 n17 n18 : Int} {H0 H1 H2 H3 H4 H5 H6 H7 H8 : gH} (f0 : n0 ≤ 1) (f1 : 0 ≤ n0) (f2 : n1 ≤ 1007) (f3 : 0 ≤ n1) (f4 : n2 = 285) (f5 : hWt T0 H0 ∧ preb_229 n2 n1 n0 H0) (f6 : n3 = 41) (f7 : n4 ≤ 1) (f8 : 0 ≤ n4) (f9 : (hLe T0 H0 H1 ∧ hFr s_216.2.2.2.2 H0 H1 ∧ ((0 : Int) = 0 → H1.length = H0.length) ∧ hWt T0 H1) ∧ postb_216 n4 n2 n3 H0 H1) (f10 : n4 ≠ 0) (f11 : (hLe T0 H1 H2 ∧ hFr s_219.2.2.2.2 H1 H2 ∧ ((0 : Int) = 0 → H2.length = H1.length) ∧ hWt T0 H2) ∧ postb_219 n2 H1 H2) (f12 : n5 = 0) (f13 : n6 = 7) (f14 : n7 ≤ 9999) (f15 : 0 ≤ n7) (f16 : (hLe T0 H2 H3 ∧ hFr s_223.2.2.2.2 H2 H3 ∧ ((0 : Int) = 0 → H3.length = H2.length) ∧ hWt T0 H3) ∧ postb_223 n7 n2 n5 n6 H2 H3) (f17 : n8 = 9) (f18 : n9 ≤ 1) (f19 : 0 ≤ n9) (f20 : (hLe T0 H3 H4 ∧ hFr s_216.2.2.2.2 H3 H4 ∧ ((0 : Int) = 0 → H4.length = H3.length) ∧ hWt T0 H4) ∧ postb_216 n9 n2 n8 H3 H4) (f21 : n9 = 0) (f22 : n10 = 1) (f23 : n11 = 8) (f24 : n12 ≤ 1) (f25 : 0 ≤ n12) (f26 : (hLe T0 H4 H5 ∧ hFr s_216.2.2.2.2 H4 H5 ∧ ((0 : Int) = 0 → H5.length = H4.length) ∧ hWt T0 H5) ∧ postb_216 n12 n2 n11 H4 H5) (f27 : n12 = 0) (f28 : n13 = 9) (f29 : n14 ≤ 1) (f30 : 0 ≤ n14) (f31 : (hLe T0 H5 H6 ∧ hFr s_216.2.2.2.2 H5 H6 ∧ ((0 : Int) = 0 → H6.length = H5.length) ∧ hWt T0 H6) ∧ postb_216 n14 n2 n13 H5 H6) (f32 : n14 ≠ 0) (f33 : (hLe T0 H6 H7 ∧ hFr s_219.2.2.2.2 H6 H7 ∧ ((0 : Int) = 0 → H7.length = H6.length) ∧ hWt T0 H7) ∧ postb_219 n2 H6 H7) (f34 : n15 = 0) (f35 : n16 = 60) (f36 : n17 ≤ 9999) (f37 : 0 ≤ n17) (f38 : (hLe T0 H7 H8 ∧ hFr s_223.2.2.2.2 H7 H8 ∧ ((0 : Int) = 0 → H8.length = H7.length) ∧ hWt T0 H8) ∧ postb_223 n17 n2 n15 n16 H7 H8) (f39 : n18 = w32 (n10 * n17)) : (-9999) ≤ n18 := by
  unfold preb_229 at f5
  unfold postb_216 at f9
  unfold postb_219 at f11
  unfold postb_223 at f16
  unfold postb_216 at f20
  unfold postb_216 at f26
  unfold postb_216 at f31
  unfold postb_219 at f33
  unfold postb_223 at f38
  have e1 : hV H1 285 11 = hV H0 285 11 := (f9.1.2.1.1 285 11 kF_216_285_11)
  have e3 : hV H1 285 13 = hV H0 285 13 := (f9.1.2.1.1 285 13 kF_216_285_13)
  have e4 : hV H1 288 = hV H0 288 := fRow f9.1.2.1 288 kR_216_288
  have e7 : hV H2 285 15 = hV H0 285 15 := ((f11.1.2.1.1 285 15 kF_219_285_15)).trans (f9.1.2.1.1 285 15 kF_216_285_15)
  have e15 : hV H4 285 13 = hV H3 285 13 := (f20.1.2.1.1 285 13 kF_216_285_13)
  have e19 : hV H5 285 11 = hV H3 285 11 := ((f26.1.2.1.1 285 11 kF_216_285_11)).trans (f20.1.2.1.1 285 11 kF_216_285_11)
  have e21 : hV H5 285 13 = hV H3 285 13 := ((f26.1.2.1.1 285 13 kF_216_285_13)).trans (f20.1.2.1.1 285 13 kF_216_285_13)
  have e23 : hV H5 288 = hV H0 288 := (fRow f26.1.2.1 288 kR_216_288).trans ((fRow f20.1.2.1 288 kR_216_288).trans ((fRow f16.1.2.1 288 kR_223_288).trans ((fRow f11.1.2.1 288 kR_219_288).trans e4)))
  have e25 : hV H6 285 11 = hV H3 285 11 := ((f31.1.2.1.1 285 11 kF_216_285_11)).trans (((f26.1.2.1.1 285 11 kF_216_285_11)).trans (f20.1.2.1.1 285 11 kF_216_285_11))
  have e27 : hV H6 285 13 = hV H3 285 13 := ((f31.1.2.1.1 285 13 kF_216_285_13)).trans (((f26.1.2.1.1 285 13 kF_216_285_13)).trans (f20.1.2.1.1 285 13 kF_216_285_13))
  have e29 : hV H6 288 = hV H0 288 := (fRow f31.1.2.1 288 kR_216_288).trans e23
  have e34 : hV H7 285 15 = hV H3 285 15 := ((f33.1.2.1.1 285 15 kF_219_285_15)).trans (((f31.1.2.1.1 285 15 kF_216_285_15)).trans (((f26.1.2.1.1 285 15 kF_216_285_15)).trans (f20.1.2.1.1 285 15 kF_216_285_15)))
  have e39 : (0 : Int) ≤ hV H0 285 13 ∧ hV H0 285 13 ≤ 2 := f5.1 285 13 _ _ kW_285_13
  have e40 : (0 : Int) ≤ hV H0 285 15 ∧ hV H0 285 15 ≤ 6 := f5.1 285 15 _ _ kW_285_15
  have e41 : (0 : Int) ≤ hV H0 285 18 ∧ hV H0 285 18 ≤ 8 := f5.1 285 18 _ _ kW_285_18
  have e42 : (0 : Int) ≤ hV H0 285 32 ∧ hV H0 285 32 ≤ 7 := f5.1 285 32 _ _ kW_285_32
  have e43 : (0 : Int) ≤ hV H0 285 33 ∧ hV H0 285 33 ≤ 62 := f5.1 285 33 _ _ kW_285_33
  have e44 : (0 : Int) ≤ hV H0 285 11 ∧ hV H0 285 11 ≤ 500 := bTo e1 (f9.1.2.2.2 285 11 _ _ kW_285_11)
  have e47 : (0 : Int) ≤ hV H2 285 11 ∧ hV H2 285 11 ≤ 500 := f11.1.2.2.2 285 11 _ _ kW_285_11
  have e48 : (0 : Int) ≤ hV H2 285 13 ∧ hV H2 285 13 ≤ 2 := f11.1.2.2.2 285 13 _ _ kW_285_13
  have e50 : (0 : Int) ≤ hV H3 285 11 ∧ hV H3 285 11 ≤ 500 := f16.1.2.2.2 285 11 _ _ kW_285_11
  have e51 : (0 : Int) ≤ hV H3 285 13 ∧ hV H3 285 13 ≤ 2 := f16.1.2.2.2 285 13 _ _ kW_285_13
  have e52 : (0 : Int) ≤ hV H3 285 15 ∧ hV H3 285 15 ≤ 6 := f16.1.2.2.2 285 15 _ _ kW_285_15
  have e59 : (0 : Int) ≤ hV H7 285 11 ∧ hV H7 285 11 ≤ 500 := f33.1.2.2.2 285 11 _ _ kW_285_11
  have e60 : (0 : Int) ≤ hV H7 285 13 ∧ hV H7 285 13 ≤ 2 := f33.1.2.2.2 285 13 _ _ kW_285_13
  have e62 : (0 : Int) ≤ hV H8 285 11 ∧ hV H8 285 11 ≤ 500 := f38.1.2.2.2 285 11 _ _ kW_285_11
  have e63 : (0 : Int) ≤ hV H8 285 13 ∧ hV H8 285 13 ≤ 2 := f38.1.2.2.2 285 13 _ _ kW_285_13
  have e64 : (0 : Int) ≤ hV H8 285 15 ∧ hV H8 285 15 ≤ 6 := f38.1.2.2.2 285 15 _ _ kW_285_15
  have p0 := f5.2.1
  have p1 := f5.2.2.1
  have p2 := f5.2.2.2.1
  have p3 := f5.2.2.2.2.1
  have p4 := f5.2.2.2.2.2.1
  have p5 := f5.2.2.2.2.2.2.1
  have p6 := f5.2.2.2.2.2.2.2.1
  have p7 := f5.2.2.2.2.2.2.2.2
  have r0_0 := f9.2.1
  have r0_1 := f9.2.2.resolve_right (fun z => f10 z.1)
  have r1_0 := f11.2.1
  have r1_1 := f11.2.2.1
  have r1_2 := f11.2.2.2.1
  have r1_3 := f11.2.2.2.2
  have r2_0 := f16.2.1
  have r2_1 := f16.2.2.1
  have r2_2 := f16.2.2.2.1
  have r2_3 := f16.2.2.2.2.1
  have r2_4 := f16.2.2.2.2.2.1
  have r2_5 := f16.2.2.2.2.2.2.1
  have r2_6 := f16.2.2.2.2.2.2.2.1
  have r3_0 := f20.2.1
  have r4_0 := f26.2.1
  have r5_0 := f31.2.1
  have r5_1 := f31.2.2.resolve_right (fun z => f32 z.1)
  have r6_0 := f33.2.1
  have r6_1 := f33.2.2.1
  have r6_2 := f33.2.2.2.1
  have r6_3 := f33.2.2.2.2
  have r7_0 := f38.2.1
  have r7_1 := f38.2.2.1
  have r7_2 := f38.2.2.2.1
  have r7_3 := f38.2.2.2.2.1
  have r7_4 := f38.2.2.2.2.2.1
  have r7_5 := f38.2.2.2.2.2.2.1
  have r7_6 := f38.2.2.2.2.2.2.2.1
  try simp only [e3] at r0_0
  try simp only [e1, e3, e4] at r0_1
  try simp only [e1] at r1_0
  try simp only [e1] at r1_1
  try simp only [e3] at r1_2
  try simp only [e1] at r1_3
  try simp only [e7] at r2_4
  try simp only [e15] at r3_0
  try simp only [e21] at r4_0
  try simp only [e27] at r5_0
  try simp only [e19, e21, e23, e25, e27, e29] at r5_1
  try simp only [e25] at r6_0
  try simp only [e25] at r6_1
  try simp only [e27] at r6_2
  try simp only [e25] at r6_3
  try simp only [e34] at r7_4
  have wb0 := (p7 (hV H0 285 32).toNat).1
  have wp0 := (p7 (hV H0 285 33).toNat).2
  clear e1 e3 e4 e7 e15 e19 e21 e23 e25 e27 e29 e34
  clear f5 f9 f11 f16 f20 f26 f31 f33 f38
  rw [f22] at f39
  first
  | (have ix0 : n18 = 1 * n17 := Eq.trans f39 (w32_iv (Iml 1 rfl (Iat f37 f36)) (by decide)); subst ix0; clear f39)
  | (have ix0 : n18 = 1 * n17 := Eq.trans f39 (w32_id (by omega) (by omega)); subst ix0; clear f39)
  | (unfold w32 at f39; have ix0 : n18 = 1 * n17 := (by omega); subst ix0)
  | skip
  try unfold w32 at f39

  (try clear p0 p5 p7)
  omega
def g_229_s_5 : vG := ([(3, [20, 12, 19], [], 0), (1223, [19, 0, 17, 18], [7, 8], 0), (90, [19], [], 0), (91, [19], [], 9999), (0, [18], [], 60), (0, [17], [], 0), (1219, [0], [6, 7], 0), (31, [16], [], 0), (1216, [16, 0, 15], [5, 6], 0), (90, [16], [], 0), (91, [16], [], 1), (0, [15], [], 9), (30, [14], [], 0), (1216, [14, 0, 13], [4, 5], 0), (90, [14], [], 0), (91, [14], [], 1), (0, [13], [], 8), (0, [12], [], 1), (30, [11], [], 0), (1216, [11, 0, 10], [3, 4], 0), (90, [11], [], 0), (91, [11], [], 1), (0, [10], [], 9), (1223, [9, 0, 7, 8], [2, 3], 0), (90, [9], [], 0), (91, [9], [], 9999), (0, [8], [], 7), (0, [7], [], 0), (1219, [0], [1, 2], 0), (31, [6], [], 0), (1216, [6, 0, 5], [0, 1], 0), (90, [6], [], 0), (91, [6], [], 1), (0, [5], [], 41), (6000, [0, 1, 2], [0], 0), (0, [0], [], 285), (90, [1], [], 0), (91, [1], [], 1007), (90, [2], [], 0), (91, [2], [], 1)], (90, [20], [], -9999))
theorem c_229_s_5 : vOkm T0 (eP e_229 L_229 A_229 mu_229 none) 3 g_229_s_5 := vOk_inI fun ρ η f0 f1 f2 f3 f4 f5 f6 f7 f8 f9 f10 f11 f12 f13 f14 f15 f16 f17 f18 f19 f20 f21 f22 f23 f24 f25 f26 f27 f28 f29 f30 f31 f32 f33 f34 f35 f36 f37 f38 f39 => q_229_5 (n0 := ρ 2) (n1 := ρ 1) (n2 := ρ 0) (n3 := ρ 5) (n4 := ρ 6) (n5 := ρ 7) (n6 := ρ 8) (n7 := ρ 9) (n8 := ρ 10) (n9 := ρ 11) (n10 := ρ 12) (n11 := ρ 13) (n12 := ρ 14) (n13 := ρ 15) (n14 := ρ 16) (n15 := ρ 17) (n16 := ρ 18) (n17 := ρ 19) (n18 := ρ 20) (H0 := η 0) (H1 := η 1) (H2 := η 2) (H3 := η 3) (H4 := η 4) (H5 := η 5) (H6 := η 6) (H7 := η 7) (H8 := η 8) f39 f38 f37 f36 f35 f34 f33 f32 f31 f30 f29 f28 f27 f26 f25 f24 f23 f22 f21 f20 f19 f18 f17 f16 f15 f14 f13 f12 f11 f10 f9 f8 f7 f6 f5 f4 f3 f2 f1 f0
set_option maxHeartbeats 20000000 in
theorem q_229_6 {n0 n1 n2 n3 n4 n5 n6 n7 n8 n9 n10 n11 n12 n13 n14 n15 n16 n17 n18 : Int} {H0 H1 H2 H3 H4 H5 H6 H7 H8 : gH} (f0 : n0 ≤ 1) (f1 : 0 ≤ n0) (f2 : n1 ≤ 1007) (f3 : 0 ≤ n1) (f4 : n2 = 285) (f5 : hWt T0 H0 ∧ preb_229 n2 n1 n0 H0) (f6 : n3 = 41) (f7 : n4 ≤ 1) (f8 : 0 ≤ n4) (f9 : (hLe T0 H0 H1 ∧ hFr s_216.2.2.2.2 H0 H1 ∧ ((0 : Int) = 0 → H1.length = H0.length) ∧ hWt T0 H1) ∧ postb_216 n4 n2 n3 H0 H1) (f10 : n4 ≠ 0) (f11 : (hLe T0 H1 H2 ∧ hFr s_219.2.2.2.2 H1 H2 ∧ ((0 : Int) = 0 → H2.length = H1.length) ∧ hWt T0 H2) ∧ postb_219 n2 H1 H2) (f12 : n5 = 0) (f13 : n6 = 7) (f14 : n7 ≤ 9999) (f15 : 0 ≤ n7) (f16 : (hLe T0 H2 H3 ∧ hFr s_223.2.2.2.2 H2 H3 ∧ ((0 : Int) = 0 → H3.length = H2.length) ∧ hWt T0 H3) ∧ postb_223 n7 n2 n5 n6 H2 H3) (f17 : n8 = 9) (f18 : n9 ≤ 1) (f19 : 0 ≤ n9) (f20 : (hLe T0 H3 H4 ∧ hFr s_216.2.2.2.2 H3 H4 ∧ ((0 : Int) = 0 → H4.length = H3.length) ∧ hWt T0 H4) ∧ postb_216 n9 n2 n8 H3 H4) (f21 : n9 = 0) (f22 : n10 = 1) (f23 : n11 = 8) (f24 : n12 ≤ 1) (f25 : 0 ≤ n12) (f26 : (hLe T0 H4 H5 ∧ hFr s_216.2.2.2.2 H4 H5 ∧ ((0 : Int) = 0 → H5.length = H4.length) ∧ hWt T0 H5) ∧ postb_216 n12 n2 n11 H4 H5) (f27 : n12 = 0) (f28 : n13 = 9) (f29 : n14 ≤ 1) (f30 : 0 ≤ n14) (f31 : (hLe T0 H5 H6 ∧ hFr s_216.2.2.2.2 H5 H6 ∧ ((0 : Int) = 0 → H6.length = H5.length) ∧ hWt T0 H6) ∧ postb_216 n14 n2 n13 H5 H6) (f32 : n14 ≠ 0) (f33 : (hLe T0 H6 H7 ∧ hFr s_219.2.2.2.2 H6 H7 ∧ ((0 : Int) = 0 → H7.length = H6.length) ∧ hWt T0 H7) ∧ postb_219 n2 H6 H7) (f34 : n15 = 0) (f35 : n16 = 60) (f36 : n17 ≤ 9999) (f37 : 0 ≤ n17) (f38 : (hLe T0 H7 H8 ∧ hFr s_223.2.2.2.2 H7 H8 ∧ ((0 : Int) = 0 → H8.length = H7.length) ∧ hWt T0 H8) ∧ postb_223 n17 n2 n15 n16 H7 H8) (f39 : n18 = w32 (n10 * n17)) : n18 ≤ 9999 := by
  unfold preb_229 at f5
  unfold postb_216 at f9
  unfold postb_219 at f11
  unfold postb_223 at f16
  unfold postb_216 at f20
  unfold postb_216 at f26
  unfold postb_216 at f31
  unfold postb_219 at f33
  unfold postb_223 at f38
  have e1 : hV H1 285 11 = hV H0 285 11 := (f9.1.2.1.1 285 11 kF_216_285_11)
  have e3 : hV H1 285 13 = hV H0 285 13 := (f9.1.2.1.1 285 13 kF_216_285_13)
  have e4 : hV H1 288 = hV H0 288 := fRow f9.1.2.1 288 kR_216_288
  have e7 : hV H2 285 15 = hV H0 285 15 := ((f11.1.2.1.1 285 15 kF_219_285_15)).trans (f9.1.2.1.1 285 15 kF_216_285_15)
  have e15 : hV H4 285 13 = hV H3 285 13 := (f20.1.2.1.1 285 13 kF_216_285_13)
  have e19 : hV H5 285 11 = hV H3 285 11 := ((f26.1.2.1.1 285 11 kF_216_285_11)).trans (f20.1.2.1.1 285 11 kF_216_285_11)
  have e21 : hV H5 285 13 = hV H3 285 13 := ((f26.1.2.1.1 285 13 kF_216_285_13)).trans (f20.1.2.1.1 285 13 kF_216_285_13)
  have e23 : hV H5 288 = hV H0 288 := (fRow f26.1.2.1 288 kR_216_288).trans ((fRow f20.1.2.1 288 kR_216_288).trans ((fRow f16.1.2.1 288 kR_223_288).trans ((fRow f11.1.2.1 288 kR_219_288).trans e4)))
  have e25 : hV H6 285 11 = hV H3 285 11 := ((f31.1.2.1.1 285 11 kF_216_285_11)).trans (((f26.1.2.1.1 285 11 kF_216_285_11)).trans (f20.1.2.1.1 285 11 kF_216_285_11))
  have e27 : hV H6 285 13 = hV H3 285 13 := ((f31.1.2.1.1 285 13 kF_216_285_13)).trans (((f26.1.2.1.1 285 13 kF_216_285_13)).trans (f20.1.2.1.1 285 13 kF_216_285_13))
  have e29 : hV H6 288 = hV H0 288 := (fRow f31.1.2.1 288 kR_216_288).trans e23
  have e34 : hV H7 285 15 = hV H3 285 15 := ((f33.1.2.1.1 285 15 kF_219_285_15)).trans (((f31.1.2.1.1 285 15 kF_216_285_15)).trans (((f26.1.2.1.1 285 15 kF_216_285_15)).trans (f20.1.2.1.1 285 15 kF_216_285_15)))
  have e39 : (0 : Int) ≤ hV H0 285 13 ∧ hV H0 285 13 ≤ 2 := f5.1 285 13 _ _ kW_285_13
  have e40 : (0 : Int) ≤ hV H0 285 15 ∧ hV H0 285 15 ≤ 6 := f5.1 285 15 _ _ kW_285_15
  have e41 : (0 : Int) ≤ hV H0 285 18 ∧ hV H0 285 18 ≤ 8 := f5.1 285 18 _ _ kW_285_18
  have e42 : (0 : Int) ≤ hV H0 285 32 ∧ hV H0 285 32 ≤ 7 := f5.1 285 32 _ _ kW_285_32
  have e43 : (0 : Int) ≤ hV H0 285 33 ∧ hV H0 285 33 ≤ 62 := f5.1 285 33 _ _ kW_285_33
  have e44 : (0 : Int) ≤ hV H0 285 11 ∧ hV H0 285 11 ≤ 500 := bTo e1 (f9.1.2.2.2 285 11 _ _ kW_285_11)
  have e47 : (0 : Int) ≤ hV H2 285 11 ∧ hV H2 285 11 ≤ 500 := f11.1.2.2.2 285 11 _ _ kW_285_11
  have e48 : (0 : Int) ≤ hV H2 285 13 ∧ hV H2 285 13 ≤ 2 := f11.1.2.2.2 285 13 _ _ kW_285_13
  have e50 : (0 : Int) ≤ hV H3 285 11 ∧ hV H3 285 11 ≤ 500 := f16.1.2.2.2 285 11 _ _ kW_285_11
  have e51 : (0 : Int) ≤ hV H3 285 13 ∧ hV H3 285 13 ≤ 2 := f16.1.2.2.2 285 13 _ _ kW_285_13
  have e52 : (0 : Int) ≤ hV H3 285 15 ∧ hV H3 285 15 ≤ 6 := f16.1.2.2.2 285 15 _ _ kW_285_15
  have e59 : (0 : Int) ≤ hV H7 285 11 ∧ hV H7 285 11 ≤ 500 := f33.1.2.2.2 285 11 _ _ kW_285_11
  have e60 : (0 : Int) ≤ hV H7 285 13 ∧ hV H7 285 13 ≤ 2 := f33.1.2.2.2 285 13 _ _ kW_285_13
  have e62 : (0 : Int) ≤ hV H8 285 11 ∧ hV H8 285 11 ≤ 500 := f38.1.2.2.2 285 11 _ _ kW_285_11
  have e63 : (0 : Int) ≤ hV H8 285 13 ∧ hV H8 285 13 ≤ 2 := f38.1.2.2.2 285 13 _ _ kW_285_13
  have e64 : (0 : Int) ≤ hV H8 285 15 ∧ hV H8 285 15 ≤ 6 := f38.1.2.2.2 285 15 _ _ kW_285_15
  have p0 := f5.2.1
  have p1 := f5.2.2.1
  have p2 := f5.2.2.2.1
  have p3 := f5.2.2.2.2.1
  have p4 := f5.2.2.2.2.2.1
  have p5 := f5.2.2.2.2.2.2.1
  have p6 := f5.2.2.2.2.2.2.2.1
  have p7 := f5.2.2.2.2.2.2.2.2
  have r0_0 := f9.2.1
  have r0_1 := f9.2.2.resolve_right (fun z => f10 z.1)
  have r1_0 := f11.2.1
  have r1_1 := f11.2.2.1
  have r1_2 := f11.2.2.2.1
  have r1_3 := f11.2.2.2.2
  have r2_0 := f16.2.1
  have r2_1 := f16.2.2.1
  have r2_2 := f16.2.2.2.1
  have r2_3 := f16.2.2.2.2.1
  have r2_4 := f16.2.2.2.2.2.1
  have r2_5 := f16.2.2.2.2.2.2.1
  have r2_6 := f16.2.2.2.2.2.2.2.1
  have r3_0 := f20.2.1
  have r4_0 := f26.2.1
  have r5_0 := f31.2.1
  have r5_1 := f31.2.2.resolve_right (fun z => f32 z.1)
  have r6_0 := f33.2.1
  have r6_1 := f33.2.2.1
  have r6_2 := f33.2.2.2.1
  have r6_3 := f33.2.2.2.2
  have r7_0 := f38.2.1
  have r7_1 := f38.2.2.1
  have r7_2 := f38.2.2.2.1
  have r7_3 := f38.2.2.2.2.1
  have r7_4 := f38.2.2.2.2.2.1
  have r7_5 := f38.2.2.2.2.2.2.1
  have r7_6 := f38.2.2.2.2.2.2.2.1
  try simp only [e3] at r0_0
  try simp only [e1, e3, e4] at r0_1
  try simp only [e1] at r1_0
  try simp only [e1] at r1_1
  try simp only [e3] at r1_2
  try simp only [e1] at r1_3
  try simp only [e7] at r2_4
  try simp only [e15] at r3_0
  try simp only [e21] at r4_0
  try simp only [e27] at r5_0
  try simp only [e19, e21, e23, e25, e27, e29] at r5_1
  try simp only [e25] at r6_0
  try simp only [e25] at r6_1
  try simp only [e27] at r6_2
  try simp only [e25] at r6_3
  try simp only [e34] at r7_4
  have wb0 := (p7 (hV H0 285 32).toNat).1
  have wp0 := (p7 (hV H0 285 33).toNat).2
  clear e1 e3 e4 e7 e15 e19 e21 e23 e25 e27 e29 e34
  clear f5 f9 f11 f16 f20 f26 f31 f33 f38
  rw [f22] at f39
  first
  | (have ix0 : n18 = 1 * n17 := Eq.trans f39 (w32_iv (Iml 1 rfl (Iat f37 f36)) (by decide)); subst ix0; clear f39)
  | (have ix0 : n18 = 1 * n17 := Eq.trans f39 (w32_id (by omega) (by omega)); subst ix0; clear f39)
  | (unfold w32 at f39; have ix0 : n18 = 1 * n17 := (by omega); subst ix0)
  | skip
  try unfold w32 at f39

  (try clear p0 p5 p7)
  omega
def g_229_s_6 : vG := ([(3, [20, 12, 19], [], 0), (1223, [19, 0, 17, 18], [7, 8], 0), (90, [19], [], 0), (91, [19], [], 9999), (0, [18], [], 60), (0, [17], [], 0), (1219, [0], [6, 7], 0), (31, [16], [], 0), (1216, [16, 0, 15], [5, 6], 0), (90, [16], [], 0), (91, [16], [], 1), (0, [15], [], 9), (30, [14], [], 0), (1216, [14, 0, 13], [4, 5], 0), (90, [14], [], 0), (91, [14], [], 1), (0, [13], [], 8), (0, [12], [], 1), (30, [11], [], 0), (1216, [11, 0, 10], [3, 4], 0), (90, [11], [], 0), (91, [11], [], 1), (0, [10], [], 9), (1223, [9, 0, 7, 8], [2, 3], 0), (90, [9], [], 0), (91, [9], [], 9999), (0, [8], [], 7), (0, [7], [], 0), (1219, [0], [1, 2], 0), (31, [6], [], 0), (1216, [6, 0, 5], [0, 1], 0), (90, [6], [], 0), (91, [6], [], 1), (0, [5], [], 41), (6000, [0, 1, 2], [0], 0), (0, [0], [], 285), (90, [1], [], 0), (91, [1], [], 1007), (90, [2], [], 0), (91, [2], [], 1)], (91, [20], [], 9999))
theorem c_229_s_6 : vOkm T0 (eP e_229 L_229 A_229 mu_229 none) 3 g_229_s_6 := vOk_inI fun ρ η f0 f1 f2 f3 f4 f5 f6 f7 f8 f9 f10 f11 f12 f13 f14 f15 f16 f17 f18 f19 f20 f21 f22 f23 f24 f25 f26 f27 f28 f29 f30 f31 f32 f33 f34 f35 f36 f37 f38 f39 => q_229_6 (n0 := ρ 2) (n1 := ρ 1) (n2 := ρ 0) (n3 := ρ 5) (n4 := ρ 6) (n5 := ρ 7) (n6 := ρ 8) (n7 := ρ 9) (n8 := ρ 10) (n9 := ρ 11) (n10 := ρ 12) (n11 := ρ 13) (n12 := ρ 14) (n13 := ρ 15) (n14 := ρ 16) (n15 := ρ 17) (n16 := ρ 18) (n17 := ρ 19) (n18 := ρ 20) (H0 := η 0) (H1 := η 1) (H2 := η 2) (H3 := η 3) (H4 := η 4) (H5 := η 5) (H6 := η 6) (H7 := η 7) (H8 := η 8) f39 f38 f37 f36 f35 f34 f33 f32 f31 f30 f29 f28 f27 f26 f25 f24 f23 f22 f21 f20 f19 f18 f17 f16 f15 f14 f13 f12 f11 f10 f9 f8 f7 f6 f5 f4 f3 f2 f1 f0
set_option maxHeartbeats 20000000 in
theorem q_229_7 {n0 n1 n2 n3 n4 n5 n6 n7 n8 n9 n10 n11 n12 n13 n14 n15 n16 n17 n18 : Int} {H0 H1 H2 H3 H4 H5 H6 H7 H8 : gH} (f0 : n0 ≤ 1) (f1 : 0 ≤ n0) (f2 : n1 ≤ 1007) (f3 : 0 ≤ n1) (f4 : n2 = 285) (f5 : hWt T0 H0 ∧ preb_229 n2 n1 n0 H0) (f6 : n3 = 41) (f7 : n4 ≤ 1) (f8 : 0 ≤ n4) (f9 : (hLe T0 H0 H1 ∧ hFr s_216.2.2.2.2 H0 H1 ∧ ((0 : Int) = 0 → H1.length = H0.length) ∧ hWt T0 H1) ∧ postb_216 n4 n2 n3 H0 H1) (f10 : n4 ≠ 0) (f11 : (hLe T0 H1 H2 ∧ hFr s_219.2.2.2.2 H1 H2 ∧ ((0 : Int) = 0 → H2.length = H1.length) ∧ hWt T0 H2) ∧ postb_219 n2 H1 H2) (f12 : n5 = 0) (f13 : n6 = 7) (f14 : n7 ≤ 9999) (f15 : 0 ≤ n7) (f16 : (hLe T0 H2 H3 ∧ hFr s_223.2.2.2.2 H2 H3 ∧ ((0 : Int) = 0 → H3.length = H2.length) ∧ hWt T0 H3) ∧ postb_223 n7 n2 n5 n6 H2 H3) (f17 : n8 = 9) (f18 : n9 ≤ 1) (f19 : 0 ≤ n9) (f20 : (hLe T0 H3 H4 ∧ hFr s_216.2.2.2.2 H3 H4 ∧ ((0 : Int) = 0 → H4.length = H3.length) ∧ hWt T0 H4) ∧ postb_216 n9 n2 n8 H3 H4) (f21 : n9 = 0) (f22 : n10 = 1) (f23 : n11 = 8) (f24 : n12 ≤ 1) (f25 : 0 ≤ n12) (f26 : (hLe T0 H4 H5 ∧ hFr s_216.2.2.2.2 H4 H5 ∧ ((0 : Int) = 0 → H5.length = H4.length) ∧ hWt T0 H5) ∧ postb_216 n12 n2 n11 H4 H5) (f27 : n12 = 0) (f28 : n13 = 9) (f29 : n14 ≤ 1) (f30 : 0 ≤ n14) (f31 : (hLe T0 H5 H6 ∧ hFr s_216.2.2.2.2 H5 H6 ∧ ((0 : Int) = 0 → H6.length = H5.length) ∧ hWt T0 H6) ∧ postb_216 n14 n2 n13 H5 H6) (f32 : n14 ≠ 0) (f33 : (hLe T0 H6 H7 ∧ hFr s_219.2.2.2.2 H6 H7 ∧ ((0 : Int) = 0 → H7.length = H6.length) ∧ hWt T0 H7) ∧ postb_219 n2 H6 H7) (f34 : n15 = 0) (f35 : n16 = 60) (f36 : n17 ≤ 9999) (f37 : 0 ≤ n17) (f38 : (hLe T0 H7 H8 ∧ hFr s_223.2.2.2.2 H7 H8 ∧ ((0 : Int) = 0 → H8.length = H7.length) ∧ hWt T0 H8) ∧ postb_223 n17 n2 n15 n16 H7 H8) (f39 : n18 = w32 (n10 * n17)) : Ab_229_88 n2 n1 n0 n2 n1 n0 n7 n18 H0 H8 ∧ ∀ q, none = some q → mub_229_88 n2 n1 n0 n2 n1 n0 n7 n18 H0 H8 < q := by
  unfold preb_229 at f5
  unfold postb_216 at f9
  unfold postb_219 at f11
  unfold postb_223 at f16
  unfold postb_216 at f20
  unfold postb_216 at f26
  unfold postb_216 at f31
  unfold postb_219 at f33
  unfold postb_223 at f38
  unfold Ab_229_88
  have e1 : hV H1 285 11 = hV H0 285 11 := (f9.1.2.1.1 285 11 kF_216_285_11)
  have e3 : hV H1 285 13 = hV H0 285 13 := (f9.1.2.1.1 285 13 kF_216_285_13)
  have e4 : hV H1 288 = hV H0 288 := fRow f9.1.2.1 288 kR_216_288
  have e7 : hV H2 285 15 = hV H0 285 15 := ((f11.1.2.1.1 285 15 kF_219_285_15)).trans (f9.1.2.1.1 285 15 kF_216_285_15)
  have e15 : hV H4 285 13 = hV H3 285 13 := (f20.1.2.1.1 285 13 kF_216_285_13)
  have e19 : hV H5 285 11 = hV H3 285 11 := ((f26.1.2.1.1 285 11 kF_216_285_11)).trans (f20.1.2.1.1 285 11 kF_216_285_11)
  have e21 : hV H5 285 13 = hV H3 285 13 := ((f26.1.2.1.1 285 13 kF_216_285_13)).trans (f20.1.2.1.1 285 13 kF_216_285_13)
  have e23 : hV H5 288 = hV H0 288 := (fRow f26.1.2.1 288 kR_216_288).trans ((fRow f20.1.2.1 288 kR_216_288).trans ((fRow f16.1.2.1 288 kR_223_288).trans ((fRow f11.1.2.1 288 kR_219_288).trans e4)))
  have e25 : hV H6 285 11 = hV H3 285 11 := ((f31.1.2.1.1 285 11 kF_216_285_11)).trans (((f26.1.2.1.1 285 11 kF_216_285_11)).trans (f20.1.2.1.1 285 11 kF_216_285_11))
  have e27 : hV H6 285 13 = hV H3 285 13 := ((f31.1.2.1.1 285 13 kF_216_285_13)).trans (((f26.1.2.1.1 285 13 kF_216_285_13)).trans (f20.1.2.1.1 285 13 kF_216_285_13))
  have e29 : hV H6 288 = hV H0 288 := (fRow f31.1.2.1 288 kR_216_288).trans e23
  have e34 : hV H7 285 15 = hV H3 285 15 := ((f33.1.2.1.1 285 15 kF_219_285_15)).trans (((f31.1.2.1.1 285 15 kF_216_285_15)).trans (((f26.1.2.1.1 285 15 kF_216_285_15)).trans (f20.1.2.1.1 285 15 kF_216_285_15)))
  have e53 : hV H8 301 = hV H0 301 := (fRow f38.1.2.1 301 kR_223_301).trans ((fRow f33.1.2.1 301 kR_219_301).trans ((fRow f31.1.2.1 301 kR_216_301).trans ((fRow f26.1.2.1 301 kR_216_301).trans ((fRow f20.1.2.1 301 kR_216_301).trans ((fRow f16.1.2.1 301 kR_223_301).trans ((fRow f11.1.2.1 301 kR_219_301).trans (fRow f9.1.2.1 301 kR_216_301)))))))
  have e68 : hV H8 302 = hV H0 302 := (fRow f38.1.2.1 302 kR_223_302).trans ((fRow f33.1.2.1 302 kR_219_302).trans ((fRow f31.1.2.1 302 kR_216_302).trans ((fRow f26.1.2.1 302 kR_216_302).trans ((fRow f20.1.2.1 302 kR_216_302).trans ((fRow f16.1.2.1 302 kR_223_302).trans ((fRow f11.1.2.1 302 kR_219_302).trans (fRow f9.1.2.1 302 kR_216_302)))))))
  have e83 : hV H8 303 = hV H0 303 := (fRow f38.1.2.1 303 kR_223_303).trans ((fRow f33.1.2.1 303 kR_219_303).trans ((fRow f31.1.2.1 303 kR_216_303).trans ((fRow f26.1.2.1 303 kR_216_303).trans ((fRow f20.1.2.1 303 kR_216_303).trans ((fRow f16.1.2.1 303 kR_223_303).trans ((fRow f11.1.2.1 303 kR_219_303).trans (fRow f9.1.2.1 303 kR_216_303)))))))
  have e84 : PA H1 = PA H0 := PA_fr f9.1.2.1 (by decide +kernel)
  have e85 : PA H2 = PA H1 := PA_fr f11.1.2.1 (by decide +kernel)
  have e86 : PA H2 = PA H0 := e85.trans e84
  have e87 : PA H3 = PA H2 := PA_fr f16.1.2.1 (by decide +kernel)
  have e88 : PA H3 = PA H0 := e87.trans e86
  have e89 : PA H4 = PA H3 := PA_fr f20.1.2.1 (by decide +kernel)
  have e90 : PA H4 = PA H0 := e89.trans e88
  have e91 : PA H5 = PA H4 := PA_fr f26.1.2.1 (by decide +kernel)
  have e92 : PA H5 = PA H0 := e91.trans e90
  have e93 : PA H6 = PA H5 := PA_fr f31.1.2.1 (by decide +kernel)
  have e94 : PA H6 = PA H0 := e93.trans e92
  have e95 : PA H7 = PA H6 := PA_fr f33.1.2.1 (by decide +kernel)
  have e96 : PA H7 = PA H0 := e95.trans e94
  have e97 : PA H8 = PA H7 := PA_fr f38.1.2.1 (by decide +kernel)
  have e98 : PA H8 = PA H0 := e97.trans e96
  have e99 : PW H1 = PW H0 := PW_fr f9.1.2.1 (by decide +kernel)
  have e100 : PW H2 = PW H1 := PW_fr f11.1.2.1 (by decide +kernel)
  have e101 : PW H2 = PW H0 := e100.trans e99
  have e102 : PW H3 = PW H2 := PW_fr f16.1.2.1 (by decide +kernel)
  have e103 : PW H3 = PW H0 := e102.trans e101
  have e104 : PW H4 = PW H3 := PW_fr f20.1.2.1 (by decide +kernel)
  have e105 : PW H4 = PW H0 := e104.trans e103
  have e106 : PW H5 = PW H4 := PW_fr f26.1.2.1 (by decide +kernel)
  have e107 : PW H5 = PW H0 := e106.trans e105
  have e108 : PW H6 = PW H5 := PW_fr f31.1.2.1 (by decide +kernel)
  have e109 : PW H6 = PW H0 := e108.trans e107
  have e110 : PW H7 = PW H6 := PW_fr f33.1.2.1 (by decide +kernel)
  have e111 : PW H7 = PW H0 := e110.trans e109
  have e112 : PW H8 = PW H7 := PW_fr f38.1.2.1 (by decide +kernel)
  have e113 : PW H8 = PW H0 := e112.trans e111
  have e114 : (0 : Int) ≤ hV H0 285 11 ∧ hV H0 285 11 ≤ 500 := f5.1 285 11 _ _ kW_285_11
  have e115 : (0 : Int) ≤ hV H0 285 13 ∧ hV H0 285 13 ≤ 2 := f5.1 285 13 _ _ kW_285_13
  have e116 : (0 : Int) ≤ hV H0 285 15 ∧ hV H0 285 15 ≤ 6 := f5.1 285 15 _ _ kW_285_15
  have e117 : (0 : Int) ≤ hV H0 285 18 ∧ hV H0 285 18 ≤ 8 := f5.1 285 18 _ _ kW_285_18
  have e118 : (0 : Int) ≤ hV H0 285 32 ∧ hV H0 285 32 ≤ 7 := f5.1 285 32 _ _ kW_285_32
  have e119 : (0 : Int) ≤ hV H0 285 33 ∧ hV H0 285 33 ≤ 62 := f5.1 285 33 _ _ kW_285_33
  have e122 : (0 : Int) ≤ hV H2 285 11 ∧ hV H2 285 11 ≤ 500 := f11.1.2.2.2 285 11 _ _ kW_285_11
  have e123 : (0 : Int) ≤ hV H2 285 13 ∧ hV H2 285 13 ≤ 2 := f11.1.2.2.2 285 13 _ _ kW_285_13
  have e125 : (0 : Int) ≤ hV H3 285 11 ∧ hV H3 285 11 ≤ 500 := f16.1.2.2.2 285 11 _ _ kW_285_11
  have e126 : (0 : Int) ≤ hV H3 285 13 ∧ hV H3 285 13 ≤ 2 := f16.1.2.2.2 285 13 _ _ kW_285_13
  have e127 : (0 : Int) ≤ hV H3 285 15 ∧ hV H3 285 15 ≤ 6 := f16.1.2.2.2 285 15 _ _ kW_285_15
  have e134 : (0 : Int) ≤ hV H7 285 11 ∧ hV H7 285 11 ≤ 500 := f33.1.2.2.2 285 11 _ _ kW_285_11
  have e135 : (0 : Int) ≤ hV H7 285 13 ∧ hV H7 285 13 ≤ 2 := f33.1.2.2.2 285 13 _ _ kW_285_13
  have e137 : (0 : Int) ≤ hV H8 285 11 ∧ hV H8 285 11 ≤ 500 := f38.1.2.2.2 285 11 _ _ kW_285_11
  have e138 : (0 : Int) ≤ hV H8 285 13 ∧ hV H8 285 13 ≤ 2 := f38.1.2.2.2 285 13 _ _ kW_285_13
  have e139 : (0 : Int) ≤ hV H8 285 15 ∧ hV H8 285 15 ≤ 6 := f38.1.2.2.2 285 15 _ _ kW_285_15
  try simp only [e53, e68, e83, e98, e113]
  have p0 := f5.2.1
  have p1 := f5.2.2.1
  have p2 := f5.2.2.2.1
  have p3 := f5.2.2.2.2.1
  have p4 := f5.2.2.2.2.2.1
  have p5 := f5.2.2.2.2.2.2.1
  have p6 := f5.2.2.2.2.2.2.2.1
  have p7 := f5.2.2.2.2.2.2.2.2
  have r0_0 := f9.2.1
  have r0_1 := f9.2.2.resolve_right (fun z => f10 z.1)
  have r1_0 := f11.2.1
  have r1_1 := f11.2.2.1
  have r1_2 := f11.2.2.2.1
  have r1_3 := f11.2.2.2.2
  have r2_0 := f16.2.1
  have r2_1 := f16.2.2.1
  have r2_2 := f16.2.2.2.1
  have r2_3 := f16.2.2.2.2.1
  have r2_4 := f16.2.2.2.2.2.1
  have r2_5 := f16.2.2.2.2.2.2.1
  have r2_6 := f16.2.2.2.2.2.2.2.1
  have r3_0 := f20.2.1
  have r4_0 := f26.2.1
  have r5_0 := f31.2.1
  have r5_1 := f31.2.2.resolve_right (fun z => f32 z.1)
  have r6_0 := f33.2.1
  have r6_1 := f33.2.2.1
  have r6_2 := f33.2.2.2.1
  have r6_3 := f33.2.2.2.2
  have r7_0 := f38.2.1
  have r7_1 := f38.2.2.1
  have r7_2 := f38.2.2.2.1
  have r7_3 := f38.2.2.2.2.1
  have r7_4 := f38.2.2.2.2.2.1
  have r7_5 := f38.2.2.2.2.2.2.1
  have r7_6 := f38.2.2.2.2.2.2.2.1
  try simp only [e3] at r0_0
  try simp only [e1, e3, e4] at r0_1
  try simp only [e1] at r1_0
  try simp only [e1] at r1_1
  try simp only [e3] at r1_2
  try simp only [e1] at r1_3
  try simp only [e7] at r2_4
  try simp only [e15] at r3_0
  try simp only [e21] at r4_0
  try simp only [e27] at r5_0
  try simp only [e19, e21, e23, e25, e27, e29] at r5_1
  try simp only [e25] at r6_0
  try simp only [e25] at r6_1
  try simp only [e27] at r6_2
  try simp only [e25] at r6_3
  try simp only [e34] at r7_4
  have wb0 := (p7 (hV H0 285 32).toNat).1
  have wp0 := (p7 (hV H0 285 33).toNat).2
  clear e1 e3 e4 e7 e15 e19 e21 e23 e25 e27 e29 e34 e53 e68 e83 e84 e85 e86 e87 e88 e89 e90 e91 e92 e93 e94 e95 e96 e97 e98 e99 e100 e101 e102 e103 e104 e105 e106 e107 e108 e109 e110 e111 e112 e113
  clear f5 f9 f11 f16 f20 f26 f31 f33 f38
  rw [f22] at f39
  first
  | (have ix0 : n18 = 1 * n17 := Eq.trans f39 (w32_iv (Iml 1 rfl (Iat f37 f36)) (by decide)); subst ix0; clear f39)
  | (have ix0 : n18 = 1 * n17 := Eq.trans f39 (w32_id (by omega) (by omega)); subst ix0; clear f39)
  | (unfold w32 at f39; have ix0 : n18 = 1 * n17 := (by omega); subst ix0)
  | skip
  try unfold w32 at f39

  refine ⟨⟨?_, ?_, ?_, ?_, ?_⟩, fun q hq => ?_⟩
  · first | exact True.intro | rfl | omega
  · first | exact True.intro | rfl | omega
  · exact p0
  · intro z1 z2
    exact p5 (by omega) (by omega)
  · (try clear p0 p5 p7)
    first
    | omega
    | (refine ⟨?_, ?_, ?_, ?_, ?_, ?_, ?_, ?_, ?_, ?_, ?_⟩ <;> first | exact True.intro | omega)
  · exact nomatch hq
def g_229_s_7 : vG := ([(3, [20, 12, 19], [], 0), (1223, [19, 0, 17, 18], [7, 8], 0), (90, [19], [], 0), (91, [19], [], 9999), (0, [18], [], 60), (0, [17], [], 0), (1219, [0], [6, 7], 0), (31, [16], [], 0), (1216, [16, 0, 15], [5, 6], 0), (90, [16], [], 0), (91, [16], [], 1), (0, [15], [], 9), (30, [14], [], 0), (1216, [14, 0, 13], [4, 5], 0), (90, [14], [], 0), (91, [14], [], 1), (0, [13], [], 8), (0, [12], [], 1), (30, [11], [], 0), (1216, [11, 0, 10], [3, 4], 0), (90, [11], [], 0), (91, [11], [], 1), (0, [10], [], 9), (1223, [9, 0, 7, 8], [2, 3], 0), (90, [9], [], 0), (91, [9], [], 9999), (0, [8], [], 7), (0, [7], [], 0), (1219, [0], [1, 2], 0), (31, [6], [], 0), (1216, [6, 0, 5], [0, 1], 0), (90, [6], [], 0), (91, [6], [], 1), (0, [5], [], 41), (6000, [0, 1, 2], [0], 0), (0, [0], [], 285), (90, [1], [], 0), (91, [1], [], 1007), (90, [2], [], 0), (91, [2], [], 1)], (4000, [0, 1, 2, 9, 20], [8], 88))
theorem c_229_s_7 : vOkm T0 (eP e_229 L_229 A_229 mu_229 none) 3 g_229_s_7 := vOk_inI fun ρ η f0 f1 f2 f3 f4 f5 f6 f7 f8 f9 f10 f11 f12 f13 f14 f15 f16 f17 f18 f19 f20 f21 f22 f23 f24 f25 f26 f27 f28 f29 f30 f31 f32 f33 f34 f35 f36 f37 f38 f39 => q_229_7 (n0 := ρ 2) (n1 := ρ 1) (n2 := ρ 0) (n3 := ρ 5) (n4 := ρ 6) (n5 := ρ 7) (n6 := ρ 8) (n7 := ρ 9) (n8 := ρ 10) (n9 := ρ 11) (n10 := ρ 12) (n11 := ρ 13) (n12 := ρ 14) (n13 := ρ 15) (n14 := ρ 16) (n15 := ρ 17) (n16 := ρ 18) (n17 := ρ 19) (n18 := ρ 20) (H0 := η 0) (H1 := η 1) (H2 := η 2) (H3 := η 3) (H4 := η 4) (H5 := η 5) (H6 := η 6) (H7 := η 7) (H8 := η 8) f39 f38 f37 f36 f35 f34 f33 f32 f31 f30 f29 f28 f27 f26 f25 f24 f23 f22 f21 f20 f19 f18 f17 f16 f15 f14 f13 f12 f11 f10 f9 f8 f7 f6 f5 f4 f3 f2 f1 f0
set_option maxHeartbeats 20000000 in
theorem q_229_8 {n0 n1 n2 n3 n4 n5 n6 n7 n8 n9 n10 n11 n12 n13 n14 n15 n16 : Int} {H0 H1 H2 H3 H4 H5 H6 H7 : gH} (f0 : n0 ≤ 1) (f1 : 0 ≤ n0) (f2 : n1 ≤ 1007) (f3 : 0 ≤ n1) (f4 : n2 = 285) (f5 : hWt T0 H0 ∧ preb_229 n2 n1 n0 H0) (f6 : n3 = 41) (f7 : n4 ≤ 1) (f8 : 0 ≤ n4) (f9 : (hLe T0 H0 H1 ∧ hFr s_216.2.2.2.2 H0 H1 ∧ ((0 : Int) = 0 → H1.length = H0.length) ∧ hWt T0 H1) ∧ postb_216 n4 n2 n3 H0 H1) (f10 : n4 ≠ 0) (f11 : (hLe T0 H1 H2 ∧ hFr s_219.2.2.2.2 H1 H2 ∧ ((0 : Int) = 0 → H2.length = H1.length) ∧ hWt T0 H2) ∧ postb_219 n2 H1 H2) (f12 : n5 = 0) (f13 : n6 = 7) (f14 : n7 ≤ 9999) (f15 : 0 ≤ n7) (f16 : (hLe T0 H2 H3 ∧ hFr s_223.2.2.2.2 H2 H3 ∧ ((0 : Int) = 0 → H3.length = H2.length) ∧ hWt T0 H3) ∧ postb_223 n7 n2 n5 n6 H2 H3) (f17 : n8 = 9) (f18 : n9 ≤ 1) (f19 : 0 ≤ n9) (f20 : (hLe T0 H3 H4 ∧ hFr s_216.2.2.2.2 H3 H4 ∧ ((0 : Int) = 0 → H4.length = H3.length) ∧ hWt T0 H4) ∧ postb_216 n9 n2 n8 H3 H4) (f21 : n9 ≠ 0) (f22 : n10 = (-1)) (f23 : n11 = 8) (f24 : n12 ≤ 1) (f25 : 0 ≤ n12) (f26 : (hLe T0 H4 H5 ∧ hFr s_216.2.2.2.2 H4 H5 ∧ ((0 : Int) = 0 → H5.length = H4.length) ∧ hWt T0 H5) ∧ postb_216 n12 n2 n11 H4 H5) (f27 : n12 ≠ 0) (f28 : (hLe T0 H5 H6 ∧ hFr s_219.2.2.2.2 H5 H6 ∧ ((0 : Int) = 0 → H6.length = H5.length) ∧ hWt T0 H6) ∧ postb_219 n2 H5 H6) (f29 : n13 = 0) (f30 : n14 = 60) (f31 : n15 ≤ 9999) (f32 : 0 ≤ n15) (f33 : (hLe T0 H6 H7 ∧ hFr s_223.2.2.2.2 H6 H7 ∧ ((0 : Int) = 0 → H7.length = H6.length) ∧ hWt T0 H7) ∧ postb_223 n15 n2 n13 n14 H6 H7) (f34 : n16 = w32 (n10 * n15)) : (-9999) ≤ n16 := by
  unfold preb_229 at f5
  unfold postb_216 at f9
  unfold postb_219 at f11
  unfold postb_223 at f16
  unfold postb_216 at f20
  unfold postb_216 at f26
  unfold postb_219 at f28
  unfold postb_223 at f33
  have e1 : hV H1 285 11 = hV H0 285 11 := (f9.1.2.1.1 285 11 kF_216_285_11)
  have e3 : hV H1 285 13 = hV H0 285 13 := (f9.1.2.1.1 285 13 kF_216_285_13)
  have e4 : hV H1 288 = hV H0 288 := fRow f9.1.2.1 288 kR_216_288
  have e7 : hV H2 285 15 = hV H0 285 15 := ((f11.1.2.1.1 285 15 kF_219_285_15)).trans (f9.1.2.1.1 285 15 kF_216_285_15)
  have e11 : hV H3 288 = hV H0 288 := (fRow f16.1.2.1 288 kR_223_288).trans ((fRow f11.1.2.1 288 kR_219_288).trans e4)
  have e13 : hV H4 285 11 = hV H3 285 11 := (f20.1.2.1.1 285 11 kF_216_285_11)
  have e15 : hV H4 285 13 = hV H3 285 13 := (f20.1.2.1.1 285 13 kF_216_285_13)
  have e17 : hV H4 288 = hV H0 288 := (fRow f20.1.2.1 288 kR_216_288).trans e11
  have e19 : hV H5 285 11 = hV H3 285 11 := ((f26.1.2.1.1 285 11 kF_216_285_11)).trans (f20.1.2.1.1 285 11 kF_216_285_11)
  have e21 : hV H5 285 13 = hV H3 285 13 := ((f26.1.2.1.1 285 13 kF_216_285_13)).trans (f20.1.2.1.1 285 13 kF_216_285_13)
  have e23 : hV H5 288 = hV H0 288 := (fRow f26.1.2.1 288 kR_216_288).trans e17
  have e27 : hV H6 285 15 = hV H3 285 15 := ((f28.1.2.1.1 285 15 kF_219_285_15)).trans (((f26.1.2.1.1 285 15 kF_216_285_15)).trans (f20.1.2.1.1 285 15 kF_216_285_15))
  have e32 : (0 : Int) ≤ hV H0 285 13 ∧ hV H0 285 13 ≤ 2 := f5.1 285 13 _ _ kW_285_13
  have e33 : (0 : Int) ≤ hV H0 285 15 ∧ hV H0 285 15 ≤ 6 := f5.1 285 15 _ _ kW_285_15
  have e34 : (0 : Int) ≤ hV H0 285 18 ∧ hV H0 285 18 ≤ 8 := f5.1 285 18 _ _ kW_285_18
  have e35 : (0 : Int) ≤ hV H0 285 32 ∧ hV H0 285 32 ≤ 7 := f5.1 285 32 _ _ kW_285_32
  have e36 : (0 : Int) ≤ hV H0 285 33 ∧ hV H0 285 33 ≤ 62 := f5.1 285 33 _ _ kW_285_33
  have e37 : (0 : Int) ≤ hV H0 285 11 ∧ hV H0 285 11 ≤ 500 := bTo e1 (f9.1.2.2.2 285 11 _ _ kW_285_11)
  have e40 : (0 : Int) ≤ hV H2 285 11 ∧ hV H2 285 11 ≤ 500 := f11.1.2.2.2 285 11 _ _ kW_285_11
  have e41 : (0 : Int) ≤ hV H2 285 13 ∧ hV H2 285 13 ≤ 2 := f11.1.2.2.2 285 13 _ _ kW_285_13
  have e43 : (0 : Int) ≤ hV H3 285 11 ∧ hV H3 285 11 ≤ 500 := f16.1.2.2.2 285 11 _ _ kW_285_11
  have e44 : (0 : Int) ≤ hV H3 285 13 ∧ hV H3 285 13 ≤ 2 := f16.1.2.2.2 285 13 _ _ kW_285_13
  have e45 : (0 : Int) ≤ hV H3 285 15 ∧ hV H3 285 15 ≤ 6 := f16.1.2.2.2 285 15 _ _ kW_285_15
  have e50 : (0 : Int) ≤ hV H6 285 11 ∧ hV H6 285 11 ≤ 500 := f28.1.2.2.2 285 11 _ _ kW_285_11
  have e51 : (0 : Int) ≤ hV H6 285 13 ∧ hV H6 285 13 ≤ 2 := f28.1.2.2.2 285 13 _ _ kW_285_13
  have e53 : (0 : Int) ≤ hV H7 285 11 ∧ hV H7 285 11 ≤ 500 := f33.1.2.2.2 285 11 _ _ kW_285_11
  have e54 : (0 : Int) ≤ hV H7 285 13 ∧ hV H7 285 13 ≤ 2 := f33.1.2.2.2 285 13 _ _ kW_285_13
  have e55 : (0 : Int) ≤ hV H7 285 15 ∧ hV H7 285 15 ≤ 6 := f33.1.2.2.2 285 15 _ _ kW_285_15
  have p0 := f5.2.1
  have p1 := f5.2.2.1
  have p2 := f5.2.2.2.1
  have p3 := f5.2.2.2.2.1
  have p4 := f5.2.2.2.2.2.1
  have p5 := f5.2.2.2.2.2.2.1
  have p6 := f5.2.2.2.2.2.2.2.1
  have p7 := f5.2.2.2.2.2.2.2.2
  have r0_0 := f9.2.1
  have r0_1 := f9.2.2.resolve_right (fun z => f10 z.1)
  have r1_0 := f11.2.1
  have r1_1 := f11.2.2.1
  have r1_2 := f11.2.2.2.1
  have r1_3 := f11.2.2.2.2
  have r2_0 := f16.2.1
  have r2_1 := f16.2.2.1
  have r2_2 := f16.2.2.2.1
  have r2_3 := f16.2.2.2.2.1
  have r2_4 := f16.2.2.2.2.2.1
  have r2_5 := f16.2.2.2.2.2.2.1
  have r2_6 := f16.2.2.2.2.2.2.2.1
  have r3_0 := f20.2.1
  have r3_1 := f20.2.2.resolve_right (fun z => f21 z.1)
  have r4_0 := f26.2.1
  have r4_1 := f26.2.2.resolve_right (fun z => f27 z.1)
  have r5_0 := f28.2.1
  have r5_1 := f28.2.2.1
  have r5_2 := f28.2.2.2.1
  have r5_3 := f28.2.2.2.2
  have r6_0 := f33.2.1
  have r6_1 := f33.2.2.1
  have r6_2 := f33.2.2.2.1
  have r6_3 := f33.2.2.2.2.1
  have r6_4 := f33.2.2.2.2.2.1
  have r6_5 := f33.2.2.2.2.2.2.1
  have r6_6 := f33.2.2.2.2.2.2.2.1
  try simp only [e3] at r0_0
  try simp only [e1, e3, e4] at r0_1
  try simp only [e1] at r1_0
  try simp only [e1] at r1_1
  try simp only [e3] at r1_2
  try simp only [e1] at r1_3
  try simp only [e7] at r2_4
  try simp only [e15] at r3_0
  try simp only [e11, e13, e15, e17] at r3_1
  try simp only [e21] at r4_0
  try simp only [e13, e15, e17, e19, e21, e23] at r4_1
  try simp only [e19] at r5_0
  try simp only [e19] at r5_1
  try simp only [e21] at r5_2
  try simp only [e19] at r5_3
  try simp only [e27] at r6_4
  have wb0 := (p7 (hV H0 285 32).toNat).1
  have wp0 := (p7 (hV H0 285 33).toNat).2
  clear e1 e3 e4 e7 e11 e13 e15 e17 e19 e21 e23 e27
  clear f5 f9 f11 f16 f20 f26 f28 f33
  rw [f22] at f34
  first
  | (have ix0 : n16 = -1 * n15 := Eq.trans f34 (w32_id (by omega) (by omega)); subst ix0; clear f34)
  | (unfold w32 at f34; have ix0 : n16 = -1 * n15 := (by omega); subst ix0)
  | skip
  try unfold w32 at f34

  (try clear p0 p5 p7)
  omega
def g_229_s_8 : vG := ([(3, [18, 12, 17], [], 0), (1223, [17, 0, 15, 16], [6, 7], 0), (90, [17], [], 0), (91, [17], [], 9999), (0, [16], [], 60), (0, [15], [], 0), (1219, [0], [5, 6], 0), (31, [14], [], 0), (1216, [14, 0, 13], [4, 5], 0), (90, [14], [], 0), (91, [14], [], 1), (0, [13], [], 8), (0, [12], [], -1), (31, [11], [], 0), (1216, [11, 0, 10], [3, 4], 0), (90, [11], [], 0), (91, [11], [], 1), (0, [10], [], 9), (1223, [9, 0, 7, 8], [2, 3], 0), (90, [9], [], 0), (91, [9], [], 9999), (0, [8], [], 7), (0, [7], [], 0), (1219, [0], [1, 2], 0), (31, [6], [], 0), (1216, [6, 0, 5], [0, 1], 0), (90, [6], [], 0), (91, [6], [], 1), (0, [5], [], 41), (6000, [0, 1, 2], [0], 0), (0, [0], [], 285), (90, [1], [], 0), (91, [1], [], 1007), (90, [2], [], 0), (91, [2], [], 1)], (90, [18], [], -9999))
theorem c_229_s_8 : vOkm T0 (eP e_229 L_229 A_229 mu_229 none) 3 g_229_s_8 := vOk_inI fun ρ η f0 f1 f2 f3 f4 f5 f6 f7 f8 f9 f10 f11 f12 f13 f14 f15 f16 f17 f18 f19 f20 f21 f22 f23 f24 f25 f26 f27 f28 f29 f30 f31 f32 f33 f34 => q_229_8 (n0 := ρ 2) (n1 := ρ 1) (n2 := ρ 0) (n3 := ρ 5) (n4 := ρ 6) (n5 := ρ 7) (n6 := ρ 8) (n7 := ρ 9) (n8 := ρ 10) (n9 := ρ 11) (n10 := ρ 12) (n11 := ρ 13) (n12 := ρ 14) (n13 := ρ 15) (n14 := ρ 16) (n15 := ρ 17) (n16 := ρ 18) (H0 := η 0) (H1 := η 1) (H2 := η 2) (H3 := η 3) (H4 := η 4) (H5 := η 5) (H6 := η 6) (H7 := η 7) f34 f33 f32 f31 f30 f29 f28 f27 f26 f25 f24 f23 f22 f21 f20 f19 f18 f17 f16 f15 f14 f13 f12 f11 f10 f9 f8 f7 f6 f5 f4 f3 f2 f1 f0
set_option maxHeartbeats 20000000 in
theorem q_229_9 {n0 n1 n2 n3 n4 n5 n6 n7 n8 n9 n10 n11 n12 n13 n14 n15 n16 : Int} {H0 H1 H2 H3 H4 H5 H6 H7 : gH} (f0 : n0 ≤ 1) (f1 : 0 ≤ n0) (f2 : n1 ≤ 1007) (f3 : 0 ≤ n1) (f4 : n2 = 285) (f5 : hWt T0 H0 ∧ preb_229 n2 n1 n0 H0) (f6 : n3 = 41) (f7 : n4 ≤ 1) (f8 : 0 ≤ n4) (f9 : (hLe T0 H0 H1 ∧ hFr s_216.2.2.2.2 H0 H1 ∧ ((0 : Int) = 0 → H1.length = H0.length) ∧ hWt T0 H1) ∧ postb_216 n4 n2 n3 H0 H1) (f10 : n4 ≠ 0) (f11 : (hLe T0 H1 H2 ∧ hFr s_219.2.2.2.2 H1 H2 ∧ ((0 : Int) = 0 → H2.length = H1.length) ∧ hWt T0 H2) ∧ postb_219 n2 H1 H2) (f12 : n5 = 0) (f13 : n6 = 7) (f14 : n7 ≤ 9999) (f15 : 0 ≤ n7) (f16 : (hLe T0 H2 H3 ∧ hFr s_223.2.2.2.2 H2 H3 ∧ ((0 : Int) = 0 → H3.length = H2.length) ∧ hWt T0 H3) ∧ postb_223 n7 n2 n5 n6 H2 H3) (f17 : n8 = 9) (f18 : n9 ≤ 1) (f19 : 0 ≤ n9) (f20 : (hLe T0 H3 H4 ∧ hFr s_216.2.2.2.2 H3 H4 ∧ ((0 : Int) = 0 → H4.length = H3.length) ∧ hWt T0 H4) ∧ postb_216 n9 n2 n8 H3 H4) (f21 : n9 ≠ 0) (f22 : n10 = (-1)) (f23 : n11 = 8) (f24 : n12 ≤ 1) (f25 : 0 ≤ n12) (f26 : (hLe T0 H4 H5 ∧ hFr s_216.2.2.2.2 H4 H5 ∧ ((0 : Int) = 0 → H5.length = H4.length) ∧ hWt T0 H5) ∧ postb_216 n12 n2 n11 H4 H5) (f27 : n12 ≠ 0) (f28 : (hLe T0 H5 H6 ∧ hFr s_219.2.2.2.2 H5 H6 ∧ ((0 : Int) = 0 → H6.length = H5.length) ∧ hWt T0 H6) ∧ postb_219 n2 H5 H6) (f29 : n13 = 0) (f30 : n14 = 60) (f31 : n15 ≤ 9999) (f32 : 0 ≤ n15) (f33 : (hLe T0 H6 H7 ∧ hFr s_223.2.2.2.2 H6 H7 ∧ ((0 : Int) = 0 → H7.length = H6.length) ∧ hWt T0 H7) ∧ postb_223 n15 n2 n13 n14 H6 H7) (f34 : n16 = w32 (n10 * n15)) : n16 ≤ 9999 := by
  unfold preb_229 at f5
  unfold postb_216 at f9
  unfold postb_219 at f11
  unfold postb_223 at f16
  unfold postb_216 at f20
  unfold postb_216 at f26
  unfold postb_219 at f28
  unfold postb_223 at f33
  have e1 : hV H1 285 11 = hV H0 285 11 := (f9.1.2.1.1 285 11 kF_216_285_11)
  have e3 : hV H1 285 13 = hV H0 285 13 := (f9.1.2.1.1 285 13 kF_216_285_13)
  have e4 : hV H1 288 = hV H0 288 := fRow f9.1.2.1 288 kR_216_288
  have e7 : hV H2 285 15 = hV H0 285 15 := ((f11.1.2.1.1 285 15 kF_219_285_15)).trans (f9.1.2.1.1 285 15 kF_216_285_15)
  have e11 : hV H3 288 = hV H0 288 := (fRow f16.1.2.1 288 kR_223_288).trans ((fRow f11.1.2.1 288 kR_219_288).trans e4)
  have e13 : hV H4 285 11 = hV H3 285 11 := (f20.1.2.1.1 285 11 kF_216_285_11)
  have e15 : hV H4 285 13 = hV H3 285 13 := (f20.1.2.1.1 285 13 kF_216_285_13)
  have e17 : hV H4 288 = hV H0 288 := (fRow f20.1.2.1 288 kR_216_288).trans e11
  have e19 : hV H5 285 11 = hV H3 285 11 := ((f26.1.2.1.1 285 11 kF_216_285_11)).trans (f20.1.2.1.1 285 11 kF_216_285_11)
  have e21 : hV H5 285 13 = hV H3 285 13 := ((f26.1.2.1.1 285 13 kF_216_285_13)).trans (f20.1.2.1.1 285 13 kF_216_285_13)
  have e23 : hV H5 288 = hV H0 288 := (fRow f26.1.2.1 288 kR_216_288).trans e17
  have e27 : hV H6 285 15 = hV H3 285 15 := ((f28.1.2.1.1 285 15 kF_219_285_15)).trans (((f26.1.2.1.1 285 15 kF_216_285_15)).trans (f20.1.2.1.1 285 15 kF_216_285_15))
  have e32 : (0 : Int) ≤ hV H0 285 13 ∧ hV H0 285 13 ≤ 2 := f5.1 285 13 _ _ kW_285_13
  have e33 : (0 : Int) ≤ hV H0 285 15 ∧ hV H0 285 15 ≤ 6 := f5.1 285 15 _ _ kW_285_15
  have e34 : (0 : Int) ≤ hV H0 285 18 ∧ hV H0 285 18 ≤ 8 := f5.1 285 18 _ _ kW_285_18
  have e35 : (0 : Int) ≤ hV H0 285 32 ∧ hV H0 285 32 ≤ 7 := f5.1 285 32 _ _ kW_285_32
  have e36 : (0 : Int) ≤ hV H0 285 33 ∧ hV H0 285 33 ≤ 62 := f5.1 285 33 _ _ kW_285_33
  have e37 : (0 : Int) ≤ hV H0 285 11 ∧ hV H0 285 11 ≤ 500 := bTo e1 (f9.1.2.2.2 285 11 _ _ kW_285_11)
  have e40 : (0 : Int) ≤ hV H2 285 11 ∧ hV H2 285 11 ≤ 500 := f11.1.2.2.2 285 11 _ _ kW_285_11
  have e41 : (0 : Int) ≤ hV H2 285 13 ∧ hV H2 285 13 ≤ 2 := f11.1.2.2.2 285 13 _ _ kW_285_13
  have e43 : (0 : Int) ≤ hV H3 285 11 ∧ hV H3 285 11 ≤ 500 := f16.1.2.2.2 285 11 _ _ kW_285_11
  have e44 : (0 : Int) ≤ hV H3 285 13 ∧ hV H3 285 13 ≤ 2 := f16.1.2.2.2 285 13 _ _ kW_285_13
  have e45 : (0 : Int) ≤ hV H3 285 15 ∧ hV H3 285 15 ≤ 6 := f16.1.2.2.2 285 15 _ _ kW_285_15
  have e50 : (0 : Int) ≤ hV H6 285 11 ∧ hV H6 285 11 ≤ 500 := f28.1.2.2.2 285 11 _ _ kW_285_11
  have e51 : (0 : Int) ≤ hV H6 285 13 ∧ hV H6 285 13 ≤ 2 := f28.1.2.2.2 285 13 _ _ kW_285_13
  have e53 : (0 : Int) ≤ hV H7 285 11 ∧ hV H7 285 11 ≤ 500 := f33.1.2.2.2 285 11 _ _ kW_285_11
  have e54 : (0 : Int) ≤ hV H7 285 13 ∧ hV H7 285 13 ≤ 2 := f33.1.2.2.2 285 13 _ _ kW_285_13
  have e55 : (0 : Int) ≤ hV H7 285 15 ∧ hV H7 285 15 ≤ 6 := f33.1.2.2.2 285 15 _ _ kW_285_15
  have p0 := f5.2.1
  have p1 := f5.2.2.1
  have p2 := f5.2.2.2.1
  have p3 := f5.2.2.2.2.1
  have p4 := f5.2.2.2.2.2.1
  have p5 := f5.2.2.2.2.2.2.1
  have p6 := f5.2.2.2.2.2.2.2.1
  have p7 := f5.2.2.2.2.2.2.2.2
  have r0_0 := f9.2.1
  have r0_1 := f9.2.2.resolve_right (fun z => f10 z.1)
  have r1_0 := f11.2.1
  have r1_1 := f11.2.2.1
  have r1_2 := f11.2.2.2.1
  have r1_3 := f11.2.2.2.2
  have r2_0 := f16.2.1
  have r2_1 := f16.2.2.1
  have r2_2 := f16.2.2.2.1
  have r2_3 := f16.2.2.2.2.1
  have r2_4 := f16.2.2.2.2.2.1
  have r2_5 := f16.2.2.2.2.2.2.1
  have r2_6 := f16.2.2.2.2.2.2.2.1
  have r3_0 := f20.2.1
  have r3_1 := f20.2.2.resolve_right (fun z => f21 z.1)
  have r4_0 := f26.2.1
  have r4_1 := f26.2.2.resolve_right (fun z => f27 z.1)
  have r5_0 := f28.2.1
  have r5_1 := f28.2.2.1
  have r5_2 := f28.2.2.2.1
  have r5_3 := f28.2.2.2.2
  have r6_0 := f33.2.1
  have r6_1 := f33.2.2.1
  have r6_2 := f33.2.2.2.1
  have r6_3 := f33.2.2.2.2.1
  have r6_4 := f33.2.2.2.2.2.1
  have r6_5 := f33.2.2.2.2.2.2.1
  have r6_6 := f33.2.2.2.2.2.2.2.1
  try simp only [e3] at r0_0
  try simp only [e1, e3, e4] at r0_1
  try simp only [e1] at r1_0
  try simp only [e1] at r1_1
  try simp only [e3] at r1_2
  try simp only [e1] at r1_3
  try simp only [e7] at r2_4
  try simp only [e15] at r3_0
  try simp only [e11, e13, e15, e17] at r3_1
  try simp only [e21] at r4_0
  try simp only [e13, e15, e17, e19, e21, e23] at r4_1
  try simp only [e19] at r5_0
  try simp only [e19] at r5_1
  try simp only [e21] at r5_2
  try simp only [e19] at r5_3
  try simp only [e27] at r6_4
  have wb0 := (p7 (hV H0 285 32).toNat).1
  have wp0 := (p7 (hV H0 285 33).toNat).2
  clear e1 e3 e4 e7 e11 e13 e15 e17 e19 e21 e23 e27
  clear f5 f9 f11 f16 f20 f26 f28 f33
  rw [f22] at f34
  first
  | (have ix0 : n16 = -1 * n15 := Eq.trans f34 (w32_id (by omega) (by omega)); subst ix0; clear f34)
  | (unfold w32 at f34; have ix0 : n16 = -1 * n15 := (by omega); subst ix0)
  | skip
  try unfold w32 at f34

  (try clear p0 p5 p7)
  omega
def g_229_s_9 : vG := ([(3, [18, 12, 17], [], 0), (1223, [17, 0, 15, 16], [6, 7], 0), (90, [17], [], 0), (91, [17], [], 9999), (0, [16], [], 60), (0, [15], [], 0), (1219, [0], [5, 6], 0), (31, [14], [], 0), (1216, [14, 0, 13], [4, 5], 0), (90, [14], [], 0), (91, [14], [], 1), (0, [13], [], 8), (0, [12], [], -1), (31, [11], [], 0), (1216, [11, 0, 10], [3, 4], 0), (90, [11], [], 0), (91, [11], [], 1), (0, [10], [], 9), (1223, [9, 0, 7, 8], [2, 3], 0), (90, [9], [], 0), (91, [9], [], 9999), (0, [8], [], 7), (0, [7], [], 0), (1219, [0], [1, 2], 0), (31, [6], [], 0), (1216, [6, 0, 5], [0, 1], 0), (90, [6], [], 0), (91, [6], [], 1), (0, [5], [], 41), (6000, [0, 1, 2], [0], 0), (0, [0], [], 285), (90, [1], [], 0), (91, [1], [], 1007), (90, [2], [], 0), (91, [2], [], 1)], (91, [18], [], 9999))
theorem c_229_s_9 : vOkm T0 (eP e_229 L_229 A_229 mu_229 none) 3 g_229_s_9 := vOk_inI fun ρ η f0 f1 f2 f3 f4 f5 f6 f7 f8 f9 f10 f11 f12 f13 f14 f15 f16 f17 f18 f19 f20 f21 f22 f23 f24 f25 f26 f27 f28 f29 f30 f31 f32 f33 f34 => q_229_9 (n0 := ρ 2) (n1 := ρ 1) (n2 := ρ 0) (n3 := ρ 5) (n4 := ρ 6) (n5 := ρ 7) (n6 := ρ 8) (n7 := ρ 9) (n8 := ρ 10) (n9 := ρ 11) (n10 := ρ 12) (n11 := ρ 13) (n12 := ρ 14) (n13 := ρ 15) (n14 := ρ 16) (n15 := ρ 17) (n16 := ρ 18) (H0 := η 0) (H1 := η 1) (H2 := η 2) (H3 := η 3) (H4 := η 4) (H5 := η 5) (H6 := η 6) (H7 := η 7) f34 f33 f32 f31 f30 f29 f28 f27 f26 f25 f24 f23 f22 f21 f20 f19 f18 f17 f16 f15 f14 f13 f12 f11 f10 f9 f8 f7 f6 f5 f4 f3 f2 f1 f0
set_option maxHeartbeats 20000000 in
theorem q_229_10 {n0 n1 n2 n3 n4 n5 n6 n7 n8 n9 n10 n11 n12 n13 n14 n15 n16 : Int} {H0 H1 H2 H3 H4 H5 H6 H7 : gH} (f0 : n0 ≤ 1) (f1 : 0 ≤ n0) (f2 : n1 ≤ 1007) (f3 : 0 ≤ n1) (f4 : n2 = 285) (f5 : hWt T0 H0 ∧ preb_229 n2 n1 n0 H0) (f6 : n3 = 41) (f7 : n4 ≤ 1) (f8 : 0 ≤ n4) (f9 : (hLe T0 H0 H1 ∧ hFr s_216.2.2.2.2 H0 H1 ∧ ((0 : Int) = 0 → H1.length = H0.length) ∧ hWt T0 H1) ∧ postb_216 n4 n2 n3 H0 H1) (f10 : n4 ≠ 0) (f11 : (hLe T0 H1 H2 ∧ hFr s_219.2.2.2.2 H1 H2 ∧ ((0 : Int) = 0 → H2.length = H1.length) ∧ hWt T0 H2) ∧ postb_219 n2 H1 H2) (f12 : n5 = 0) (f13 : n6 = 7) (f14 : n7 ≤ 9999) (f15 : 0 ≤ n7) (f16 : (hLe T0 H2 H3 ∧ hFr s_223.2.2.2.2 H2 H3 ∧ ((0 : Int) = 0 → H3.length = H2.length) ∧ hWt T0 H3) ∧ postb_223 n7 n2 n5 n6 H2 H3) (f17 : n8 = 9) (f18 : n9 ≤ 1) (f19 : 0 ≤ n9) (f20 : (hLe T0 H3 H4 ∧ hFr s_216.2.2.2.2 H3 H4 ∧ ((0 : Int) = 0 → H4.length = H3.length) ∧ hWt T0 H4) ∧ postb_216 n9 n2 n8 H3 H4) (f21 : n9 ≠ 0) (f22 : n10 = (-1)) (f23 : n11 = 8) (f24 : n12 ≤ 1) (f25 : 0 ≤ n12) (f26 : (hLe T0 H4 H5 ∧ hFr s_216.2.2.2.2 H4 H5 ∧ ((0 : Int) = 0 → H5.length = H4.length) ∧ hWt T0 H5) ∧ postb_216 n12 n2 n11 H4 H5) (f27 : n12 ≠ 0) (f28 : (hLe T0 H5 H6 ∧ hFr s_219.2.2.2.2 H5 H6 ∧ ((0 : Int) = 0 → H6.length = H5.length) ∧ hWt T0 H6) ∧ postb_219 n2 H5 H6) (f29 : n13 = 0) (f30 : n14 = 60) (f31 : n15 ≤ 9999) (f32 : 0 ≤ n15) (f33 : (hLe T0 H6 H7 ∧ hFr s_223.2.2.2.2 H6 H7 ∧ ((0 : Int) = 0 → H7.length = H6.length) ∧ hWt T0 H7) ∧ postb_223 n15 n2 n13 n14 H6 H7) (f34 : n16 = w32 (n10 * n15)) : Ab_229_88 n2 n1 n0 n2 n1 n0 n7 n16 H0 H7 ∧ ∀ q, none = some q → mub_229_88 n2 n1 n0 n2 n1 n0 n7 n16 H0 H7 < q := by
  unfold preb_229 at f5
  unfold postb_216 at f9
  unfold postb_219 at f11
  unfold postb_223 at f16
  unfold postb_216 at f20
  unfold postb_216 at f26
  unfold postb_219 at f28
  unfold postb_223 at f33
  unfold Ab_229_88
  have e1 : hV H1 285 11 = hV H0 285 11 := (f9.1.2.1.1 285 11 kF_216_285_11)
  have e3 : hV H1 285 13 = hV H0 285 13 := (f9.1.2.1.1 285 13 kF_216_285_13)
  have e4 : hV H1 288 = hV H0 288 := fRow f9.1.2.1 288 kR_216_288
  have e7 : hV H2 285 15 = hV H0 285 15 := ((f11.1.2.1.1 285 15 kF_219_285_15)).trans (f9.1.2.1.1 285 15 kF_216_285_15)
  have e11 : hV H3 288 = hV H0 288 := (fRow f16.1.2.1 288 kR_223_288).trans ((fRow f11.1.2.1 288 kR_219_288).trans e4)
  have e13 : hV H4 285 11 = hV H3 285 11 := (f20.1.2.1.1 285 11 kF_216_285_11)
  have e15 : hV H4 285 13 = hV H3 285 13 := (f20.1.2.1.1 285 13 kF_216_285_13)
  have e17 : hV H4 288 = hV H0 288 := (fRow f20.1.2.1 288 kR_216_288).trans e11
  have e19 : hV H5 285 11 = hV H3 285 11 := ((f26.1.2.1.1 285 11 kF_216_285_11)).trans (f20.1.2.1.1 285 11 kF_216_285_11)
  have e21 : hV H5 285 13 = hV H3 285 13 := ((f26.1.2.1.1 285 13 kF_216_285_13)).trans (f20.1.2.1.1 285 13 kF_216_285_13)
  have e23 : hV H5 288 = hV H0 288 := (fRow f26.1.2.1 288 kR_216_288).trans e17
  have e27 : hV H6 285 15 = hV H3 285 15 := ((f28.1.2.1.1 285 15 kF_219_285_15)).trans (((f26.1.2.1.1 285 15 kF_216_285_15)).trans (f20.1.2.1.1 285 15 kF_216_285_15))
  have e44 : hV H7 301 = hV H0 301 := (fRow f33.1.2.1 301 kR_223_301).trans ((fRow f28.1.2.1 301 kR_219_301).trans ((fRow f26.1.2.1 301 kR_216_301).trans ((fRow f20.1.2.1 301 kR_216_301).trans ((fRow f16.1.2.1 301 kR_223_301).trans ((fRow f11.1.2.1 301 kR_219_301).trans (fRow f9.1.2.1 301 kR_216_301))))))
  have e57 : hV H7 302 = hV H0 302 := (fRow f33.1.2.1 302 kR_223_302).trans ((fRow f28.1.2.1 302 kR_219_302).trans ((fRow f26.1.2.1 302 kR_216_302).trans ((fRow f20.1.2.1 302 kR_216_302).trans ((fRow f16.1.2.1 302 kR_223_302).trans ((fRow f11.1.2.1 302 kR_219_302).trans (fRow f9.1.2.1 302 kR_216_302))))))
  have e70 : hV H7 303 = hV H0 303 := (fRow f33.1.2.1 303 kR_223_303).trans ((fRow f28.1.2.1 303 kR_219_303).trans ((fRow f26.1.2.1 303 kR_216_303).trans ((fRow f20.1.2.1 303 kR_216_303).trans ((fRow f16.1.2.1 303 kR_223_303).trans ((fRow f11.1.2.1 303 kR_219_303).trans (fRow f9.1.2.1 303 kR_216_303))))))
  have e71 : PA H1 = PA H0 := PA_fr f9.1.2.1 (by decide +kernel)
  have e72 : PA H2 = PA H1 := PA_fr f11.1.2.1 (by decide +kernel)
  have e73 : PA H2 = PA H0 := e72.trans e71
  have e74 : PA H3 = PA H2 := PA_fr f16.1.2.1 (by decide +kernel)
  have e75 : PA H3 = PA H0 := e74.trans e73
  have e76 : PA H4 = PA H3 := PA_fr f20.1.2.1 (by decide +kernel)
  have e77 : PA H4 = PA H0 := e76.trans e75
  have e78 : PA H5 = PA H4 := PA_fr f26.1.2.1 (by decide +kernel)
  have e79 : PA H5 = PA H0 := e78.trans e77
  have e80 : PA H6 = PA H5 := PA_fr f28.1.2.1 (by decide +kernel)
  have e81 : PA H6 = PA H0 := e80.trans e79
  have e82 : PA H7 = PA H6 := PA_fr f33.1.2.1 (by decide +kernel)
  have e83 : PA H7 = PA H0 := e82.trans e81
  have e84 : PW H1 = PW H0 := PW_fr f9.1.2.1 (by decide +kernel)
  have e85 : PW H2 = PW H1 := PW_fr f11.1.2.1 (by decide +kernel)
  have e86 : PW H2 = PW H0 := e85.trans e84
  have e87 : PW H3 = PW H2 := PW_fr f16.1.2.1 (by decide +kernel)
  have e88 : PW H3 = PW H0 := e87.trans e86
  have e89 : PW H4 = PW H3 := PW_fr f20.1.2.1 (by decide +kernel)
  have e90 : PW H4 = PW H0 := e89.trans e88
  have e91 : PW H5 = PW H4 := PW_fr f26.1.2.1 (by decide +kernel)
  have e92 : PW H5 = PW H0 := e91.trans e90
  have e93 : PW H6 = PW H5 := PW_fr f28.1.2.1 (by decide +kernel)
  have e94 : PW H6 = PW H0 := e93.trans e92
  have e95 : PW H7 = PW H6 := PW_fr f33.1.2.1 (by decide +kernel)
  have e96 : PW H7 = PW H0 := e95.trans e94
  have e97 : (0 : Int) ≤ hV H0 285 11 ∧ hV H0 285 11 ≤ 500 := f5.1 285 11 _ _ kW_285_11
  have e98 : (0 : Int) ≤ hV H0 285 13 ∧ hV H0 285 13 ≤ 2 := f5.1 285 13 _ _ kW_285_13
  have e99 : (0 : Int) ≤ hV H0 285 15 ∧ hV H0 285 15 ≤ 6 := f5.1 285 15 _ _ kW_285_15
  have e100 : (0 : Int) ≤ hV H0 285 18 ∧ hV H0 285 18 ≤ 8 := f5.1 285 18 _ _ kW_285_18
  have e101 : (0 : Int) ≤ hV H0 285 32 ∧ hV H0 285 32 ≤ 7 := f5.1 285 32 _ _ kW_285_32
  have e102 : (0 : Int) ≤ hV H0 285 33 ∧ hV H0 285 33 ≤ 62 := f5.1 285 33 _ _ kW_285_33
  have e105 : (0 : Int) ≤ hV H2 285 11 ∧ hV H2 285 11 ≤ 500 := f11.1.2.2.2 285 11 _ _ kW_285_11
  have e106 : (0 : Int) ≤ hV H2 285 13 ∧ hV H2 285 13 ≤ 2 := f11.1.2.2.2 285 13 _ _ kW_285_13
  have e108 : (0 : Int) ≤ hV H3 285 11 ∧ hV H3 285 11 ≤ 500 := f16.1.2.2.2 285 11 _ _ kW_285_11
  have e109 : (0 : Int) ≤ hV H3 285 13 ∧ hV H3 285 13 ≤ 2 := f16.1.2.2.2 285 13 _ _ kW_285_13
  have e110 : (0 : Int) ≤ hV H3 285 15 ∧ hV H3 285 15 ≤ 6 := f16.1.2.2.2 285 15 _ _ kW_285_15
  have e115 : (0 : Int) ≤ hV H6 285 11 ∧ hV H6 285 11 ≤ 500 := f28.1.2.2.2 285 11 _ _ kW_285_11
  have e116 : (0 : Int) ≤ hV H6 285 13 ∧ hV H6 285 13 ≤ 2 := f28.1.2.2.2 285 13 _ _ kW_285_13
  have e118 : (0 : Int) ≤ hV H7 285 11 ∧ hV H7 285 11 ≤ 500 := f33.1.2.2.2 285 11 _ _ kW_285_11
  have e119 : (0 : Int) ≤ hV H7 285 13 ∧ hV H7 285 13 ≤ 2 := f33.1.2.2.2 285 13 _ _ kW_285_13
  have e120 : (0 : Int) ≤ hV H7 285 15 ∧ hV H7 285 15 ≤ 6 := f33.1.2.2.2 285 15 _ _ kW_285_15
  try simp only [e44, e57, e70, e83, e96]
  have p0 := f5.2.1
  have p1 := f5.2.2.1
  have p2 := f5.2.2.2.1
  have p3 := f5.2.2.2.2.1
  have p4 := f5.2.2.2.2.2.1
  have p5 := f5.2.2.2.2.2.2.1
  have p6 := f5.2.2.2.2.2.2.2.1
  have p7 := f5.2.2.2.2.2.2.2.2
  have r0_0 := f9.2.1
  have r0_1 := f9.2.2.resolve_right (fun z => f10 z.1)
  have r1_0 := f11.2.1
  have r1_1 := f11.2.2.1
  have r1_2 := f11.2.2.2.1
  have r1_3 := f11.2.2.2.2
  have r2_0 := f16.2.1
  have r2_1 := f16.2.2.1
  have r2_2 := f16.2.2.2.1
  have r2_3 := f16.2.2.2.2.1
  have r2_4 := f16.2.2.2.2.2.1
  have r2_5 := f16.2.2.2.2.2.2.1
  have r2_6 := f16.2.2.2.2.2.2.2.1
  have r3_0 := f20.2.1
  have r3_1 := f20.2.2.resolve_right (fun z => f21 z.1)
  have r4_0 := f26.2.1
  have r4_1 := f26.2.2.resolve_right (fun z => f27 z.1)
  have r5_0 := f28.2.1
  have r5_1 := f28.2.2.1
  have r5_2 := f28.2.2.2.1
  have r5_3 := f28.2.2.2.2
  have r6_0 := f33.2.1
  have r6_1 := f33.2.2.1
  have r6_2 := f33.2.2.2.1
  have r6_3 := f33.2.2.2.2.1
  have r6_4 := f33.2.2.2.2.2.1
  have r6_5 := f33.2.2.2.2.2.2.1
  have r6_6 := f33.2.2.2.2.2.2.2.1
  try simp only [e3] at r0_0
  try simp only [e1, e3, e4] at r0_1
  try simp only [e1] at r1_0
  try simp only [e1] at r1_1
  try simp only [e3] at r1_2
  try simp only [e1] at r1_3
  try simp only [e7] at r2_4
  try simp only [e15] at r3_0
  try simp only [e11, e13, e15, e17] at r3_1
  try simp only [e21] at r4_0
  try simp only [e13, e15, e17, e19, e21, e23] at r4_1
  try simp only [e19] at r5_0
  try simp only [e19] at r5_1
  try simp only [e21] at r5_2
  try simp only [e19] at r5_3
  try simp only [e27] at r6_4
  have wb0 := (p7 (hV H0 285 32).toNat).1
  have wp0 := (p7 (hV H0 285 33).toNat).2
  clear e1 e3 e4 e7 e11 e13 e15 e17 e19 e21 e23 e27 e44 e57 e70 e71 e72 e73 e74 e75 e76 e77 e78 e79 e80 e81 e82 e83 e84 e85 e86 e87 e88 e89 e90 e91 e92 e93 e94 e95 e96
  clear f5 f9 f11 f16 f20 f26 f28 f33
  rw [f22] at f34
  first
  | (have ix0 : n16 = -1 * n15 := Eq.trans f34 (w32_id (by omega) (by omega)); subst ix0; clear f34)
  | (unfold w32 at f34; have ix0 : n16 = -1 * n15 := (by omega); subst ix0)
  | skip
  try unfold w32 at f34

  refine ⟨⟨?_, ?_, ?_, ?_, ?_⟩, fun q hq => ?_⟩
  · first | exact True.intro | rfl | omega
  · first | exact True.intro | rfl | omega
  · exact p0
  · intro z1 z2
    exact p5 (by omega) (by omega)
  · (try clear p0 p5 p7)
    first
    | omega
    | (refine ⟨?_, ?_, ?_, ?_, ?_, ?_, ?_, ?_, ?_, ?_, ?_⟩ <;> first | exact True.intro | omega)
  · exact nomatch hq
def g_229_s_10 : vG := ([(3, [18, 12, 17], [], 0), (1223, [17, 0, 15, 16], [6, 7], 0), (90, [17], [], 0), (91, [17], [], 9999), (0, [16], [], 60), (0, [15], [], 0), (1219, [0], [5, 6], 0), (31, [14], [], 0), (1216, [14, 0, 13], [4, 5], 0), (90, [14], [], 0), (91, [14], [], 1), (0, [13], [], 8), (0, [12], [], -1), (31, [11], [], 0), (1216, [11, 0, 10], [3, 4], 0), (90, [11], [], 0), (91, [11], [], 1), (0, [10], [], 9), (1223, [9, 0, 7, 8], [2, 3], 0), (90, [9], [], 0), (91, [9], [], 9999), (0, [8], [], 7), (0, [7], [], 0), (1219, [0], [1, 2], 0), (31, [6], [], 0), (1216, [6, 0, 5], [0, 1], 0), (90, [6], [], 0), (91, [6], [], 1), (0, [5], [], 41), (6000, [0, 1, 2], [0], 0), (0, [0], [], 285), (90, [1], [], 0), (91, [1], [], 1007), (90, [2], [], 0), (91, [2], [], 1)], (4000, [0, 1, 2, 9, 18], [7], 88))
theorem c_229_s_10 : vOkm T0 (eP e_229 L_229 A_229 mu_229 none) 3 g_229_s_10 := vOk_inI fun ρ η f0 f1 f2 f3 f4 f5 f6 f7 f8 f9 f10 f11 f12 f13 f14 f15 f16 f17 f18 f19 f20 f21 f22 f23 f24 f25 f26 f27 f28 f29 f30 f31 f32 f33 f34 => q_229_10 (n0 := ρ 2) (n1 := ρ 1) (n2 := ρ 0) (n3 := ρ 5) (n4 := ρ 6) (n5 := ρ 7) (n6 := ρ 8) (n7 := ρ 9) (n8 := ρ 10) (n9 := ρ 11) (n10 := ρ 12) (n11 := ρ 13) (n12 := ρ 14) (n13 := ρ 15) (n14 := ρ 16) (n15 := ρ 17) (n16 := ρ 18) (H0 := η 0) (H1 := η 1) (H2 := η 2) (H3 := η 3) (H4 := η 4) (H5 := η 5) (H6 := η 6) (H7 := η 7) f34 f33 f32 f31 f30 f29 f28 f27 f26 f25 f24 f23 f22 f21 f20 f19 f18 f17 f16 f15 f14 f13 f12 f11 f10 f9 f8 f7 f6 f5 f4 f3 f2 f1 f0
set_option maxHeartbeats 20000000 in
theorem q_229_11 {n0 n1 n2 n3 n4 n5 n6 n7 n8 n9 n10 n11 n12 n13 n14 : Int} {H0 H1 H2 H3 H4 H5 H6 : gH} (f0 : n0 ≤ 1) (f1 : 0 ≤ n0) (f2 : n1 ≤ 1007) (f3 : 0 ≤ n1) (f4 : n2 = 285) (f5 : hWt T0 H0 ∧ preb_229 n2 n1 n0 H0) (f6 : n3 = 0) (f7 : n4 = 41) (f8 : n5 ≤ 1) (f9 : 0 ≤ n5) (f10 : (hLe T0 H0 H1 ∧ hFr s_216.2.2.2.2 H0 H1 ∧ ((0 : Int) = 0 → H1.length = H0.length) ∧ hWt T0 H1) ∧ postb_216 n5 n2 n4 H0 H1) (f11 : n5 ≠ 0) (f12 : (hLe T0 H1 H2 ∧ hFr s_219.2.2.2.2 H1 H2 ∧ ((0 : Int) = 0 → H2.length = H1.length) ∧ hWt T0 H2) ∧ postb_219 n2 H1 H2) (f13 : n6 = 0) (f14 : n7 = 7) (f15 : n8 ≤ 9999) (f16 : 0 ≤ n8) (f17 : (hLe T0 H2 H3 ∧ hFr s_223.2.2.2.2 H2 H3 ∧ ((0 : Int) = 0 → H3.length = H2.length) ∧ hWt T0 H3) ∧ postb_223 n8 n2 n6 n7 H2 H3) (f18 : n9 = 9) (f19 : n10 ≤ 1) (f20 : 0 ≤ n10) (f21 : (hLe T0 H3 H4 ∧ hFr s_216.2.2.2.2 H3 H4 ∧ ((0 : Int) = 0 → H4.length = H3.length) ∧ hWt T0 H4) ∧ postb_216 n10 n2 n9 H3 H4) (f22 : n10 ≠ 0) (f23 : n11 = 8) (f24 : n12 ≤ 1) (f25 : 0 ≤ n12) (f26 : (hLe T0 H4 H5 ∧ hFr s_216.2.2.2.2 H4 H5 ∧ ((0 : Int) = 0 → H5.length = H4.length) ∧ hWt T0 H5) ∧ postb_216 n12 n2 n11 H4 H5) (f27 : n12 = 0) (f28 : n13 = 9) (f29 : n14 ≤ 1) (f30 : 0 ≤ n14) (f31 : (hLe T0 H5 H6 ∧ hFr s_216.2.2.2.2 H5 H6 ∧ ((0 : Int) = 0 → H6.length = H5.length) ∧ hWt T0 H6) ∧ postb_216 n14 n2 n13 H5 H6) (f32 : n14 = 0) : Ab_229_88 n2 n1 n0 n2 n1 n0 n8 n3 H0 H6 ∧ ∀ q, none = some q → mub_229_88 n2 n1 n0 n2 n1 n0 n8 n3 H0 H6 < q := by
  unfold preb_229 at f5
  unfold postb_216 at f10
  unfold postb_219 at f12
  unfold postb_223 at f17
  unfold postb_216 at f21
  unfold postb_216 at f26
  unfold postb_216 at f31
  unfold Ab_229_88
  have e1 : hV H1 285 11 = hV H0 285 11 := (f10.1.2.1.1 285 11 kF_216_285_11)
  have e3 : hV H1 285 13 = hV H0 285 13 := (f10.1.2.1.1 285 13 kF_216_285_13)
  have e4 : hV H1 288 = hV H0 288 := fRow f10.1.2.1 288 kR_216_288
  have e7 : hV H2 285 15 = hV H0 285 15 := ((f12.1.2.1.1 285 15 kF_219_285_15)).trans (f10.1.2.1.1 285 15 kF_216_285_15)
  have e11 : hV H3 288 = hV H0 288 := (fRow f17.1.2.1 288 kR_223_288).trans ((fRow f12.1.2.1 288 kR_219_288).trans e4)
  have e13 : hV H4 285 11 = hV H3 285 11 := (f21.1.2.1.1 285 11 kF_216_285_11)
  have e15 : hV H4 285 13 = hV H3 285 13 := (f21.1.2.1.1 285 13 kF_216_285_13)
  have e17 : hV H4 288 = hV H0 288 := (fRow f21.1.2.1 288 kR_216_288).trans e11
  have e21 : hV H5 285 13 = hV H3 285 13 := ((f26.1.2.1.1 285 13 kF_216_285_13)).trans (f21.1.2.1.1 285 13 kF_216_285_13)
  have e25 : hV H6 285 11 = hV H3 285 11 := ((f31.1.2.1.1 285 11 kF_216_285_11)).trans (((f26.1.2.1.1 285 11 kF_216_285_11)).trans (f21.1.2.1.1 285 11 kF_216_285_11))
  have e27 : hV H6 285 13 = hV H3 285 13 := ((f31.1.2.1.1 285 13 kF_216_285_13)).trans (((f26.1.2.1.1 285 13 kF_216_285_13)).trans (f21.1.2.1.1 285 13 kF_216_285_13))
  have e31 : hV H6 285 15 = hV H3 285 15 := ((f31.1.2.1.1 285 15 kF_216_285_15)).trans (((f26.1.2.1.1 285 15 kF_216_285_15)).trans (f21.1.2.1.1 285 15 kF_216_285_15))
  have e44 : hV H6 301 = hV H0 301 := (fRow f31.1.2.1 301 kR_216_301).trans ((fRow f26.1.2.1 301 kR_216_301).trans ((fRow f21.1.2.1 301 kR_216_301).trans ((fRow f17.1.2.1 301 kR_223_301).trans ((fRow f12.1.2.1 301 kR_219_301).trans (fRow f10.1.2.1 301 kR_216_301)))))
  have e55 : hV H6 302 = hV H0 302 := (fRow f31.1.2.1 302 kR_216_302).trans ((fRow f26.1.2.1 302 kR_216_302).trans ((fRow f21.1.2.1 302 kR_216_302).trans ((fRow f17.1.2.1 302 kR_223_302).trans ((fRow f12.1.2.1 302 kR_219_302).trans (fRow f10.1.2.1 302 kR_216_302)))))
  have e66 : hV H6 303 = hV H0 303 := (fRow f31.1.2.1 303 kR_216_303).trans ((fRow f26.1.2.1 303 kR_216_303).trans ((fRow f21.1.2.1 303 kR_216_303).trans ((fRow f17.1.2.1 303 kR_223_303).trans ((fRow f12.1.2.1 303 kR_219_303).trans (fRow f10.1.2.1 303 kR_216_303)))))
  have e67 : PA H1 = PA H0 := PA_fr f10.1.2.1 (by decide +kernel)
  have e68 : PA H2 = PA H1 := PA_fr f12.1.2.1 (by decide +kernel)
  have e69 : PA H2 = PA H0 := e68.trans e67
  have e70 : PA H3 = PA H2 := PA_fr f17.1.2.1 (by decide +kernel)
  have e71 : PA H3 = PA H0 := e70.trans e69
  have e72 : PA H4 = PA H3 := PA_fr f21.1.2.1 (by decide +kernel)
  have e73 : PA H4 = PA H0 := e72.trans e71
  have e74 : PA H5 = PA H4 := PA_fr f26.1.2.1 (by decide +kernel)
  have e75 : PA H5 = PA H0 := e74.trans e73
  have e76 : PA H6 = PA H5 := PA_fr f31.1.2.1 (by decide +kernel)
  have e77 : PA H6 = PA H0 := e76.trans e75
  have e78 : PW H1 = PW H0 := PW_fr f10.1.2.1 (by decide +kernel)
  have e79 : PW H2 = PW H1 := PW_fr f12.1.2.1 (by decide +kernel)
  have e80 : PW H2 = PW H0 := e79.trans e78
  have e81 : PW H3 = PW H2 := PW_fr f17.1.2.1 (by decide +kernel)
  have e82 : PW H3 = PW H0 := e81.trans e80
  have e83 : PW H4 = PW H3 := PW_fr f21.1.2.1 (by decide +kernel)
  have e84 : PW H4 = PW H0 := e83.trans e82
  have e85 : PW H5 = PW H4 := PW_fr f26.1.2.1 (by decide +kernel)
  have e86 : PW H5 = PW H0 := e85.trans e84
  have e87 : PW H6 = PW H5 := PW_fr f31.1.2.1 (by decide +kernel)
  have e88 : PW H6 = PW H0 := e87.trans e86
  have e89 : (0 : Int) ≤ hV H0 285 11 ∧ hV H0 285 11 ≤ 500 := f5.1 285 11 _ _ kW_285_11
  have e90 : (0 : Int) ≤ hV H0 285 13 ∧ hV H0 285 13 ≤ 2 := f5.1 285 13 _ _ kW_285_13
  have e91 : (0 : Int) ≤ hV H0 285 15 ∧ hV H0 285 15 ≤ 6 := f5.1 285 15 _ _ kW_285_15
  have e92 : (0 : Int) ≤ hV H0 285 18 ∧ hV H0 285 18 ≤ 8 := f5.1 285 18 _ _ kW_285_18
  have e93 : (0 : Int) ≤ hV H0 285 32 ∧ hV H0 285 32 ≤ 7 := f5.1 285 32 _ _ kW_285_32
  have e94 : (0 : Int) ≤ hV H0 285 33 ∧ hV H0 285 33 ≤ 62 := f5.1 285 33 _ _ kW_285_33
  have e97 : (0 : Int) ≤ hV H2 285 11 ∧ hV H2 285 11 ≤ 500 := f12.1.2.2.2 285 11 _ _ kW_285_11
  have e98 : (0 : Int) ≤ hV H2 285 13 ∧ hV H2 285 13 ≤ 2 := f12.1.2.2.2 285 13 _ _ kW_285_13
  have e100 : (0 : Int) ≤ hV H3 285 11 ∧ hV H3 285 11 ≤ 500 := f17.1.2.2.2 285 11 _ _ kW_285_11
  have e101 : (0 : Int) ≤ hV H3 285 13 ∧ hV H3 285 13 ≤ 2 := f17.1.2.2.2 285 13 _ _ kW_285_13
  have e102 : (0 : Int) ≤ hV H3 285 15 ∧ hV H3 285 15 ≤ 6 := f17.1.2.2.2 285 15 _ _ kW_285_15
  try simp only [e25, e27, e31, e44, e55, e66, e77, e88]
  have p0 := f5.2.1
  have p1 := f5.2.2.1
  have p2 := f5.2.2.2.1
  have p3 := f5.2.2.2.2.1
  have p4 := f5.2.2.2.2.2.1
  have p5 := f5.2.2.2.2.2.2.1
  have p6 := f5.2.2.2.2.2.2.2.1
  have p7 := f5.2.2.2.2.2.2.2.2
  have r0_0 := f10.2.1
  have r0_1 := f10.2.2.resolve_right (fun z => f11 z.1)
  have r1_0 := f12.2.1
  have r1_1 := f12.2.2.1
  have r1_2 := f12.2.2.2.1
  have r1_3 := f12.2.2.2.2
  have r2_0 := f17.2.1
  have r2_1 := f17.2.2.1
  have r2_2 := f17.2.2.2.1
  have r2_3 := f17.2.2.2.2.1
  have r2_4 := f17.2.2.2.2.2.1
  have r2_5 := f17.2.2.2.2.2.2.1
  have r2_6 := f17.2.2.2.2.2.2.2.1
  have r3_0 := f21.2.1
  have r3_1 := f21.2.2.resolve_right (fun z => f22 z.1)
  have r4_0 := f26.2.1
  have r5_0 := f31.2.1
  try simp only [e3] at r0_0
  try simp only [e1, e3, e4] at r0_1
  try simp only [e1] at r1_0
  try simp only [e1] at r1_1
  try simp only [e3] at r1_2
  try simp only [e1] at r1_3
  try simp only [e7] at r2_4
  try simp only [e15] at r3_0
  try simp only [e11, e13, e15, e17] at r3_1
  try simp only [e21] at r4_0
  try simp only [e27] at r5_0
  have wb0 := (p7 (hV H0 285 32).toNat).1
  have wp0 := (p7 (hV H0 285 33).toNat).2
  clear e1 e3 e4 e7 e11 e13 e15 e17 e21 e25 e27 e31 e44 e55 e66 e67 e68 e69 e70 e71 e72 e73 e74 e75 e76 e77 e78 e79 e80 e81 e82 e83 e84 e85 e86 e87 e88
  clear f5 f10 f12 f17 f21 f26 f31

  refine ⟨⟨?_, ?_, ?_, ?_, ?_⟩, fun q hq => ?_⟩
  · first | exact True.intro | rfl | omega
  · first | exact True.intro | rfl | omega
  · exact p0
  · intro z1 z2
    exact p5 (by omega) (by omega)
  · (try clear p0 p5 p7)
    first
    | omega
    | (refine ⟨?_, ?_, ?_, ?_, ?_, ?_, ?_, ?_, ?_, ?_, ?_⟩ <;> first | exact True.intro | omega)
  · exact nomatch hq
def g_229_s_11 : vG := ([(30, [16], [], 0), (1216, [16, 0, 15], [5, 6], 0), (90, [16], [], 0), (91, [16], [], 1), (0, [15], [], 9), (30, [14], [], 0), (1216, [14, 0, 13], [4, 5], 0), (90, [14], [], 0), (91, [14], [], 1), (0, [13], [], 8), (31, [11], [], 0), (1216, [11, 0, 10], [3, 4], 0), (90, [11], [], 0), (91, [11], [], 1), (0, [10], [], 9), (1223, [9, 0, 7, 8], [2, 3], 0), (90, [9], [], 0), (91, [9], [], 9999), (0, [8], [], 7), (0, [7], [], 0), (1219, [0], [1, 2], 0), (31, [6], [], 0), (1216, [6, 0, 5], [0, 1], 0), (90, [6], [], 0), (91, [6], [], 1), (0, [5], [], 41), (0, [4], [], 0), (6000, [0, 1, 2], [0], 0), (0, [0], [], 285), (90, [1], [], 0), (91, [1], [], 1007), (90, [2], [], 0), (91, [2], [], 1)], (4000, [0, 1, 2, 9, 4], [6], 88))
theorem c_229_s_11 : vOkm T0 (eP e_229 L_229 A_229 mu_229 none) 3 g_229_s_11 := vOk_inI fun ρ η f0 f1 f2 f3 f4 f5 f6 f7 f8 f9 f10 f11 f12 f13 f14 f15 f16 f17 f18 f19 f20 f21 f22 f23 f24 f25 f26 f27 f28 f29 f30 f31 f32 => q_229_11 (n0 := ρ 2) (n1 := ρ 1) (n2 := ρ 0) (n3 := ρ 4) (n4 := ρ 5) (n5 := ρ 6) (n6 := ρ 7) (n7 := ρ 8) (n8 := ρ 9) (n9 := ρ 10) (n10 := ρ 11) (n11 := ρ 13) (n12 := ρ 14) (n13 := ρ 15) (n14 := ρ 16) (H0 := η 0) (H1 := η 1) (H2 := η 2) (H3 := η 3) (H4 := η 4) (H5 := η 5) (H6 := η 6) f32 f31 f30 f29 f28 f27 f26 f25 f24 f23 f22 f21 f20 f19 f18 f17 f16 f15 f14 f13 f12 f11 f10 f9 f8 f7 f6 f5 f4 f3 f2 f1 f0
set_option maxHeartbeats 20000000 in
theorem q_229_12 {n0 n1 n2 n3 n4 n5 n6 n7 n8 n9 n10 n11 n12 n13 n14 n15 n16 n17 n18 : Int} {H0 H1 H2 H3 H4 H5 H6 H7 H8 : gH} (f0 : n0 ≤ 1) (f1 : 0 ≤ n0) (f2 : n1 ≤ 1007) (f3 : 0 ≤ n1) (f4 : n2 = 285) (f5 : hWt T0 H0 ∧ preb_229 n2 n1 n0 H0) (f6 : n3 = 41) (f7 : n4 ≤ 1) (f8 : 0 ≤ n4) (f9 : (hLe T0 H0 H1 ∧ hFr s_216.2.2.2.2 H0 H1 ∧ ((0 : Int) = 0 → H1.length = H0.length) ∧ hWt T0 H1) ∧ postb_216 n4 n2 n3 H0 H1) (f10 : n4 ≠ 0) (f11 : (hLe T0 H1 H2 ∧ hFr s_219.2.2.2.2 H1 H2 ∧ ((0 : Int) = 0 → H2.length = H1.length) ∧ hWt T0 H2) ∧ postb_219 n2 H1 H2) (f12 : n5 = 0) (f13 : n6 = 7) (f14 : n7 ≤ 9999) (f15 : 0 ≤ n7) (f16 : (hLe T0 H2 H3 ∧ hFr s_223.2.2.2.2 H2 H3 ∧ ((0 : Int) = 0 → H3.length = H2.length) ∧ hWt T0 H3) ∧ postb_223 n7 n2 n5 n6 H2 H3) (f17 : n8 = 9) (f18 : n9 ≤ 1) (f19 : 0 ≤ n9) (f20 : (hLe T0 H3 H4 ∧ hFr s_216.2.2.2.2 H3 H4 ∧ ((0 : Int) = 0 → H4.length = H3.length) ∧ hWt T0 H4) ∧ postb_216 n9 n2 n8 H3 H4) (f21 : n9 ≠ 0) (f22 : n10 = (-1)) (f23 : n11 = 8) (f24 : n12 ≤ 1) (f25 : 0 ≤ n12) (f26 : (hLe T0 H4 H5 ∧ hFr s_216.2.2.2.2 H4 H5 ∧ ((0 : Int) = 0 → H5.length = H4.length) ∧ hWt T0 H5) ∧ postb_216 n12 n2 n11 H4 H5) (f27 : n12 = 0) (f28 : n13 = 9) (f29 : n14 ≤ 1) (f30 : 0 ≤ n14) (f31 : (hLe T0 H5 H6 ∧ hFr s_216.2.2.2.2 H5 H6 ∧ ((0 : Int) = 0 → H6.length = H5.length) ∧ hWt T0 H6) ∧ postb_216 n14 n2 n13 H5 H6) (f32 : n14 ≠ 0) (f33 : (hLe T0 H6 H7 ∧ hFr s_219.2.2.2.2 H6 H7 ∧ ((0 : Int) = 0 → H7.length = H6.length) ∧ hWt T0 H7) ∧ postb_219 n2 H6 H7) (f34 : n15 = 0) (f35 : n16 = 60) (f36 : n17 ≤ 9999) (f37 : 0 ≤ n17) (f38 : (hLe T0 H7 H8 ∧ hFr s_223.2.2.2.2 H7 H8 ∧ ((0 : Int) = 0 → H8.length = H7.length) ∧ hWt T0 H8) ∧ postb_223 n17 n2 n15 n16 H7 H8) (f39 : n18 = w32 (n10 * n17)) : (-9999) ≤ n18 := by
  unfold preb_229 at f5
  unfold postb_216 at f9
  unfold postb_219 at f11
  unfold postb_223 at f16
  unfold postb_216 at f20
  unfold postb_216 at f26
  unfold postb_216 at f31
  unfold postb_219 at f33
  unfold postb_223 at f38
  have e1 : hV H1 285 11 = hV H0 285 11 := (f9.1.2.1.1 285 11 kF_216_285_11)
  have e3 : hV H1 285 13 = hV H0 285 13 := (f9.1.2.1.1 285 13 kF_216_285_13)
  have e4 : hV H1 288 = hV H0 288 := fRow f9.1.2.1 288 kR_216_288
  have e7 : hV H2 285 15 = hV H0 285 15 := ((f11.1.2.1.1 285 15 kF_219_285_15)).trans (f9.1.2.1.1 285 15 kF_216_285_15)
  have e11 : hV H3 288 = hV H0 288 := (fRow f16.1.2.1 288 kR_223_288).trans ((fRow f11.1.2.1 288 kR_219_288).trans e4)
  have e13 : hV H4 285 11 = hV H3 285 11 := (f20.1.2.1.1 285 11 kF_216_285_11)
  have e15 : hV H4 285 13 = hV H3 285 13 := (f20.1.2.1.1 285 13 kF_216_285_13)
  have e17 : hV H4 288 = hV H0 288 := (fRow f20.1.2.1 288 kR_216_288).trans e11
  have e19 : hV H5 285 11 = hV H3 285 11 := ((f26.1.2.1.1 285 11 kF_216_285_11)).trans (f20.1.2.1.1 285 11 kF_216_285_11)
  have e21 : hV H5 285 13 = hV H3 285 13 := ((f26.1.2.1.1 285 13 kF_216_285_13)).trans (f20.1.2.1.1 285 13 kF_216_285_13)
  have e23 : hV H5 288 = hV H0 288 := (fRow f26.1.2.1 288 kR_216_288).trans e17
  have e25 : hV H6 285 11 = hV H3 285 11 := ((f31.1.2.1.1 285 11 kF_216_285_11)).trans (((f26.1.2.1.1 285 11 kF_216_285_11)).trans (f20.1.2.1.1 285 11 kF_216_285_11))
  have e27 : hV H6 285 13 = hV H3 285 13 := ((f31.1.2.1.1 285 13 kF_216_285_13)).trans (((f26.1.2.1.1 285 13 kF_216_285_13)).trans (f20.1.2.1.1 285 13 kF_216_285_13))
  have e29 : hV H6 288 = hV H0 288 := (fRow f31.1.2.1 288 kR_216_288).trans e23
  have e34 : hV H7 285 15 = hV H3 285 15 := ((f33.1.2.1.1 285 15 kF_219_285_15)).trans (((f31.1.2.1.1 285 15 kF_216_285_15)).trans (((f26.1.2.1.1 285 15 kF_216_285_15)).trans (f20.1.2.1.1 285 15 kF_216_285_15)))
  have e39 : (0 : Int) ≤ hV H0 285 13 ∧ hV H0 285 13 ≤ 2 := f5.1 285 13 _ _ kW_285_13
  have e40 : (0 : Int) ≤ hV H0 285 15 ∧ hV H0 285 15 ≤ 6 := f5.1 285 15 _ _ kW_285_15
  have e41 : (0 : Int) ≤ hV H0 285 18 ∧ hV H0 285 18 ≤ 8 := f5.1 285 18 _ _ kW_285_18
  have e42 : (0 : Int) ≤ hV H0 285 32 ∧ hV H0 285 32 ≤ 7 := f5.1 285 32 _ _ kW_285_32
  have e43 : (0 : Int) ≤ hV H0 285 33 ∧ hV H0 285 33 ≤ 62 := f5.1 285 33 _ _ kW_285_33
  have e44 : (0 : Int) ≤ hV H0 285 11 ∧ hV H0 285 11 ≤ 500 := bTo e1 (f9.1.2.2.2 285 11 _ _ kW_285_11)
  have e47 : (0 : Int) ≤ hV H2 285 11 ∧ hV H2 285 11 ≤ 500 := f11.1.2.2.2 285 11 _ _ kW_285_11
  have e48 : (0 : Int) ≤ hV H2 285 13 ∧ hV H2 285 13 ≤ 2 := f11.1.2.2.2 285 13 _ _ kW_285_13
  have e50 : (0 : Int) ≤ hV H3 285 11 ∧ hV H3 285 11 ≤ 500 := f16.1.2.2.2 285 11 _ _ kW_285_11
  have e51 : (0 : Int) ≤ hV H3 285 13 ∧ hV H3 285 13 ≤ 2 := f16.1.2.2.2 285 13 _ _ kW_285_13
  have e52 : (0 : Int) ≤ hV H3 285 15 ∧ hV H3 285 15 ≤ 6 := f16.1.2.2.2 285 15 _ _ kW_285_15
  have e59 : (0 : Int) ≤ hV H7 285 11 ∧ hV H7 285 11 ≤ 500 := f33.1.2.2.2 285 11 _ _ kW_285_11
  have e60 : (0 : Int) ≤ hV H7 285 13 ∧ hV H7 285 13 ≤ 2 := f33.1.2.2.2 285 13 _ _ kW_285_13
  have e62 : (0 : Int) ≤ hV H8 285 11 ∧ hV H8 285 11 ≤ 500 := f38.1.2.2.2 285 11 _ _ kW_285_11
  have e63 : (0 : Int) ≤ hV H8 285 13 ∧ hV H8 285 13 ≤ 2 := f38.1.2.2.2 285 13 _ _ kW_285_13
  have e64 : (0 : Int) ≤ hV H8 285 15 ∧ hV H8 285 15 ≤ 6 := f38.1.2.2.2 285 15 _ _ kW_285_15
  have p0 := f5.2.1
  have p1 := f5.2.2.1
  have p2 := f5.2.2.2.1
  have p3 := f5.2.2.2.2.1
  have p4 := f5.2.2.2.2.2.1
  have p5 := f5.2.2.2.2.2.2.1
  have p6 := f5.2.2.2.2.2.2.2.1
  have p7 := f5.2.2.2.2.2.2.2.2
  have r0_0 := f9.2.1
  have r0_1 := f9.2.2.resolve_right (fun z => f10 z.1)
  have r1_0 := f11.2.1
  have r1_1 := f11.2.2.1
  have r1_2 := f11.2.2.2.1
  have r1_3 := f11.2.2.2.2
  have r2_0 := f16.2.1
  have r2_1 := f16.2.2.1
  have r2_2 := f16.2.2.2.1
  have r2_3 := f16.2.2.2.2.1
  have r2_4 := f16.2.2.2.2.2.1
  have r2_5 := f16.2.2.2.2.2.2.1
  have r2_6 := f16.2.2.2.2.2.2.2.1
  have r3_0 := f20.2.1
  have r3_1 := f20.2.2.resolve_right (fun z => f21 z.1)
  have r4_0 := f26.2.1
  have r5_0 := f31.2.1
  have r5_1 := f31.2.2.resolve_right (fun z => f32 z.1)
  have r6_0 := f33.2.1
  have r6_1 := f33.2.2.1
  have r6_2 := f33.2.2.2.1
  have r6_3 := f33.2.2.2.2
  have r7_0 := f38.2.1
  have r7_1 := f38.2.2.1
  have r7_2 := f38.2.2.2.1
  have r7_3 := f38.2.2.2.2.1
  have r7_4 := f38.2.2.2.2.2.1
  have r7_5 := f38.2.2.2.2.2.2.1
  have r7_6 := f38.2.2.2.2.2.2.2.1
  try simp only [e3] at r0_0
  try simp only [e1, e3, e4] at r0_1
  try simp only [e1] at r1_0
  try simp only [e1] at r1_1
  try simp only [e3] at r1_2
  try simp only [e1] at r1_3
  try simp only [e7] at r2_4
  try simp only [e15] at r3_0
  try simp only [e11, e13, e15, e17] at r3_1
  try simp only [e21] at r4_0
  try simp only [e27] at r5_0
  try simp only [e19, e21, e23, e25, e27, e29] at r5_1
  try simp only [e25] at r6_0
  try simp only [e25] at r6_1
  try simp only [e27] at r6_2
  try simp only [e25] at r6_3
  try simp only [e34] at r7_4
  have wb0 := (p7 (hV H0 285 32).toNat).1
  have wp0 := (p7 (hV H0 285 33).toNat).2
  clear e1 e3 e4 e7 e11 e13 e15 e17 e19 e21 e23 e25 e27 e29 e34
  clear f5 f9 f11 f16 f20 f26 f31 f33 f38
  rw [f22] at f39
  first
  | (have ix0 : n18 = -1 * n17 := Eq.trans f39 (w32_id (by omega) (by omega)); subst ix0; clear f39)
  | (unfold w32 at f39; have ix0 : n18 = -1 * n17 := (by omega); subst ix0)
  | skip
  try unfold w32 at f39

  (try clear p0 p5 p7)
  omega
def g_229_s_12 : vG := ([(3, [20, 12, 19], [], 0), (1223, [19, 0, 17, 18], [7, 8], 0), (90, [19], [], 0), (91, [19], [], 9999), (0, [18], [], 60), (0, [17], [], 0), (1219, [0], [6, 7], 0), (31, [16], [], 0), (1216, [16, 0, 15], [5, 6], 0), (90, [16], [], 0), (91, [16], [], 1), (0, [15], [], 9), (30, [14], [], 0), (1216, [14, 0, 13], [4, 5], 0), (90, [14], [], 0), (91, [14], [], 1), (0, [13], [], 8), (0, [12], [], -1), (31, [11], [], 0), (1216, [11, 0, 10], [3, 4], 0), (90, [11], [], 0), (91, [11], [], 1), (0, [10], [], 9), (1223, [9, 0, 7, 8], [2, 3], 0), (90, [9], [], 0), (91, [9], [], 9999), (0, [8], [], 7), (0, [7], [], 0), (1219, [0], [1, 2], 0), (31, [6], [], 0), (1216, [6, 0, 5], [0, 1], 0), (90, [6], [], 0), (91, [6], [], 1), (0, [5], [], 41), (6000, [0, 1, 2], [0], 0), (0, [0], [], 285), (90, [1], [], 0), (91, [1], [], 1007), (90, [2], [], 0), (91, [2], [], 1)], (90, [20], [], -9999))
theorem c_229_s_12 : vOkm T0 (eP e_229 L_229 A_229 mu_229 none) 3 g_229_s_12 := vOk_inI fun ρ η f0 f1 f2 f3 f4 f5 f6 f7 f8 f9 f10 f11 f12 f13 f14 f15 f16 f17 f18 f19 f20 f21 f22 f23 f24 f25 f26 f27 f28 f29 f30 f31 f32 f33 f34 f35 f36 f37 f38 f39 => q_229_12 (n0 := ρ 2) (n1 := ρ 1) (n2 := ρ 0) (n3 := ρ 5) (n4 := ρ 6) (n5 := ρ 7) (n6 := ρ 8) (n7 := ρ 9) (n8 := ρ 10) (n9 := ρ 11) (n10 := ρ 12) (n11 := ρ 13) (n12 := ρ 14) (n13 := ρ 15) (n14 := ρ 16) (n15 := ρ 17) (n16 := ρ 18) (n17 := ρ 19) (n18 := ρ 20) (H0 := η 0) (H1 := η 1) (H2 := η 2) (H3 := η 3) (H4 := η 4) (H5 := η 5) (H6 := η 6) (H7 := η 7) (H8 := η 8) f39 f38 f37 f36 f35 f34 f33 f32 f31 f30 f29 f28 f27 f26 f25 f24 f23 f22 f21 f20 f19 f18 f17 f16 f15 f14 f13 f12 f11 f10 f9 f8 f7 f6 f5 f4 f3 f2 f1 f0
set_option maxHeartbeats 20000000 in
theorem q_229_13 {n0 n1 n2 n3 n4 n5 n6 n7 n8 n9 n10 n11 n12 n13 n14 n15 n16 n17 n18 : Int} {H0 H1 H2 H3 H4 H5 H6 H7 H8 : gH} (f0 : n0 ≤ 1) (f1 : 0 ≤ n0) (f2 : n1 ≤ 1007) (f3 : 0 ≤ n1) (f4 : n2 = 285) (f5 : hWt T0 H0 ∧ preb_229 n2 n1 n0 H0) (f6 : n3 = 41) (f7 : n4 ≤ 1) (f8 : 0 ≤ n4) (f9 : (hLe T0 H0 H1 ∧ hFr s_216.2.2.2.2 H0 H1 ∧ ((0 : Int) = 0 → H1.length = H0.length) ∧ hWt T0 H1) ∧ postb_216 n4 n2 n3 H0 H1) (f10 : n4 ≠ 0) (f11 : (hLe T0 H1 H2 ∧ hFr s_219.2.2.2.2 H1 H2 ∧ ((0 : Int) = 0 → H2.length = H1.length) ∧ hWt T0 H2) ∧ postb_219 n2 H1 H2) (f12 : n5 = 0) (f13 : n6 = 7) (f14 : n7 ≤ 9999) (f15 : 0 ≤ n7) (f16 : (hLe T0 H2 H3 ∧ hFr s_223.2.2.2.2 H2 H3 ∧ ((0 : Int) = 0 → H3.length = H2.length) ∧ hWt T0 H3) ∧ postb_223 n7 n2 n5 n6 H2 H3) (f17 : n8 = 9) (f18 : n9 ≤ 1) (f19 : 0 ≤ n9) (f20 : (hLe T0 H3 H4 ∧ hFr s_216.2.2.2.2 H3 H4 ∧ ((0 : Int) = 0 → H4.length = H3.length) ∧ hWt T0 H4) ∧ postb_216 n9 n2 n8 H3 H4) (f21 : n9 ≠ 0) (f22 : n10 = (-1)) (f23 : n11 = 8) (f24 : n12 ≤ 1) (f25 : 0 ≤ n12) (f26 : (hLe T0 H4 H5 ∧ hFr s_216.2.2.2.2 H4 H5 ∧ ((0 : Int) = 0 → H5.length = H4.length) ∧ hWt T0 H5) ∧ postb_216 n12 n2 n11 H4 H5) (f27 : n12 = 0) (f28 : n13 = 9) (f29 : n14 ≤ 1) (f30 : 0 ≤ n14) (f31 : (hLe T0 H5 H6 ∧ hFr s_216.2.2.2.2 H5 H6 ∧ ((0 : Int) = 0 → H6.length = H5.length) ∧ hWt T0 H6) ∧ postb_216 n14 n2 n13 H5 H6) (f32 : n14 ≠ 0) (f33 : (hLe T0 H6 H7 ∧ hFr s_219.2.2.2.2 H6 H7 ∧ ((0 : Int) = 0 → H7.length = H6.length) ∧ hWt T0 H7) ∧ postb_219 n2 H6 H7) (f34 : n15 = 0) (f35 : n16 = 60) (f36 : n17 ≤ 9999) (f37 : 0 ≤ n17) (f38 : (hLe T0 H7 H8 ∧ hFr s_223.2.2.2.2 H7 H8 ∧ ((0 : Int) = 0 → H8.length = H7.length) ∧ hWt T0 H8) ∧ postb_223 n17 n2 n15 n16 H7 H8) (f39 : n18 = w32 (n10 * n17)) : n18 ≤ 9999 := by
  unfold preb_229 at f5
  unfold postb_216 at f9
  unfold postb_219 at f11
  unfold postb_223 at f16
  unfold postb_216 at f20
  unfold postb_216 at f26
  unfold postb_216 at f31
  unfold postb_219 at f33
  unfold postb_223 at f38
  have e1 : hV H1 285 11 = hV H0 285 11 := (f9.1.2.1.1 285 11 kF_216_285_11)
  have e3 : hV H1 285 13 = hV H0 285 13 := (f9.1.2.1.1 285 13 kF_216_285_13)
  have e4 : hV H1 288 = hV H0 288 := fRow f9.1.2.1 288 kR_216_288
  have e7 : hV H2 285 15 = hV H0 285 15 := ((f11.1.2.1.1 285 15 kF_219_285_15)).trans (f9.1.2.1.1 285 15 kF_216_285_15)
  have e11 : hV H3 288 = hV H0 288 := (fRow f16.1.2.1 288 kR_223_288).trans ((fRow f11.1.2.1 288 kR_219_288).trans e4)
  have e13 : hV H4 285 11 = hV H3 285 11 := (f20.1.2.1.1 285 11 kF_216_285_11)
  have e15 : hV H4 285 13 = hV H3 285 13 := (f20.1.2.1.1 285 13 kF_216_285_13)
  have e17 : hV H4 288 = hV H0 288 := (fRow f20.1.2.1 288 kR_216_288).trans e11
  have e19 : hV H5 285 11 = hV H3 285 11 := ((f26.1.2.1.1 285 11 kF_216_285_11)).trans (f20.1.2.1.1 285 11 kF_216_285_11)
  have e21 : hV H5 285 13 = hV H3 285 13 := ((f26.1.2.1.1 285 13 kF_216_285_13)).trans (f20.1.2.1.1 285 13 kF_216_285_13)
  have e23 : hV H5 288 = hV H0 288 := (fRow f26.1.2.1 288 kR_216_288).trans e17
  have e25 : hV H6 285 11 = hV H3 285 11 := ((f31.1.2.1.1 285 11 kF_216_285_11)).trans (((f26.1.2.1.1 285 11 kF_216_285_11)).trans (f20.1.2.1.1 285 11 kF_216_285_11))
  have e27 : hV H6 285 13 = hV H3 285 13 := ((f31.1.2.1.1 285 13 kF_216_285_13)).trans (((f26.1.2.1.1 285 13 kF_216_285_13)).trans (f20.1.2.1.1 285 13 kF_216_285_13))
  have e29 : hV H6 288 = hV H0 288 := (fRow f31.1.2.1 288 kR_216_288).trans e23
  have e34 : hV H7 285 15 = hV H3 285 15 := ((f33.1.2.1.1 285 15 kF_219_285_15)).trans (((f31.1.2.1.1 285 15 kF_216_285_15)).trans (((f26.1.2.1.1 285 15 kF_216_285_15)).trans (f20.1.2.1.1 285 15 kF_216_285_15)))
  have e39 : (0 : Int) ≤ hV H0 285 13 ∧ hV H0 285 13 ≤ 2 := f5.1 285 13 _ _ kW_285_13
  have e40 : (0 : Int) ≤ hV H0 285 15 ∧ hV H0 285 15 ≤ 6 := f5.1 285 15 _ _ kW_285_15
  have e41 : (0 : Int) ≤ hV H0 285 18 ∧ hV H0 285 18 ≤ 8 := f5.1 285 18 _ _ kW_285_18
  have e42 : (0 : Int) ≤ hV H0 285 32 ∧ hV H0 285 32 ≤ 7 := f5.1 285 32 _ _ kW_285_32
  have e43 : (0 : Int) ≤ hV H0 285 33 ∧ hV H0 285 33 ≤ 62 := f5.1 285 33 _ _ kW_285_33
  have e44 : (0 : Int) ≤ hV H0 285 11 ∧ hV H0 285 11 ≤ 500 := bTo e1 (f9.1.2.2.2 285 11 _ _ kW_285_11)
  have e47 : (0 : Int) ≤ hV H2 285 11 ∧ hV H2 285 11 ≤ 500 := f11.1.2.2.2 285 11 _ _ kW_285_11
  have e48 : (0 : Int) ≤ hV H2 285 13 ∧ hV H2 285 13 ≤ 2 := f11.1.2.2.2 285 13 _ _ kW_285_13
  have e50 : (0 : Int) ≤ hV H3 285 11 ∧ hV H3 285 11 ≤ 500 := f16.1.2.2.2 285 11 _ _ kW_285_11
  have e51 : (0 : Int) ≤ hV H3 285 13 ∧ hV H3 285 13 ≤ 2 := f16.1.2.2.2 285 13 _ _ kW_285_13
  have e52 : (0 : Int) ≤ hV H3 285 15 ∧ hV H3 285 15 ≤ 6 := f16.1.2.2.2 285 15 _ _ kW_285_15
  have e59 : (0 : Int) ≤ hV H7 285 11 ∧ hV H7 285 11 ≤ 500 := f33.1.2.2.2 285 11 _ _ kW_285_11
  have e60 : (0 : Int) ≤ hV H7 285 13 ∧ hV H7 285 13 ≤ 2 := f33.1.2.2.2 285 13 _ _ kW_285_13
  have e62 : (0 : Int) ≤ hV H8 285 11 ∧ hV H8 285 11 ≤ 500 := f38.1.2.2.2 285 11 _ _ kW_285_11
  have e63 : (0 : Int) ≤ hV H8 285 13 ∧ hV H8 285 13 ≤ 2 := f38.1.2.2.2 285 13 _ _ kW_285_13
  have e64 : (0 : Int) ≤ hV H8 285 15 ∧ hV H8 285 15 ≤ 6 := f38.1.2.2.2 285 15 _ _ kW_285_15
  have p0 := f5.2.1
  have p1 := f5.2.2.1
  have p2 := f5.2.2.2.1
  have p3 := f5.2.2.2.2.1
  have p4 := f5.2.2.2.2.2.1
  have p5 := f5.2.2.2.2.2.2.1
  have p6 := f5.2.2.2.2.2.2.2.1
  have p7 := f5.2.2.2.2.2.2.2.2
  have r0_0 := f9.2.1
  have r0_1 := f9.2.2.resolve_right (fun z => f10 z.1)
  have r1_0 := f11.2.1
  have r1_1 := f11.2.2.1
  have r1_2 := f11.2.2.2.1
  have r1_3 := f11.2.2.2.2
  have r2_0 := f16.2.1
  have r2_1 := f16.2.2.1
  have r2_2 := f16.2.2.2.1
  have r2_3 := f16.2.2.2.2.1
  have r2_4 := f16.2.2.2.2.2.1
  have r2_5 := f16.2.2.2.2.2.2.1
  have r2_6 := f16.2.2.2.2.2.2.2.1
  have r3_0 := f20.2.1
  have r3_1 := f20.2.2.resolve_right (fun z => f21 z.1)
  have r4_0 := f26.2.1
  have r5_0 := f31.2.1
  have r5_1 := f31.2.2.resolve_right (fun z => f32 z.1)
  have r6_0 := f33.2.1
  have r6_1 := f33.2.2.1
  have r6_2 := f33.2.2.2.1
  have r6_3 := f33.2.2.2.2
  have r7_0 := f38.2.1
  have r7_1 := f38.2.2.1
  have r7_2 := f38.2.2.2.1
  have r7_3 := f38.2.2.2.2.1
  have r7_4 := f38.2.2.2.2.2.1
  have r7_5 := f38.2.2.2.2.2.2.1
  have r7_6 := f38.2.2.2.2.2.2.2.1
  try simp only [e3] at r0_0
  try simp only [e1, e3, e4] at r0_1
  try simp only [e1] at r1_0
  try simp only [e1] at r1_1
  try simp only [e3] at r1_2
  try simp only [e1] at r1_3
  try simp only [e7] at r2_4
  try simp only [e15] at r3_0
  try simp only [e11, e13, e15, e17] at r3_1
  try simp only [e21] at r4_0
  try simp only [e27] at r5_0
  try simp only [e19, e21, e23, e25, e27, e29] at r5_1
  try simp only [e25] at r6_0
  try simp only [e25] at r6_1
  try simp only [e27] at r6_2
  try simp only [e25] at r6_3
  try simp only [e34] at r7_4
  have wb0 := (p7 (hV H0 285 32).toNat).1
  have wp0 := (p7 (hV H0 285 33).toNat).2
  clear e1 e3 e4 e7 e11 e13 e15 e17 e19 e21 e23 e25 e27 e29 e34
  clear f5 f9 f11 f16 f20 f26 f31 f33 f38
  rw [f22] at f39
  first
  | (have ix0 : n18 = -1 * n17 := Eq.trans f39 (w32_id (by omega) (by omega)); subst ix0; clear f39)
  | (unfold w32 at f39; have ix0 : n18 = -1 * n17 := (by omega); subst ix0)
  | skip
  try unfold w32 at f39

  (try clear p0 p5 p7)
  omega
def g_229_s_13 : vG := ([(3, [20, 12, 19], [], 0), (1223, [19, 0, 17, 18], [7, 8], 0), (90, [19], [], 0), (91, [19], [], 9999), (0, [18], [], 60), (0, [17], [], 0), (1219, [0], [6, 7], 0), (31, [16], [], 0), (1216, [16, 0, 15], [5, 6], 0), (90, [16], [], 0), (91, [16], [], 1), (0, [15], [], 9), (30, [14], [], 0), (1216, [14, 0, 13], [4, 5], 0), (90, [14], [], 0), (91, [14], [], 1), (0, [13], [], 8), (0, [12], [], -1), (31, [11], [], 0), (1216, [11, 0, 10], [3, 4], 0), (90, [11], [], 0), (91, [11], [], 1), (0, [10], [], 9), (1223, [9, 0, 7, 8], [2, 3], 0), (90, [9], [], 0), (91, [9], [], 9999), (0, [8], [], 7), (0, [7], [], 0), (1219, [0], [1, 2], 0), (31, [6], [], 0), (1216, [6, 0, 5], [0, 1], 0), (90, [6], [], 0), (91, [6], [], 1), (0, [5], [], 41), (6000, [0, 1, 2], [0], 0), (0, [0], [], 285), (90, [1], [], 0), (91, [1], [], 1007), (90, [2], [], 0), (91, [2], [], 1)], (91, [20], [], 9999))
theorem c_229_s_13 : vOkm T0 (eP e_229 L_229 A_229 mu_229 none) 3 g_229_s_13 := vOk_inI fun ρ η f0 f1 f2 f3 f4 f5 f6 f7 f8 f9 f10 f11 f12 f13 f14 f15 f16 f17 f18 f19 f20 f21 f22 f23 f24 f25 f26 f27 f28 f29 f30 f31 f32 f33 f34 f35 f36 f37 f38 f39 => q_229_13 (n0 := ρ 2) (n1 := ρ 1) (n2 := ρ 0) (n3 := ρ 5) (n4 := ρ 6) (n5 := ρ 7) (n6 := ρ 8) (n7 := ρ 9) (n8 := ρ 10) (n9 := ρ 11) (n10 := ρ 12) (n11 := ρ 13) (n12 := ρ 14) (n13 := ρ 15) (n14 := ρ 16) (n15 := ρ 17) (n16 := ρ 18) (n17 := ρ 19) (n18 := ρ 20) (H0 := η 0) (H1 := η 1) (H2 := η 2) (H3 := η 3) (H4 := η 4) (H5 := η 5) (H6 := η 6) (H7 := η 7) (H8 := η 8) f39 f38 f37 f36 f35 f34 f33 f32 f31 f30 f29 f28 f27 f26 f25 f24 f23 f22 f21 f20 f19 f18 f17 f16 f15 f14 f13 f12 f11 f10 f9 f8 f7 f6 f5 f4 f3 f2 f1 f0
set_option maxHeartbeats 20000000 in
theorem q_229_14 {n0 n1 n2 n3 n4 n5 n6 n7 n8 n9 n10 n11 n12 n13 n14 n15 n16 n17 n18 : Int} {H0 H1 H2 H3 H4 H5 H6 H7 H8 : gH} (f0 : n0 ≤ 1) (f1 : 0 ≤ n0) (f2 : n1 ≤ 1007) (f3 : 0 ≤ n1) (f4 : n2 = 285) (f5 : hWt T0 H0 ∧ preb_229 n2 n1 n0 H0) (f6 : n3 = 41) (f7 : n4 ≤ 1) (f8 : 0 ≤ n4) (f9 : (hLe T0 H0 H1 ∧ hFr s_216.2.2.2.2 H0 H1 ∧ ((0 : Int) = 0 → H1.length = H0.length) ∧ hWt T0 H1) ∧ postb_216 n4 n2 n3 H0 H1) (f10 : n4 ≠ 0) (f11 : (hLe T0 H1 H2 ∧ hFr s_219.2.2.2.2 H1 H2 ∧ ((0 : Int) = 0 → H2.length = H1.length) ∧ hWt T0 H2) ∧ postb_219 n2 H1 H2) (f12 : n5 = 0) (f13 : n6 = 7) (f14 : n7 ≤ 9999) (f15 : 0 ≤ n7) (f16 : (hLe T0 H2 H3 ∧ hFr s_223.2.2.2.2 H2 H3 ∧ ((0 : Int) = 0 → H3.length = H2.length) ∧ hWt T0 H3) ∧ postb_223 n7 n2 n5 n6 H2 H3) (f17 : n8 = 9) (f18 : n9 ≤ 1) (f19 : 0 ≤ n9) (f20 : (hLe T0 H3 H4 ∧ hFr s_216.2.2.2.2 H3 H4 ∧ ((0 : Int) = 0 → H4.length = H3.length) ∧ hWt T0 H4) ∧ postb_216 n9 n2 n8 H3 H4) (f21 : n9 ≠ 0) (f22 : n10 = (-1)) (f23 : n11 = 8) (f24 : n12 ≤ 1) (f25 : 0 ≤ n12) (f26 : (hLe T0 H4 H5 ∧ hFr s_216.2.2.2.2 H4 H5 ∧ ((0 : Int) = 0 → H5.length = H4.length) ∧ hWt T0 H5) ∧ postb_216 n12 n2 n11 H4 H5) (f27 : n12 = 0) (f28 : n13 = 9) (f29 : n14 ≤ 1) (f30 : 0 ≤ n14) (f31 : (hLe T0 H5 H6 ∧ hFr s_216.2.2.2.2 H5 H6 ∧ ((0 : Int) = 0 → H6.length = H5.length) ∧ hWt T0 H6) ∧ postb_216 n14 n2 n13 H5 H6) (f32 : n14 ≠ 0) (f33 : (hLe T0 H6 H7 ∧ hFr s_219.2.2.2.2 H6 H7 ∧ ((0 : Int) = 0 → H7.length = H6.length) ∧ hWt T0 H7) ∧ postb_219 n2 H6 H7) (f34 : n15 = 0) (f35 : n16 = 60) (f36 : n17 ≤ 9999) (f37 : 0 ≤ n17) (f38 : (hLe T0 H7 H8 ∧ hFr s_223.2.2.2.2 H7 H8 ∧ ((0 : Int) = 0 → H8.length = H7.length) ∧ hWt T0 H8) ∧ postb_223 n17 n2 n15 n16 H7 H8) (f39 : n18 = w32 (n10 * n17)) : Ab_229_88 n2 n1 n0 n2 n1 n0 n7 n18 H0 H8 ∧ ∀ q, none = some q → mub_229_88 n2 n1 n0 n2 n1 n0 n7 n18 H0 H8 < q := by
  unfold preb_229 at f5
  unfold postb_216 at f9
  unfold postb_219 at f11
  unfold postb_223 at f16
  unfold postb_216 at f20
  unfold postb_216 at f26
  unfold postb_216 at f31
  unfold postb_219 at f33
  unfold postb_223 at f38
  unfold Ab_229_88
  have e1 : hV H1 285 11 = hV H0 285 11 := (f9.1.2.1.1 285 11 kF_216_285_11)
  have e3 : hV H1 285 13 = hV H0 285 13 := (f9.1.2.1.1 285 13 kF_216_285_13)
  have e4 : hV H1 288 = hV H0 288 := fRow f9.1.2.1 288 kR_216_288
  have e7 : hV H2 285 15 = hV H0 285 15 := ((f11.1.2.1.1 285 15 kF_219_285_15)).trans (f9.1.2.1.1 285 15 kF_216_285_15)
  have e11 : hV H3 288 = hV H0 288 := (fRow f16.1.2.1 288 kR_223_288).trans ((fRow f11.1.2.1 288 kR_219_288).trans e4)
  have e13 : hV H4 285 11 = hV H3 285 11 := (f20.1.2.1.1 285 11 kF_216_285_11)
  have e15 : hV H4 285 13 = hV H3 285 13 := (f20.1.2.1.1 285 13 kF_216_285_13)
  have e17 : hV H4 288 = hV H0 288 := (fRow f20.1.2.1 288 kR_216_288).trans e11
  have e19 : hV H5 285 11 = hV H3 285 11 := ((f26.1.2.1.1 285 11 kF_216_285_11)).trans (f20.1.2.1.1 285 11 kF_216_285_11)
  have e21 : hV H5 285 13 = hV H3 285 13 := ((f26.1.2.1.1 285 13 kF_216_285_13)).trans (f20.1.2.1.1 285 13 kF_216_285_13)
  have e23 : hV H5 288 = hV H0 288 := (fRow f26.1.2.1 288 kR_216_288).trans e17
  have e25 : hV H6 285 11 = hV H3 285 11 := ((f31.1.2.1.1 285 11 kF_216_285_11)).trans (((f26.1.2.1.1 285 11 kF_216_285_11)).trans (f20.1.2.1.1 285 11 kF_216_285_11))
  have e27 : hV H6 285 13 = hV H3 285 13 := ((f31.1.2.1.1 285 13 kF_216_285_13)).trans (((f26.1.2.1.1 285 13 kF_216_285_13)).trans (f20.1.2.1.1 285 13 kF_216_285_13))
  have e29 : hV H6 288 = hV H0 288 := (fRow f31.1.2.1 288 kR_216_288).trans e23
  have e34 : hV H7 285 15 = hV H3 285 15 := ((f33.1.2.1.1 285 15 kF_219_285_15)).trans (((f31.1.2.1.1 285 15 kF_216_285_15)).trans (((f26.1.2.1.1 285 15 kF_216_285_15)).trans (f20.1.2.1.1 285 15 kF_216_285_15)))
  have e53 : hV H8 301 = hV H0 301 := (fRow f38.1.2.1 301 kR_223_301).trans ((fRow f33.1.2.1 301 kR_219_301).trans ((fRow f31.1.2.1 301 kR_216_301).trans ((fRow f26.1.2.1 301 kR_216_301).trans ((fRow f20.1.2.1 301 kR_216_301).trans ((fRow f16.1.2.1 301 kR_223_301).trans ((fRow f11.1.2.1 301 kR_219_301).trans (fRow f9.1.2.1 301 kR_216_301)))))))
  have e68 : hV H8 302 = hV H0 302 := (fRow f38.1.2.1 302 kR_223_302).trans ((fRow f33.1.2.1 302 kR_219_302).trans ((fRow f31.1.2.1 302 kR_216_302).trans ((fRow f26.1.2.1 302 kR_216_302).trans ((fRow f20.1.2.1 302 kR_216_302).trans ((fRow f16.1.2.1 302 kR_223_302).trans ((fRow f11.1.2.1 302 kR_219_302).trans (fRow f9.1.2.1 302 kR_216_302)))))))
  have e83 : hV H8 303 = hV H0 303 := (fRow f38.1.2.1 303 kR_223_303).trans ((fRow f33.1.2.1 303 kR_219_303).trans ((fRow f31.1.2.1 303 kR_216_303).trans ((fRow f26.1.2.1 303 kR_216_303).trans ((fRow f20.1.2.1 303 kR_216_303).trans ((fRow f16.1.2.1 303 kR_223_303).trans ((fRow f11.1.2.1 303 kR_219_303).trans (fRow f9.1.2.1 303 kR_216_303)))))))
  have e84 : PA H1 = PA H0 := PA_fr f9.1.2.1 (by decide +kernel)
  have e85 : PA H2 = PA H1 := PA_fr f11.1.2.1 (by decide +kernel)
  have e86 : PA H2 = PA H0 := e85.trans e84
  have e87 : PA H3 = PA H2 := PA_fr f16.1.2.1 (by decide +kernel)
  have e88 : PA H3 = PA H0 := e87.trans e86
  have e89 : PA H4 = PA H3 := PA_fr f20.1.2.1 (by decide +kernel)
  have e90 : PA H4 = PA H0 := e89.trans e88
  have e91 : PA H5 = PA H4 := PA_fr f26.1.2.1 (by decide +kernel)
  have e92 : PA H5 = PA H0 := e91.trans e90
  have e93 : PA H6 = PA H5 := PA_fr f31.1.2.1 (by decide +kernel)
  have e94 : PA H6 = PA H0 := e93.trans e92
  have e95 : PA H7 = PA H6 := PA_fr f33.1.2.1 (by decide +kernel)
  have e96 : PA H7 = PA H0 := e95.trans e94
  have e97 : PA H8 = PA H7 := PA_fr f38.1.2.1 (by decide +kernel)
  have e98 : PA H8 = PA H0 := e97.trans e96
  have e99 : PW H1 = PW H0 := PW_fr f9.1.2.1 (by decide +kernel)
  have e100 : PW H2 = PW H1 := PW_fr f11.1.2.1 (by decide +kernel)
  have e101 : PW H2 = PW H0 := e100.trans e99
  have e102 : PW H3 = PW H2 := PW_fr f16.1.2.1 (by decide +kernel)
  have e103 : PW H3 = PW H0 := e102.trans e101
  have e104 : PW H4 = PW H3 := PW_fr f20.1.2.1 (by decide +kernel)
  have e105 : PW H4 = PW H0 := e104.trans e103
  have e106 : PW H5 = PW H4 := PW_fr f26.1.2.1 (by decide +kernel)
  have e107 : PW H5 = PW H0 := e106.trans e105
  have e108 : PW H6 = PW H5 := PW_fr f31.1.2.1 (by decide +kernel)
  have e109 : PW H6 = PW H0 := e108.trans e107
  have e110 : PW H7 = PW H6 := PW_fr f33.1.2.1 (by decide +kernel)
  have e111 : PW H7 = PW H0 := e110.trans e109
  have e112 : PW H8 = PW H7 := PW_fr f38.1.2.1 (by decide +kernel)
  have e113 : PW H8 = PW H0 := e112.trans e111
  have e114 : (0 : Int) ≤ hV H0 285 11 ∧ hV H0 285 11 ≤ 500 := f5.1 285 11 _ _ kW_285_11
  have e115 : (0 : Int) ≤ hV H0 285 13 ∧ hV H0 285 13 ≤ 2 := f5.1 285 13 _ _ kW_285_13
  have e116 : (0 : Int) ≤ hV H0 285 15 ∧ hV H0 285 15 ≤ 6 := f5.1 285 15 _ _ kW_285_15
  have e117 : (0 : Int) ≤ hV H0 285 18 ∧ hV H0 285 18 ≤ 8 := f5.1 285 18 _ _ kW_285_18
  have e118 : (0 : Int) ≤ hV H0 285 32 ∧ hV H0 285 32 ≤ 7 := f5.1 285 32 _ _ kW_285_32
  have e119 : (0 : Int) ≤ hV H0 285 33 ∧ hV H0 285 33 ≤ 62 := f5.1 285 33 _ _ kW_285_33
  have e122 : (0 : Int) ≤ hV H2 285 11 ∧ hV H2 285 11 ≤ 500 := f11.1.2.2.2 285 11 _ _ kW_285_11
  have e123 : (0 : Int) ≤ hV H2 285 13 ∧ hV H2 285 13 ≤ 2 := f11.1.2.2.2 285 13 _ _ kW_285_13
  have e125 : (0 : Int) ≤ hV H3 285 11 ∧ hV H3 285 11 ≤ 500 := f16.1.2.2.2 285 11 _ _ kW_285_11
  have e126 : (0 : Int) ≤ hV H3 285 13 ∧ hV H3 285 13 ≤ 2 := f16.1.2.2.2 285 13 _ _ kW_285_13
  have e127 : (0 : Int) ≤ hV H3 285 15 ∧ hV H3 285 15 ≤ 6 := f16.1.2.2.2 285 15 _ _ kW_285_15
  have e134 : (0 : Int) ≤ hV H7 285 11 ∧ hV H7 285 11 ≤ 500 := f33.1.2.2.2 285 11 _ _ kW_285_11
  have e135 : (0 : Int) ≤ hV H7 285 13 ∧ hV H7 285 13 ≤ 2 := f33.1.2.2.2 285 13 _ _ kW_285_13
  have e137 : (0 : Int) ≤ hV H8 285 11 ∧ hV H8 285 11 ≤ 500 := f38.1.2.2.2 285 11 _ _ kW_285_11
  have e138 : (0 : Int) ≤ hV H8 285 13 ∧ hV H8 285 13 ≤ 2 := f38.1.2.2.2 285 13 _ _ kW_285_13
  have e139 : (0 : Int) ≤ hV H8 285 15 ∧ hV H8 285 15 ≤ 6 := f38.1.2.2.2 285 15 _ _ kW_285_15
  try simp only [e53, e68, e83, e98, e113]
  have p0 := f5.2.1
  have p1 := f5.2.2.1
  have p2 := f5.2.2.2.1
  have p3 := f5.2.2.2.2.1
  have p4 := f5.2.2.2.2.2.1
  have p5 := f5.2.2.2.2.2.2.1
  have p6 := f5.2.2.2.2.2.2.2.1
  have p7 := f5.2.2.2.2.2.2.2.2
  have r0_0 := f9.2.1
  have r0_1 := f9.2.2.resolve_right (fun z => f10 z.1)
  have r1_0 := f11.2.1
  have r1_1 := f11.2.2.1
  have r1_2 := f11.2.2.2.1
  have r1_3 := f11.2.2.2.2
  have r2_0 := f16.2.1
  have r2_1 := f16.2.2.1
  have r2_2 := f16.2.2.2.1
  have r2_3 := f16.2.2.2.2.1
  have r2_4 := f16.2.2.2.2.2.1
  have r2_5 := f16.2.2.2.2.2.2.1
  have r2_6 := f16.2.2.2.2.2.2.2.1
  have r3_0 := f20.2.1
  have r3_1 := f20.2.2.resolve_right (fun z => f21 z.1)
  have r4_0 := f26.2.1
  have r5_0 := f31.2.1
  have r5_1 := f31.2.2.resolve_right (fun z => f32 z.1)
  have r6_0 := f33.2.1
  have r6_1 := f33.2.2.1
  have r6_2 := f33.2.2.2.1
  have r6_3 := f33.2.2.2.2
  have r7_0 := f38.2.1
  have r7_1 := f38.2.2.1
  have r7_2 := f38.2.2.2.1
  have r7_3 := f38.2.2.2.2.1
  have r7_4 := f38.2.2.2.2.2.1
  have r7_5 := f38.2.2.2.2.2.2.1
  have r7_6 := f38.2.2.2.2.2.2.2.1
  try simp only [e3] at r0_0
  try simp only [e1, e3, e4] at r0_1
  try simp only [e1] at r1_0
  try simp only [e1] at r1_1
  try simp only [e3] at r1_2
  try simp only [e1] at r1_3
  try simp only [e7] at r2_4
  try simp only [e15] at r3_0
  try simp only [e11, e13, e15, e17] at r3_1
  try simp only [e21] at r4_0
  try simp only [e27] at r5_0
  try simp only [e19, e21, e23, e25, e27, e29] at r5_1
  try simp only [e25] at r6_0
  try simp only [e25] at r6_1
  try simp only [e27] at r6_2
  try simp only [e25] at r6_3
  try simp only [e34] at r7_4
  have wb0 := (p7 (hV H0 285 32).toNat).1
  have wp0 := (p7 (hV H0 285 33).toNat).2
  clear e1 e3 e4 e7 e11 e13 e15 e17 e19 e21 e23 e25 e27 e29 e34 e53 e68 e83 e84 e85 e86 e87 e88 e89 e90 e91 e92 e93 e94 e95 e96 e97 e98 e99 e100 e101 e102 e103 e104 e105 e106 e107 e108 e109 e110 e111 e112 e113
  clear f5 f9 f11 f16 f20 f26 f31 f33 f38
  rw [f22] at f39
  first
  | (have ix0 : n18 = -1 * n17 := Eq.trans f39 (w32_id (by omega) (by omega)); subst ix0; clear f39)
  | (unfold w32 at f39; have ix0 : n18 = -1 * n17 := (by omega); subst ix0)
  | skip
  try unfold w32 at f39

  refine ⟨⟨?_, ?_, ?_, ?_, ?_⟩, fun q hq => ?_⟩
  · first | exact True.intro | rfl | omega
  · first | exact True.intro | rfl | omega
  · exact p0
  · intro z1 z2
    exact p5 (by omega) (by omega)
  · (try clear p0 p5 p7)
    first
    | omega
    | (refine ⟨?_, ?_, ?_, ?_, ?_, ?_, ?_, ?_, ?_, ?_, ?_⟩ <;> first | exact True.intro | omega)
  · exact nomatch hq
def g_229_s_14 : vG := ([(3, [20, 12, 19], [], 0), (1223, [19, 0, 17, 18], [7, 8], 0), (90, [19], [], 0), (91, [19], [], 9999), (0, [18], [], 60), (0, [17], [], 0), (1219, [0], [6, 7], 0), (31, [16], [], 0), (1216, [16, 0, 15], [5, 6], 0), (90, [16], [], 0), (91, [16], [], 1), (0, [15], [], 9), (30, [14], [], 0), (1216, [14, 0, 13], [4, 5], 0), (90, [14], [], 0), (91, [14], [], 1), (0, [13], [], 8), (0, [12], [], -1), (31, [11], [], 0), (1216, [11, 0, 10], [3, 4], 0), (90, [11], [], 0), (91, [11], [], 1), (0, [10], [], 9), (1223, [9, 0, 7, 8], [2, 3], 0), (90, [9], [], 0), (91, [9], [], 9999), (0, [8], [], 7), (0, [7], [], 0), (1219, [0], [1, 2], 0), (31, [6], [], 0), (1216, [6, 0, 5], [0, 1], 0), (90, [6], [], 0), (91, [6], [], 1), (0, [5], [], 41), (6000, [0, 1, 2], [0], 0), (0, [0], [], 285), (90, [1], [], 0), (91, [1], [], 1007), (90, [2], [], 0), (91, [2], [], 1)], (4000, [0, 1, 2, 9, 20], [8], 88))
theorem c_229_s_14 : vOkm T0 (eP e_229 L_229 A_229 mu_229 none) 3 g_229_s_14 := vOk_inI fun ρ η f0 f1 f2 f3 f4 f5 f6 f7 f8 f9 f10 f11 f12 f13 f14 f15 f16 f17 f18 f19 f20 f21 f22 f23 f24 f25 f26 f27 f28 f29 f30 f31 f32 f33 f34 f35 f36 f37 f38 f39 => q_229_14 (n0 := ρ 2) (n1 := ρ 1) (n2 := ρ 0) (n3 := ρ 5) (n4 := ρ 6) (n5 := ρ 7) (n6 := ρ 8) (n7 := ρ 9) (n8 := ρ 10) (n9 := ρ 11) (n10 := ρ 12) (n11 := ρ 13) (n12 := ρ 14) (n13 := ρ 15) (n14 := ρ 16) (n15 := ρ 17) (n16 := ρ 18) (n17 := ρ 19) (n18 := ρ 20) (H0 := η 0) (H1 := η 1) (H2 := η 2) (H3 := η 3) (H4 := η 4) (H5 := η 5) (H6 := η 6) (H7 := η 7) (H8 := η 8) f39 f38 f37 f36 f35 f34 f33 f32 f31 f30 f29 f28 f27 f26 f25 f24 f23 f22 f21 f20 f19 f18 f17 f16 f15 f14 f13 f12 f11 f10 f9 f8 f7 f6 f5 f4 f3 f2 f1 f0
def p_229_s : List vG := [g_229_s_0,
  g_229_s_1,
  g_229_s_2,
  g_229_s_3,
  g_229_s_4,
  g_229_s_5,
  g_229_s_6,
  g_229_s_7,
  g_229_s_8,
  g_229_s_9,
  g_229_s_10,
  g_229_s_11,
  g_229_s_12,
  g_229_s_13,
  g_229_s_14]
theorem r_229_s : vCovO false (eR0 e_229 L_229 cs_229 2000) p_229_s = true := by decide +kernel
set_option maxHeartbeats 20000000 in
theorem kR_229_294 : vFreeR s_229.2.2.2.2 294 = true := by decide +kernel
theorem kR_229_296 : vFreeR s_229.2.2.2.2 296 = true := by decide +kernel
theorem kR_229_297 : vFreeR s_229.2.2.2.2 297 = true := by decide +kernel
theorem kR_229_298 : vFreeR s_229.2.2.2.2 298 = true := by decide +kernel
theorem kR_229_300 : vFreeR s_229.2.2.2.2 300 = true := by decide +kernel
theorem kR_229_305 : vFreeR s_229.2.2.2.2 305 = true := by decide +kernel
theorem kR_229_328 : vFreeR s_229.2.2.2.2 328 = true := by decide +kernel
theorem kR_229_332 : vFreeR s_229.2.2.2.2 332 = true := by decide +kernel
theorem kR_229_335 : vFreeR s_229.2.2.2.2 335 = true := by decide +kernel
theorem kF_229_285_18 : vFree s_229.2.2.2.2 285 18 = true := by decide +kernel
theorem kF_229_285_32 : vFree s_229.2.2.2.2 285 32 = true := by decide +kernel
theorem kF_229_285_33 : vFree s_229.2.2.2.2 285 33 = true := by decide +kernel
theorem kF_229_285_64 : vFree s_229.2.2.2.2 285 64 = true := by decide +kernel
theorem q_229_15 {q0 : Nat} {n0 n1 n2 n3 n4 n5 n6 n7 n8 n9 : Int} {H0 H1 H2 H3 : gH} (f0 : n0 ≤ 9999) (f1 : (-9999) ≤ n0) (f2 : n1 ≤ 9999) (f3 : (-1) ≤ n1) (f4 : n2 ≤ 1) (f5 : 0 ≤ n2) (f6 : n3 ≤ 1007) (f7 : 0 ≤ n3) (f8 : n4 = 285) (f9 : n5 ≤ 1) (f10 : 0 ≤ n5) (f11 : n6 ≤ 1007) (f12 : 0 ≤ n6) (f13 : n7 = 285) (f14 : (hLe T0 H0 H1 ∧ hFr s_229.2.2.2.2 H0 H1 ∧ hWt T0 H1) ∧ (Ab_229_88 n7 n6 n5 n4 n3 n2 n1 n0 H0 H1 ∧ preb_229 n7 n6 n5 H0) ∧ some q0 = some (mub_229_88 n7 n6 n5 n4 n3 n2 n1 n0 H0 H1)) (f15 : n2 = 0) (f16 : n8 = 301) (f17 : n8 = hV H1 (n4).toNat 27) (f18 : hUpd H2 H1 n8 n3 n1) (f19 : n9 = 302) (f20 : n9 = hV H2 (n4).toNat 28) (f21 : hUpd H3 H2 n9 n3 n0) : postb_229 n7 n6 n5 H0 H3 := by
  have g4 := f14.2.1.1
  unfold Ab_229_88 at g4
  have g3 := f14.2.1.2
  unfold preb_229 at g3
  unfold postb_229
  have e1 : hV H1 285 18 = hV H0 285 18 := (f14.1.2.1.1 285 18 kF_229_285_18)
  have e3 : hV H1 285 32 = hV H0 285 32 := (f14.1.2.1.1 285 32 kF_229_285_32)
  have e5 : hV H1 285 33 = hV H0 285 33 := (f14.1.2.1.1 285 33 kF_229_285_33)
  have e7 : hV H1 285 64 = hV H0 285 64 := (f14.1.2.1.1 285 64 kF_229_285_64)
  have e8 : hV H1 294 = hV H0 294 := fRow f14.1.2.1 294 kR_229_294
  have e9 : hV H1 296 = hV H0 296 := fRow f14.1.2.1 296 kR_229_296
  have e10 : hV H1 297 = hV H0 297 := fRow f14.1.2.1 297 kR_229_297
  have e11 : hV H1 298 = hV H0 298 := fRow f14.1.2.1 298 kR_229_298
  have e12 : hV H1 300 = hV H0 300 := fRow f14.1.2.1 300 kR_229_300
  have e13 : hV H1 305 = hV H0 305 := fRow f14.1.2.1 305 kR_229_305
  have e14 : hV H1 328 = hV H0 328 := fRow f14.1.2.1 328 kR_229_328
  have e15 : hV H1 332 = hV H0 332 := fRow f14.1.2.1 332 kR_229_332
  have e16 : hV H1 335 = hV H0 335 := fRow f14.1.2.1 335 kR_229_335
  have e19 : hV H3 285 11 = hV H1 285 11 := ((uPlace f21 285 11 (iS (show n9 = ((302 : Nat) : Int) from f19) rfl))).trans (uPlace f18 285 11 (iS (show n8 = ((301 : Nat) : Int) from f16) rfl))
  have e22 : hV H3 285 13 = hV H1 285 13 := ((uPlace f21 285 13 (iS (show n9 = ((302 : Nat) : Int) from f19) rfl))).trans (uPlace f18 285 13 (iS (show n8 = ((301 : Nat) : Int) from f16) rfl))
  have e25 : hV H3 285 15 = hV H1 285 15 := ((uPlace f21 285 15 (iS (show n9 = ((302 : Nat) : Int) from f19) rfl))).trans (uPlace f18 285 15 (iS (show n8 = ((301 : Nat) : Int) from f16) rfl))
  have e28 : hV H3 285 18 = hV H0 285 18 := ((uPlace f21 285 18 (iS (show n9 = ((302 : Nat) : Int) from f19) rfl))).trans (((uPlace f18 285 18 (iS (show n8 = ((301 : Nat) : Int) from f16) rfl))).trans (f14.1.2.1.1 285 18 kF_229_285_18))
  have e31 : hV H3 285 32 = hV H0 285 32 := ((uPlace f21 285 32 (iS (show n9 = ((302 : Nat) : Int) from f19) rfl))).trans (((uPlace f18 285 32 (iS (show n8 = ((301 : Nat) : Int) from f16) rfl))).trans (f14.1.2.1.1 285 32 kF_229_285_32))
  have e34 : hV H3 285 33 = hV H0 285 33 := ((uPlace f21 285 33 (iS (show n9 = ((302 : Nat) : Int) from f19) rfl))).trans (((uPlace f18 285 33 (iS (show n8 = ((301 : Nat) : Int) from f16) rfl))).trans (f14.1.2.1.1 285 33 kF_229_285_33))
  have e37 : hV H3 285 64 = hV H0 285 64 := ((uPlace f21 285 64 (iS (show n9 = ((302 : Nat) : Int) from f19) rfl))).trans (((uPlace f18 285 64 (iS (show n8 = ((301 : Nat) : Int) from f16) rfl))).trans (f14.1.2.1.1 285 64 kF_229_285_64))
  have e41 : hV H3 294 = hV H0 294 := (uRowNe f21 294 (iS (show n9 = ((302 : Nat) : Int) from f19) rfl)).trans ((uRowNe f18 294 (iS (show n8 = ((301 : Nat) : Int) from f16) rfl)).trans e8)
  have e45 : hV H3 296 = hV H0 296 := (uRowNe f21 296 (iS (show n9 = ((302 : Nat) : Int) from f19) rfl)).trans ((uRowNe f18 296 (iS (show n8 = ((301 : Nat) : Int) from f16) rfl)).trans e9)
  have e49 : hV H3 297 = hV H0 297 := (uRowNe f21 297 (iS (show n9 = ((302 : Nat) : Int) from f19) rfl)).trans ((uRowNe f18 297 (iS (show n8 = ((301 : Nat) : Int) from f16) rfl)).trans e10)
  have e53 : hV H3 298 = hV H0 298 := (uRowNe f21 298 (iS (show n9 = ((302 : Nat) : Int) from f19) rfl)).trans ((uRowNe f18 298 (iS (show n8 = ((301 : Nat) : Int) from f16) rfl)).trans e11)
  have e57 : hV H3 300 = hV H0 300 := (uRowNe f21 300 (iS (show n9 = ((302 : Nat) : Int) from f19) rfl)).trans ((uRowNe f18 300 (iS (show n8 = ((301 : Nat) : Int) from f16) rfl)).trans e12)
  have e60 : hV H3 301 = (uF (hV H1 301) n3 n1) := (uRowNe f21 301 (iS (show n9 = ((302 : Nat) : Int) from f19) rfl)).trans (uRow f18 301 f16.symm)
  have e63 : hV H3 302 = (uF (hV H1 302) n3 n0) := (uRow f21 302 f19.symm).trans (congrArg (fun z => uF z n3 n0) (uRowNe f18 302 (iS (show n8 = ((301 : Nat) : Int) from f16) rfl)))
  have e66 : hV H3 303 = hV H1 303 := (uRowNe f21 303 (iS (show n9 = ((302 : Nat) : Int) from f19) rfl)).trans (uRowNe f18 303 (iS (show n8 = ((301 : Nat) : Int) from f16) rfl))
  have e70 : hV H3 305 = hV H0 305 := (uRowNe f21 305 (iS (show n9 = ((302 : Nat) : Int) from f19) rfl)).trans ((uRowNe f18 305 (iS (show n8 = ((301 : Nat) : Int) from f16) rfl)).trans e13)
  have e74 : hV H3 328 = hV H0 328 := (uRowNe f21 328 (iS (show n9 = ((302 : Nat) : Int) from f19) rfl)).trans ((uRowNe f18 328 (iS (show n8 = ((301 : Nat) : Int) from f16) rfl)).trans e14)
  have e78 : hV H3 332 = hV H0 332 := (uRowNe f21 332 (iS (show n9 = ((302 : Nat) : Int) from f19) rfl)).trans ((uRowNe f18 332 (iS (show n8 = ((301 : Nat) : Int) from f16) rfl)).trans e15)
  have e82 : hV H3 335 = hV H0 335 := (uRowNe f21 335 (iS (show n9 = ((302 : Nat) : Int) from f19) rfl)).trans ((uRowNe f18 335 (iS (show n8 = ((301 : Nat) : Int) from f16) rfl)).trans e16)
  have e83 : (0 : Int) ≤ hV H1 285 11 ∧ hV H1 285 11 ≤ 500 := f14.1.2.2 285 11 _ _ kW_285_11
  have e84 : (0 : Int) ≤ hV H1 285 13 ∧ hV H1 285 13 ≤ 2 := f14.1.2.2 285 13 _ _ kW_285_13
  have e85 : (0 : Int) ≤ hV H1 285 15 ∧ hV H1 285 15 ≤ 6 := f14.1.2.2 285 15 _ _ kW_285_15
  have e86 : (0 : Int) ≤ hV H0 285 18 ∧ hV H0 285 18 ≤ 8 := bTo e1 (f14.1.2.2 285 18 _ _ kW_285_18)
  have e87 : (0 : Int) ≤ hV H0 285 32 ∧ hV H0 285 32 ≤ 7 := bTo e3 (f14.1.2.2 285 32 _ _ kW_285_32)
  have e88 : (0 : Int) ≤ hV H0 285 33 ∧ hV H0 285 33 ≤ 62 := bTo e5 (f14.1.2.2 285 33 _ _ kW_285_33)
  have e89 : (0 : Int) ≤ hV H0 285 64 ∧ hV H0 285 64 ≤ 20 := bTo e7 (f14.1.2.2 285 64 _ _ kW_285_64)
  try simp only [PA, PW]
  try simp only [e19, e22, e25, e28, e31, e34, e37, e41, e45, e49, e53, e57, e60, e63, e66, e70, e74, e78, e82]
  have k0 := g4.1
  have k1 := g4.2.1
  have y0 := g4.2.2.1
  have y1 := g4.2.2.2.1
  have y2 := g4.2.2.2.2.1
  have y3 := g4.2.2.2.2.2.1
  have y4 := g4.2.2.2.2.2.2.1
  have y5 := g4.2.2.2.2.2.2.2.1
  have y6 := g4.2.2.2.2.2.2.2.2.1
  have y7 := g4.2.2.2.2.2.2.2.2.2.1
  have y8 := g4.2.2.2.2.2.2.2.2.2.2.1
  have y9 := g4.2.2.2.2.2.2.2.2.2.2.2.1
  have y10 := g4.2.2.2.2.2.2.2.2.2.2.2.2.1
  have y11 := g4.2.2.2.2.2.2.2.2.2.2.2.2.2.1
  have y12 := g4.2.2.2.2.2.2.2.2.2.2.2.2.2.2
  have p0 := g3.1
  have p1 := g3.2.1
  have p2 := g3.2.2.1
  have p3 := g3.2.2.2.1
  have p4 := g3.2.2.2.2.1
  have p5 := g3.2.2.2.2.2.1
  have p6 := g3.2.2.2.2.2.2.1
  have p7 := g3.2.2.2.2.2.2.2
  try simp only [PA] at y0
  try simp only [PW] at y1
  try simp only [PA] at p0
  try simp only [PW] at p5
  try simp only [e1, e7, e8, e9, e11, e12, e13, e14, e15, e16] at y0
  try simp only [e3, e5, e8, e9, e10, e11, e12, e13] at y1
  clear g3
  clear g4
  have wb0 := (p7 (hV H0 285 32).toNat).1
  have wp0 := (p7 (hV H0 285 33).toNat).2
  try simp only [e1, e3, e5, e7, e8, e9, e10, e11, e12, e13, e14, e15, e16] at wb0
  try simp only [e1, e3, e5, e7, e8, e9, e10, e11, e12, e13, e14, e15, e16] at wp0
  clear f17 f20 e1 e3 e5 e7 e8 e9 e10 e11 e12 e13 e14 e15 e16 e19 e22 e25 e28 e31 e34 e37 e41 e45 e49 e53 e57 e60 e63 e66 e70 e74 e78 e82
  clear f14

  refine ⟨?_, ?_, ?_, ?_, ?_, ?_, ?_, ?_, ?_⟩
  · refine PA_ca ?_ (by omega)
    refine PA_cm ?_ (by omega)
    exact y0
  · intro z1 z2
    refine PW_ca ?_ (by omega) (by omega) (by omega) (by omega)
    refine PW_cm ?_ (by omega) (by omega) (by omega) (by omega)
    exact y1 (by omega) (by omega)
  · (try clear y0 y1 p0 p5 p7)
    first | exact True.intro | omega
  · (try clear y0 y1 p0 p5 p7)
    first | exact True.intro | omega
  · (try clear y0 y1 p0 p5 p7)
    first | exact True.intro | omega
  · (try clear y0 y1 p0 p5 p7)
    first | exact True.intro | omega
  · (try clear y0 y1 p0 p5 p7)
    first | exact True.intro | omega
  · (try clear y0 y1 p0 p5 p7)
    first | (simp only [uF_at]; omega) | omega
  · (try clear y0 y1 p0 p5 p7)
    first | (simp only [uF_at]; omega) | omega

def g_229_88_0 : vG := ([(80, [9, 4, 7], [3, 2], 0), (20, [9, 3], [2], 28), (0, [9], [], 302), (80, [8, 4, 6], [2, 1], 0), (20, [8, 3], [1], 27), (0, [8], [], 301), (30, [5], [], 0), (5000, [0, 1, 2, 3, 4, 5, 6, 7], [0, 1], 88), (0, [0], [], 285), (90, [1], [], 0), (91, [1], [], 1007), (90, [2], [], 0), (91, [2], [], 1), (0, [3], [], 285), (90, [4], [], 0), (91, [4], [], 1007), (90, [5], [], 0), (91, [5], [], 1), (90, [6], [], -1), (91, [6], [], 9999), (90, [7], [], -9999), (91, [7], [], 9999)], (3000, [], [3], 125))
theorem c_229_88_0 {q0 : Nat} : vOkm T0 (eP e_229 L_229 A_229 mu_229 (some q0)) 3 g_229_88_0 := vOk_inI fun ρ η f0 f1 f2 f3 f4 f5 f6 f7 f8 f9 f10 f11 f12 f13 f14 f15 f16 f17 f18 f19 f20 f21 => q_229_15 (q0 := q0) (n0 := ρ 7) (n1 := ρ 6) (n2 := ρ 5) (n3 := ρ 4) (n4 := ρ 3) (n5 := ρ 2) (n6 := ρ 1) (n7 := ρ 0) (n8 := ρ 8) (n9 := ρ 9) (H0 := η 0) (H1 := η 1) (H2 := η 2) (H3 := η 3) f21 f20 f19 f18 f17 f16 f15 f14 f13 f12 f11 f10 f9 f8 f7 f6 f5 f4 f3 f2 f1 f0
set_option maxHeartbeats 20000000 in
theorem q_229_16 {q0 : Nat} {n0 n1 n2 n3 n4 n5 n6 n7 n8 n9 : Int} {H0 H1 H2 H3 : gH} (f0 : n0 ≤ 9999) (f1 : (-9999) ≤ n0) (f2 : n1 ≤ 9999) (f3 : (-1) ≤ n1) (f4 : n2 ≤ 1) (f5 : 0 ≤ n2) (f6 : n3 ≤ 1007) (f7 : 0 ≤ n3) (f8 : n4 = 285) (f9 : n5 ≤ 1) (f10 : 0 ≤ n5) (f11 : n6 ≤ 1007) (f12 : 0 ≤ n6) (f13 : n7 = 285) (f14 : (hLe T0 H0 H1 ∧ hFr s_229.2.2.2.2 H0 H1 ∧ hWt T0 H1) ∧ (Ab_229_88 n7 n6 n5 n4 n3 n2 n1 n0 H0 H1 ∧ preb_229 n7 n6 n5 H0) ∧ some q0 = some (mub_229_88 n7 n6 n5 n4 n3 n2 n1 n0 H0 H1)) (f15 : n2 ≠ 0) (f16 : n8 = 303) (f17 : n8 = hV H1 (n4).toNat 29) (f18 : hUpd H2 H1 n8 n3 n1) (f19 : n9 = 304) (f20 : n9 = hV H2 (n4).toNat 30) (f21 : hUpd H3 H2 n9 n3 n0) : postb_229 n7 n6 n5 H0 H3 := by
  have g4 := f14.2.1.1
  unfold Ab_229_88 at g4
  have g3 := f14.2.1.2
  unfold preb_229 at g3
  unfold postb_229
  have e1 : hV H1 285 18 = hV H0 285 18 := (f14.1.2.1.1 285 18 kF_229_285_18)
  have e3 : hV H1 285 32 = hV H0 285 32 := (f14.1.2.1.1 285 32 kF_229_285_32)
  have e5 : hV H1 285 33 = hV H0 285 33 := (f14.1.2.1.1 285 33 kF_229_285_33)
  have e7 : hV H1 285 64 = hV H0 285 64 := (f14.1.2.1.1 285 64 kF_229_285_64)
  have e8 : hV H1 294 = hV H0 294 := fRow f14.1.2.1 294 kR_229_294
  have e9 : hV H1 296 = hV H0 296 := fRow f14.1.2.1 296 kR_229_296
  have e10 : hV H1 297 = hV H0 297 := fRow f14.1.2.1 297 kR_229_297
  have e11 : hV H1 298 = hV H0 298 := fRow f14.1.2.1 298 kR_229_298
  have e12 : hV H1 300 = hV H0 300 := fRow f14.1.2.1 300 kR_229_300
  have e13 : hV H1 305 = hV H0 305 := fRow f14.1.2.1 305 kR_229_305
  have e14 : hV H1 328 = hV H0 328 := fRow f14.1.2.1 328 kR_229_328
  have e15 : hV H1 332 = hV H0 332 := fRow f14.1.2.1 332 kR_229_332
  have e16 : hV H1 335 = hV H0 335 := fRow f14.1.2.1 335 kR_229_335
  have e19 : hV H3 285 11 = hV H1 285 11 := ((uPlace f21 285 11 (iS (show n9 = ((304 : Nat) : Int) from f19) rfl))).trans (uPlace f18 285 11 (iS (show n8 = ((303 : Nat) : Int) from f16) rfl))
  have e22 : hV H3 285 13 = hV H1 285 13 := ((uPlace f21 285 13 (iS (show n9 = ((304 : Nat) : Int) from f19) rfl))).trans (uPlace f18 285 13 (iS (show n8 = ((303 : Nat) : Int) from f16) rfl))
  have e25 : hV H3 285 15 = hV H1 285 15 := ((uPlace f21 285 15 (iS (show n9 = ((304 : Nat) : Int) from f19) rfl))).trans (uPlace f18 285 15 (iS (show n8 = ((303 : Nat) : Int) from f16) rfl))
  have e28 : hV H3 285 18 = hV H0 285 18 := ((uPlace f21 285 18 (iS (show n9 = ((304 : Nat) : Int) from f19) rfl))).trans (((uPlace f18 285 18 (iS (show n8 = ((303 : Nat) : Int) from f16) rfl))).trans (f14.1.2.1.1 285 18 kF_229_285_18))
  have e31 : hV H3 285 32 = hV H0 285 32 := ((uPlace f21 285 32 (iS (show n9 = ((304 : Nat) : Int) from f19) rfl))).trans (((uPlace f18 285 32 (iS (show n8 = ((303 : Nat) : Int) from f16) rfl))).trans (f14.1.2.1.1 285 32 kF_229_285_32))
  have e34 : hV H3 285 33 = hV H0 285 33 := ((uPlace f21 285 33 (iS (show n9 = ((304 : Nat) : Int) from f19) rfl))).trans (((uPlace f18 285 33 (iS (show n8 = ((303 : Nat) : Int) from f16) rfl))).trans (f14.1.2.1.1 285 33 kF_229_285_33))
  have e37 : hV H3 285 64 = hV H0 285 64 := ((uPlace f21 285 64 (iS (show n9 = ((304 : Nat) : Int) from f19) rfl))).trans (((uPlace f18 285 64 (iS (show n8 = ((303 : Nat) : Int) from f16) rfl))).trans (f14.1.2.1.1 285 64 kF_229_285_64))
  have e41 : hV H3 294 = hV H0 294 := (uRowNe f21 294 (iS (show n9 = ((304 : Nat) : Int) from f19) rfl)).trans ((uRowNe f18 294 (iS (show n8 = ((303 : Nat) : Int) from f16) rfl)).trans e8)
  have e45 : hV H3 296 = hV H0 296 := (uRowNe f21 296 (iS (show n9 = ((304 : Nat) : Int) from f19) rfl)).trans ((uRowNe f18 296 (iS (show n8 = ((303 : Nat) : Int) from f16) rfl)).trans e9)
  have e49 : hV H3 297 = hV H0 297 := (uRowNe f21 297 (iS (show n9 = ((304 : Nat) : Int) from f19) rfl)).trans ((uRowNe f18 297 (iS (show n8 = ((303 : Nat) : Int) from f16) rfl)).trans e10)
  have e53 : hV H3 298 = hV H0 298 := (uRowNe f21 298 (iS (show n9 = ((304 : Nat) : Int) from f19) rfl)).trans ((uRowNe f18 298 (iS (show n8 = ((303 : Nat) : Int) from f16) rfl)).trans e11)
  have e57 : hV H3 300 = hV H0 300 := (uRowNe f21 300 (iS (show n9 = ((304 : Nat) : Int) from f19) rfl)).trans ((uRowNe f18 300 (iS (show n8 = ((303 : Nat) : Int) from f16) rfl)).trans e12)
  have e60 : hV H3 301 = hV H1 301 := (uRowNe f21 301 (iS (show n9 = ((304 : Nat) : Int) from f19) rfl)).trans (uRowNe f18 301 (iS (show n8 = ((303 : Nat) : Int) from f16) rfl))
  have e63 : hV H3 302 = hV H1 302 := (uRowNe f21 302 (iS (show n9 = ((304 : Nat) : Int) from f19) rfl)).trans (uRowNe f18 302 (iS (show n8 = ((303 : Nat) : Int) from f16) rfl))
  have e66 : hV H3 303 = (uF (hV H1 303) n3 n1) := (uRowNe f21 303 (iS (show n9 = ((304 : Nat) : Int) from f19) rfl)).trans (uRow f18 303 f16.symm)
  have e70 : hV H3 305 = hV H0 305 := (uRowNe f21 305 (iS (show n9 = ((304 : Nat) : Int) from f19) rfl)).trans ((uRowNe f18 305 (iS (show n8 = ((303 : Nat) : Int) from f16) rfl)).trans e13)
  have e74 : hV H3 328 = hV H0 328 := (uRowNe f21 328 (iS (show n9 = ((304 : Nat) : Int) from f19) rfl)).trans ((uRowNe f18 328 (iS (show n8 = ((303 : Nat) : Int) from f16) rfl)).trans e14)
  have e78 : hV H3 332 = hV H0 332 := (uRowNe f21 332 (iS (show n9 = ((304 : Nat) : Int) from f19) rfl)).trans ((uRowNe f18 332 (iS (show n8 = ((303 : Nat) : Int) from f16) rfl)).trans e15)
  have e82 : hV H3 335 = hV H0 335 := (uRowNe f21 335 (iS (show n9 = ((304 : Nat) : Int) from f19) rfl)).trans ((uRowNe f18 335 (iS (show n8 = ((303 : Nat) : Int) from f16) rfl)).trans e16)
  have e83 : (0 : Int) ≤ hV H1 285 11 ∧ hV H1 285 11 ≤ 500 := f14.1.2.2 285 11 _ _ kW_285_11
  have e84 : (0 : Int) ≤ hV H1 285 13 ∧ hV H1 285 13 ≤ 2 := f14.1.2.2 285 13 _ _ kW_285_13
  have e85 : (0 : Int) ≤ hV H1 285 15 ∧ hV H1 285 15 ≤ 6 := f14.1.2.2 285 15 _ _ kW_285_15
  have e86 : (0 : Int) ≤ hV H0 285 18 ∧ hV H0 285 18 ≤ 8 := bTo e1 (f14.1.2.2 285 18 _ _ kW_285_18)
  have e87 : (0 : Int) ≤ hV H0 285 32 ∧ hV H0 285 32 ≤ 7 := bTo e3 (f14.1.2.2 285 32 _ _ kW_285_32)
  have e88 : (0 : Int) ≤ hV H0 285 33 ∧ hV H0 285 33 ≤ 62 := bTo e5 (f14.1.2.2 285 33 _ _ kW_285_33)
  have e89 : (0 : Int) ≤ hV H0 285 64 ∧ hV H0 285 64 ≤ 20 := bTo e7 (f14.1.2.2 285 64 _ _ kW_285_64)
  try simp only [PA, PW]
  try simp only [e19, e22, e25, e28, e31, e34, e37, e41, e45, e49, e53, e57, e60, e63, e66, e70, e74, e78, e82]
  have k0 := g4.1
  have k1 := g4.2.1
  have y0 := g4.2.2.1
  have y1 := g4.2.2.2.1
  have y2 := g4.2.2.2.2.1
  have y3 := g4.2.2.2.2.2.1
  have y4 := g4.2.2.2.2.2.2.1
  have y5 := g4.2.2.2.2.2.2.2.1
  have y6 := g4.2.2.2.2.2.2.2.2.1
  have y7 := g4.2.2.2.2.2.2.2.2.2.1
  have y8 := g4.2.2.2.2.2.2.2.2.2.2.1
  have y9 := g4.2.2.2.2.2.2.2.2.2.2.2.1
  have y10 := g4.2.2.2.2.2.2.2.2.2.2.2.2.1
  have y11 := g4.2.2.2.2.2.2.2.2.2.2.2.2.2.1
  have y12 := g4.2.2.2.2.2.2.2.2.2.2.2.2.2.2
  have p0 := g3.1
  have p1 := g3.2.1
  have p2 := g3.2.2.1
  have p3 := g3.2.2.2.1
  have p4 := g3.2.2.2.2.1
  have p5 := g3.2.2.2.2.2.1
  have p6 := g3.2.2.2.2.2.2.1
  have p7 := g3.2.2.2.2.2.2.2
  try simp only [PA] at y0
  try simp only [PW] at y1
  try simp only [PA] at p0
  try simp only [PW] at p5
  try simp only [e1, e7, e8, e9, e11, e12, e13, e14, e15, e16] at y0
  try simp only [e3, e5, e8, e9, e10, e11, e12, e13] at y1
  clear g3
  clear g4
  have wb0 := (p7 (hV H0 285 32).toNat).1
  have wp0 := (p7 (hV H0 285 33).toNat).2
  try simp only [e1, e3, e5, e7, e8, e9, e10, e11, e12, e13, e14, e15, e16] at wb0
  try simp only [e1, e3, e5, e7, e8, e9, e10, e11, e12, e13, e14, e15, e16] at wp0
  clear f17 f20 e1 e3 e5 e7 e8 e9 e10 e11 e12 e13 e14 e15 e16 e19 e22 e25 e28 e31 e34 e37 e41 e45 e49 e53 e57 e60 e63 e66 e70 e74 e78 e82
  clear f14

  refine ⟨?_, ?_, ?_, ?_, ?_, ?_, ?_, ?_, ?_⟩
  · refine PA_cmt ?_ (by omega)
    exact y0
  · intro z1 z2
    refine PW_cmt ?_ (by omega) (by omega) (by omega) (by omega)
    exact y1 (by omega) (by omega)
  · (try clear y0 y1 p0 p5 p7)
    first | exact True.intro | omega
  · (try clear y0 y1 p0 p5 p7)
    first | exact True.intro | omega
  · (try clear y0 y1 p0 p5 p7)
    first | exact True.intro | omega
  · (try clear y0 y1 p0 p5 p7)
    first | exact True.intro | omega
  · (try clear y0 y1 p0 p5 p7)
    first | exact True.intro | omega
  · (try clear y0 y1 p0 p5 p7)
    first | (simp only [uF_at]; omega) | omega
  · (try clear y0 y1 p0 p5 p7)
    first | (simp only [uF_at]; omega) | omega

def g_229_88_1 : vG := ([(80, [9, 4, 7], [3, 2], 0), (20, [9, 3], [2], 30), (0, [9], [], 304), (80, [8, 4, 6], [2, 1], 0), (20, [8, 3], [1], 29), (0, [8], [], 303), (31, [5], [], 0), (5000, [0, 1, 2, 3, 4, 5, 6, 7], [0, 1], 88), (0, [0], [], 285), (90, [1], [], 0), (91, [1], [], 1007), (90, [2], [], 0), (91, [2], [], 1), (0, [3], [], 285), (90, [4], [], 0), (91, [4], [], 1007), (90, [5], [], 0), (91, [5], [], 1), (90, [6], [], -1), (91, [6], [], 9999), (90, [7], [], -9999), (91, [7], [], 9999)], (3000, [], [3], 125))
theorem c_229_88_1 {q0 : Nat} : vOkm T0 (eP e_229 L_229 A_229 mu_229 (some q0)) 3 g_229_88_1 := vOk_inI fun ρ η f0 f1 f2 f3 f4 f5 f6 f7 f8 f9 f10 f11 f12 f13 f14 f15 f16 f17 f18 f19 f20 f21 => q_229_16 (q0 := q0) (n0 := ρ 7) (n1 := ρ 6) (n2 := ρ 5) (n3 := ρ 4) (n4 := ρ 3) (n5 := ρ 2) (n6 := ρ 1) (n7 := ρ 0) (n8 := ρ 8) (n9 := ρ 9) (H0 := η 0) (H1 := η 1) (H2 := η 2) (H3 := η 3) f21 f20 f19 f18 f17 f16 f15 f14 f13 f12 f11 f10 f9 f8 f7 f6 f5 f4 f3 f2 f1 f0
def p_229_88 : List vG := [g_229_88_0,
  g_229_88_1]
theorem r_229_88 : vCovO false (eRc e_229 L_229 cs_229 2000 (88, [(0, (3, 12, 285, 0)), (1, (0, 0, 1007, 0)), (2, (0, 0, 1, 0)), (3, (0, -1, 9999, 0)), (4, (0, -9999, 9999, 0))])) p_229_88 = true := by decide +kernel
theorem m_229 (d : Nat) : eC e_229 (d + 5) := eC_ok (e := e_229) (L := L_229) (cs := cs_229) (n := 2000) (d := d + 4) (A := A_229) (μ := mu_229) (tp := false) (p0 := p_229_s) rfl ⟨m_216 (d + 3), ⟨m_219 (d + 2), ⟨m_223 d, trivial⟩⟩⟩ rfl (.inl rfl) (by decide +kernel) (fun z => nomatch z) r_229_s (allC c_229_s_0 (allC c_229_s_1 (allC c_229_s_2 (allC c_229_s_3 (allC c_229_s_4 (allC c_229_s_5 (allC c_229_s_6 (allC c_229_s_7 (allC c_229_s_8 (allC c_229_s_9 (allC c_229_s_10 (allC c_229_s_11 (allC c_229_s_12 (allC c_229_s_13 (allC c_229_s_14 allN))))))))))))))) (allC (.inl ⟨p_229_88, r_229_88, fun q0 => (allC c_229_88_0 (allC c_229_88_1 allN))⟩) allN)
