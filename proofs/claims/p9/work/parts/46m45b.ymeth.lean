/-! CONTRACTS of methods (printed by wip/gen/emit.py). -/
/- MixStageModel.fader (II)I -/
noncomputable def s_275 : vM := ([(3, 12, 285, 0), (0, 0, 2, 0), (0, 0, 240, 0)], (0, -2147483648, 2147483647, 0), 1, 0, [])
def preb_275 (a0 a1 a2 : Int) (h : gH) : Prop := XQ h
def pre_275 : List Int → gH → Prop := fun xs h => match xs with
  | [a0, a1, a2] => preb_275 a0 a1 a2 h
  | _ => False
noncomputable def e_275 : vE := (275, s_275, pre_275, post0)
noncomputable def L_275 : List vE := [e_271, e_272]
def cs_275 : List vC := [(5, [(0, (3, 12, 285, 0)), (1, (0, 0, 2, 0)), (2, (0, 0, 240, 0)), (3, (0, -1, 39, 0)), (4, (0, 0, 40, 0))])]
def Ab_275_5 (a0 a1 a2 x0 x1 x2 x3 x4 : Int) (h0 h : gH) : Prop := x1 = a1 ∧ x2 = a2 ∧ (x3 = -1 ∨ (x3 < hV h 285 82 ∧ hV h 298 ((hV h 344 ((x3).toNat)).toNat) = 1))
def mub_275_5 (a0 a1 a2 x0 x1 x2 x3 x4 : Int) (h0 h : gH) : Nat := (2147483648 - x4).toNat
def A_275 : Int → List Int → gH → gH → Prop := fun c xs h0 h => match c.toNat with
  | 5 => (match xs with
    | [a0, a1, a2, x0, x1, x2, x3, x4] => Ab_275_5 a0 a1 a2 x0 x1 x2 x3 x4 h0 h
    | _ => False)
  | _ => True
def mu_275 : Int → List Int → gH → gH → Nat := fun c xs h0 h => match c.toNat with
  | 5 => (match xs with
    | [a0, a1, a2, x0, x1, x2, x3, x4] => mub_275_5 a0 a1 a2 x0 x1 x2 x3 x4 h0 h
    | _ => 0)
  | _ => 0
theorem q_275_0 {n0 n1 n2 n3 n4 : Int} {H0 : gH} (f0 : n0 ≤ 240) (f1 : 0 ≤ n0) (f2 : n1 ≤ 2) (f3 : 0 ≤ n1) (f4 : n2 = 285) (f5 : hWt T0 H0 ∧ preb_275 n2 n1 n0 H0) (f6 : n3 = (-1)) (f7 : n4 = 0) : Ab_275_5 n2 n1 n0 n2 n1 n0 n3 n4 H0 H0 ∧ ∀ q, none = some q → mub_275_5 n2 n1 n0 n2 n1 n0 n3 n4 H0 H0 < q := by
  unfold preb_275 at f5
  unfold Ab_275_5
  have e0 : (0 : Int) ≤ hV H0 285 82 ∧ hV H0 285 82 ≤ 40 := f5.1 285 82 _ _ kW_285_82
  have p0 := f5.2
  refine ⟨?_, fun q hq => ?_⟩
  · refine ⟨?_, ?_, ?_⟩ <;> first | assumption | omega | trivial
  · exact nomatch hq
theorem c_275_s_0 : vOkm T0 (eP e_275 L_275 A_275 mu_275 none) 3 ([(0, [4], [], 0), (0, [3], [], -1), (6000, [0, 1, 2], [0], 0), (0, [0], [], 285), (90, [1], [], 0), (91, [1], [], 2), (90, [2], [], 0), (91, [2], [], 240)], (4000, [0, 1, 2, 3, 4], [0], 5)) := vOk_inI fun ρ η f0 f1 f2 f3 f4 f5 f6 f7 => q_275_0 (n0 := ρ 2) (n1 := ρ 1) (n2 := ρ 0) (n3 := ρ 3) (n4 := ρ 4) (H0 := η 0) f7 f6 f5 f4 f3 f2 f1 f0
def p_275_s : List vG := [([(0, [4], [], 0), (0, [3], [], -1), (6000, [0, 1, 2], [0], 0), (0, [0], [], 285), (90, [1], [], 0), (91, [1], [], 2), (90, [2], [], 0), (91, [2], [], 240)], (4000, [0, 1, 2, 3, 4], [0], 5))]
theorem r_275_s : vCovO true (eR0 e_275 L_275 cs_275 2000) p_275_s = true := by decide +kernel
theorem kR_275_298 : vFreeR s_275.2.2.2.2 298 = true := by decide +kernel
theorem kR_275_344 : vFreeR s_275.2.2.2.2 344 = true := by decide +kernel
theorem kF_275_285_82 : vFree s_275.2.2.2.2 285 82 = true := by decide +kernel
theorem q_275_1 {q0 : Nat} {n0 n1 n2 n3 n4 n5 n6 n7 n8 n9 : Int} {H0 H1 : gH} (f0 : n0 ≤ 40) (f1 : 0 ≤ n0) (f2 : n1 ≤ 39) (f3 : (-1) ≤ n1) (f4 : n2 ≤ 240) (f5 : 0 ≤ n2) (f6 : n3 ≤ 2) (f7 : 0 ≤ n3) (f8 : n4 = 285) (f9 : n5 ≤ 240) (f10 : 0 ≤ n5) (f11 : n6 ≤ 2) (f12 : 0 ≤ n6) (f13 : n7 = 285) (f14 : (hLe T0 H0 H1 ∧ hFr s_275.2.2.2.2 H0 H1 ∧ hWt T0 H1) ∧ (Ab_275_5 n7 n6 n5 n4 n3 n2 n1 n0 H0 H1 ∧ preb_275 n7 n6 n5 H0) ∧ some q0 = some (mub_275_5 n7 n6 n5 n4 n3 n2 n1 n0 H0 H1)) (f15 : n8 ≤ 40) (f16 : 0 ≤ n8) (f17 : n8 = hV H1 (n4).toNat 82) (f18 : n8 ≤ n0) (f19 : n9 = (-1)) (f20 : n1 ≠ n9) : 0 ≤ n1 ∧ n1 < 40 := by
  have g4 := f14.2.1.1
  unfold Ab_275_5 at g4
  have g3 := f14.2.1.2
  unfold preb_275 at g3
  have e1 : n8 = hV H0 285 82 := (by rw [f8] at f17; exact f17 : n8 = hV H1 285 82).trans ((f14.1.2.1.1 285 82 kF_275_285_82))
  have e2 : hV H1 285 82 = hV H0 285 82 := (f14.1.2.1.1 285 82 kF_275_285_82)
  have e3 : hV H1 298 = hV H0 298 := fRow f14.1.2.1 298 kR_275_298
  have e4 : hV H1 344 = hV H0 344 := fRow f14.1.2.1 344 kR_275_344
  have e5 : (0 : Int) ≤ hV H0 285 82 ∧ hV H0 285 82 ≤ 40 := bTo e2 (f14.1.2.2 285 82 _ _ kW_285_82)
  try simp only [e2, e3, e4] at g4
  have k0 := g4.1
  have k1 := g4.2.1
  have y0 := g4.2.2
  have p0 := g3
  clear g3
  clear g4
  clear f17 e2 e3 e4
  subst e1
  try subst k1
  try subst k0
  omega
theorem c_275_5_0 {q0 : Nat} : vOkm T0 (eP e_275 L_275 A_275 mu_275 (some q0)) 3 ([(41, [6, 9], [], 0), (0, [9], [], -1), (43, [7, 8], [], 0), (20, [8, 3], [1], 82), (90, [8], [], 0), (91, [8], [], 40), (5000, [0, 1, 2, 3, 4, 5, 6, 7], [0, 1], 5), (0, [0], [], 285), (90, [1], [], 0), (91, [1], [], 2), (90, [2], [], 0), (91, [2], [], 240), (0, [3], [], 285), (90, [4], [], 0), (91, [4], [], 2), (90, [5], [], 0), (91, [5], [], 240), (90, [6], [], -1), (91, [6], [], 39), (90, [7], [], 0), (91, [7], [], 40)], (70, [6], [], 40)) := vOk_inI fun ρ η f0 f1 f2 f3 f4 f5 f6 f7 f8 f9 f10 f11 f12 f13 f14 f15 f16 f17 f18 f19 f20 => q_275_1 (q0 := q0) (n0 := ρ 7) (n1 := ρ 6) (n2 := ρ 5) (n3 := ρ 4) (n4 := ρ 3) (n5 := ρ 2) (n6 := ρ 1) (n7 := ρ 0) (n8 := ρ 8) (n9 := ρ 9) (H0 := η 0) (H1 := η 1) f20 f19 f18 f17 f16 f15 f14 f13 f12 f11 f10 f9 f8 f7 f6 f5 f4 f3 f2 f1 f0
theorem q_275_2 {q0 : Nat} {n0 n1 n2 n3 n4 n5 n6 n7 n8 n9 n10 n11 n12 n13 : Int} {H0 H1 : gH} (f0 : n0 ≤ 40) (f1 : 0 ≤ n0) (f2 : n1 ≤ 39) (f3 : (-1) ≤ n1) (f4 : n2 ≤ 240) (f5 : 0 ≤ n2) (f6 : n3 ≤ 2) (f7 : 0 ≤ n3) (f8 : n4 = 285) (f9 : n5 ≤ 240) (f10 : 0 ≤ n5) (f11 : n6 ≤ 2) (f12 : 0 ≤ n6) (f13 : n7 = 285) (f14 : (hLe T0 H0 H1 ∧ hFr s_275.2.2.2.2 H0 H1 ∧ hWt T0 H1) ∧ (Ab_275_5 n7 n6 n5 n4 n3 n2 n1 n0 H0 H1 ∧ preb_275 n7 n6 n5 H0) ∧ some q0 = some (mub_275_5 n7 n6 n5 n4 n3 n2 n1 n0 H0 H1)) (f15 : n8 ≤ 40) (f16 : 0 ≤ n8) (f17 : n8 = hV H1 (n4).toNat 82) (f18 : n8 ≤ n0) (f19 : n9 = (-1)) (f20 : n1 ≠ n9) (f21 : n10 = 6) (f22 : n11 = 344) (f23 : n11 = hV H1 (n4).toNat 83) (f24 : n12 ≤ 1007) (f25 : 0 ≤ n12) (f26 : n12 = hV H1 (n11).toNat (n1).toNat) (f27 : n13 = w32 (n10 * n12)) : 0 ≤ n13 ∧ n13 < 6048 := by
  have g4 := f14.2.1.1
  unfold Ab_275_5 at g4
  have g3 := f14.2.1.2
  unfold preb_275 at g3
  have e1 : n8 = hV H0 285 82 := (by rw [f8] at f17; exact f17 : n8 = hV H1 285 82).trans ((f14.1.2.1.1 285 82 kF_275_285_82))
  have e2 : hV H1 344 = hV H0 344 := fRow f14.1.2.1 344 kR_275_344
  have e3 : n12 = hV H0 344 (n1).toNat := (by rw [f22] at f26; exact f26 : n12 = hV H1 344 (n1).toNat).trans ((congrFun e2 _))
  have e4 : hV H1 285 82 = hV H0 285 82 := (f14.1.2.1.1 285 82 kF_275_285_82)
  have e5 : hV H1 298 = hV H0 298 := fRow f14.1.2.1 298 kR_275_298
  have e6 : (0 : Int) ≤ hV H0 285 82 ∧ hV H0 285 82 ≤ 40 := bTo e4 (f14.1.2.2 285 82 _ _ kW_285_82)
  try simp only [e4, e5, e2] at g4
  have k0 := g4.1
  have k1 := g4.2.1
  have y0 := g4.2.2
  have p0 := g3
  clear g3
  clear g4
  clear f17 f23 f26 e2 e4 e5
  subst e1
  subst e3
  rw [f21] at f27
  first
  | (have ix0 : n13 = 6 * (hV H0 344 (n1).toNat) := Eq.trans f27 (w32_iv (Iml 6 rfl (Iat f25 f24)) (by decide)); subst ix0; clear f27)
  | (have ix0 : n13 = 6 * (hV H0 344 (n1).toNat) := Eq.trans f27 (w32_id (by omega) (by omega)); subst ix0; clear f27)
  | (unfold w32 at f27; have ix0 : n13 = 6 * (hV H0 344 (n1).toNat) := (by omega); subst ix0)
  | skip
  try unfold w32 at f27
  try subst k1
  try subst k0
  omega
theorem c_275_5_1 {q0 : Nat} : vOkm T0 (eP e_275 L_275 A_275 mu_275 (some q0)) 3 ([(3, [14, 11, 13], [], 0), (22, [13, 12, 6], [1], 0), (90, [13], [], 0), (91, [13], [], 1007), (20, [12, 3], [1], 83), (0, [12], [], 344), (0, [11], [], 6), (41, [6, 9], [], 0), (0, [9], [], -1), (43, [7, 8], [], 0), (20, [8, 3], [1], 82), (90, [8], [], 0), (91, [8], [], 40), (5000, [0, 1, 2, 3, 4, 5, 6, 7], [0, 1], 5), (0, [0], [], 285), (90, [1], [], 0), (91, [1], [], 2), (90, [2], [], 0), (91, [2], [], 240), (0, [3], [], 285), (90, [4], [], 0), (91, [4], [], 2), (90, [5], [], 0), (91, [5], [], 240), (90, [6], [], -1), (91, [6], [], 39), (90, [7], [], 0), (91, [7], [], 40)], (70, [14], [], 6048)) := vOk_inI fun ρ η f0 f1 f2 f3 f4 f5 f6 f7 f8 f9 f10 f11 f12 f13 f14 f15 f16 f17 f18 f19 f20 f21 f22 f23 f24 f25 f26 f27 => q_275_2 (q0 := q0) (n0 := ρ 7) (n1 := ρ 6) (n2 := ρ 5) (n3 := ρ 4) (n4 := ρ 3) (n5 := ρ 2) (n6 := ρ 1) (n7 := ρ 0) (n8 := ρ 8) (n9 := ρ 9) (n10 := ρ 11) (n11 := ρ 12) (n12 := ρ 13) (n13 := ρ 14) (H0 := η 0) (H1 := η 1) f27 f26 f25 f24 f23 f22 f21 f20 f19 f18 f17 f16 f15 f14 f13 f12 f11 f10 f9 f8 f7 f6 f5 f4 f3 f2 f1 f0
theorem kR_275_305 : vFreeR s_275.2.2.2.2 305 = true := by decide +kernel
theorem q_275_3 {q0 : Nat} {n0 n1 n2 n3 n4 n5 n6 n7 n8 n9 n10 n11 n12 n13 n14 n15 n16 n17 : Int} {H0 H1 : gH} (f0 : n0 ≤ 40) (f1 : 0 ≤ n0) (f2 : n1 ≤ 39) (f3 : (-1) ≤ n1) (f4 : n2 ≤ 240) (f5 : 0 ≤ n2) (f6 : n3 ≤ 2) (f7 : 0 ≤ n3) (f8 : n4 = 285) (f9 : n5 ≤ 240) (f10 : 0 ≤ n5) (f11 : n6 ≤ 2) (f12 : 0 ≤ n6) (f13 : n7 = 285) (f14 : (hLe T0 H0 H1 ∧ hFr s_275.2.2.2.2 H0 H1 ∧ hWt T0 H1) ∧ (Ab_275_5 n7 n6 n5 n4 n3 n2 n1 n0 H0 H1 ∧ preb_275 n7 n6 n5 H0) ∧ some q0 = some (mub_275_5 n7 n6 n5 n4 n3 n2 n1 n0 H0 H1)) (f15 : n8 ≤ 40) (f16 : 0 ≤ n8) (f17 : n8 = hV H1 (n4).toNat 82) (f18 : n8 ≤ n0) (f19 : n9 = (-1)) (f20 : n1 ≠ n9) (f21 : n10 = 305) (f22 : n10 = hV H1 (n4).toNat 31) (f23 : n11 = 6) (f24 : n12 = 344) (f25 : n12 = hV H1 (n4).toNat 83) (f26 : n13 ≤ 1007) (f27 : 0 ≤ n13) (f28 : n13 = hV H1 (n12).toNat (n1).toNat) (f29 : n14 = w32 (n11 * n13)) (f30 : n15 ≤ 9999) (f31 : (-1) ≤ n15) (f32 : n15 = hV H1 (n10).toNat (n14).toNat) (f33 : n16 = 305) (f34 : n16 = hV H1 (n4).toNat 31) (f35 : n17 = 344) (f36 : n17 = hV H1 (n4).toNat 83) : 0 ≤ n1 ∧ n1 < 40 := by
  have g4 := f14.2.1.1
  unfold Ab_275_5 at g4
  have g3 := f14.2.1.2
  unfold preb_275 at g3
  have e1 : n8 = hV H0 285 82 := (by rw [f8] at f17; exact f17 : n8 = hV H1 285 82).trans ((f14.1.2.1.1 285 82 kF_275_285_82))
  have e2 : hV H1 344 = hV H0 344 := fRow f14.1.2.1 344 kR_275_344
  have e3 : n13 = hV H0 344 (n1).toNat := (by rw [f24] at f28; exact f28 : n13 = hV H1 344 (n1).toNat).trans ((congrFun e2 _))
  have e5 : n15 = hV H0 305 (n14).toNat := (by rw [f21] at f32; exact f32 : n15 = hV H1 305 (n14).toNat).trans ((congrFun (fRow f14.1.2.1 305 kR_275_305) _))
  have e6 : hV H1 285 82 = hV H0 285 82 := (f14.1.2.1.1 285 82 kF_275_285_82)
  have e7 : hV H1 298 = hV H0 298 := fRow f14.1.2.1 298 kR_275_298
  have e8 : (0 : Int) ≤ hV H0 285 82 ∧ hV H0 285 82 ≤ 40 := bTo e6 (f14.1.2.2 285 82 _ _ kW_285_82)
  try simp only [e6, e7, e2] at g4
  have k0 := g4.1
  have k1 := g4.2.1
  have y0 := g4.2.2
  have p0 := g3
  clear g3
  clear g4
  clear f17 f22 f25 f28 f32 f34 f36 e2 e6 e7
  subst e1
  subst e3
  subst e5
  rw [f23] at f29
  first
  | (have ix0 : n14 = 6 * (hV H0 344 (n1).toNat) := Eq.trans f29 (w32_iv (Iml 6 rfl (Iat f27 f26)) (by decide)); subst ix0; clear f29)
  | (have ix0 : n14 = 6 * (hV H0 344 (n1).toNat) := Eq.trans f29 (w32_id (by omega) (by omega)); subst ix0; clear f29)
  | (unfold w32 at f29; have ix0 : n14 = 6 * (hV H0 344 (n1).toNat) := (by omega); subst ix0)
  | skip
  try unfold w32 at f29
  try subst k1
  try subst k0
  omega
theorem c_275_5_2 {q0 : Nat} : vOkm T0 (eP e_275 L_275 A_275 mu_275 (some q0)) 3 ([(20, [18, 3], [1], 83), (0, [18], [], 344), (20, [16, 3], [1], 31), (0, [16], [], 305), (22, [15, 10, 14], [1], 0), (90, [15], [], -1), (91, [15], [], 9999), (3, [14, 11, 13], [], 0), (22, [13, 12, 6], [1], 0), (90, [13], [], 0), (91, [13], [], 1007), (20, [12, 3], [1], 83), (0, [12], [], 344), (0, [11], [], 6), (20, [10, 3], [1], 31), (0, [10], [], 305), (41, [6, 9], [], 0), (0, [9], [], -1), (43, [7, 8], [], 0), (20, [8, 3], [1], 82), (90, [8], [], 0), (91, [8], [], 40), (5000, [0, 1, 2, 3, 4, 5, 6, 7], [0, 1], 5), (0, [0], [], 285), (90, [1], [], 0), (91, [1], [], 2), (90, [2], [], 0), (91, [2], [], 240), (0, [3], [], 285), (90, [4], [], 0), (91, [4], [], 2), (90, [5], [], 0), (91, [5], [], 240), (90, [6], [], -1), (91, [6], [], 39), (90, [7], [], 0), (91, [7], [], 40)], (70, [6], [], 40)) := vOk_inI fun ρ η f0 f1 f2 f3 f4 f5 f6 f7 f8 f9 f10 f11 f12 f13 f14 f15 f16 f17 f18 f19 f20 f21 f22 f23 f24 f25 f26 f27 f28 f29 f30 f31 f32 f33 f34 f35 f36 => q_275_3 (q0 := q0) (n0 := ρ 7) (n1 := ρ 6) (n2 := ρ 5) (n3 := ρ 4) (n4 := ρ 3) (n5 := ρ 2) (n6 := ρ 1) (n7 := ρ 0) (n8 := ρ 8) (n9 := ρ 9) (n10 := ρ 10) (n11 := ρ 11) (n12 := ρ 12) (n13 := ρ 13) (n14 := ρ 14) (n15 := ρ 15) (n16 := ρ 16) (n17 := ρ 18) (H0 := η 0) (H1 := η 1) f36 f35 f34 f33 f32 f31 f30 f29 f28 f27 f26 f25 f24 f23 f22 f21 f20 f19 f18 f17 f16 f15 f14 f13 f12 f11 f10 f9 f8 f7 f6 f5 f4 f3 f2 f1 f0
theorem q_275_4 {q0 : Nat} {n0 n1 n2 n3 n4 n5 n6 n7 n8 n9 n10 n11 n12 n13 n14 n15 n16 n17 n18 n19 n20 n21 n22 : Int} {H0 H1 : gH} (f0 : n0 ≤ 40) (f1 : 0 ≤ n0) (f2 : n1 ≤ 39) (f3 : (-1) ≤ n1) (f4 : n2 ≤ 240) (f5 : 0 ≤ n2) (f6 : n3 ≤ 2) (f7 : 0 ≤ n3) (f8 : n4 = 285) (f9 : n5 ≤ 240) (f10 : 0 ≤ n5) (f11 : n6 ≤ 2) (f12 : 0 ≤ n6) (f13 : n7 = 285) (f14 : (hLe T0 H0 H1 ∧ hFr s_275.2.2.2.2 H0 H1 ∧ hWt T0 H1) ∧ (Ab_275_5 n7 n6 n5 n4 n3 n2 n1 n0 H0 H1 ∧ preb_275 n7 n6 n5 H0) ∧ some q0 = some (mub_275_5 n7 n6 n5 n4 n3 n2 n1 n0 H0 H1)) (f15 : n8 ≤ 40) (f16 : 0 ≤ n8) (f17 : n8 = hV H1 (n4).toNat 82) (f18 : n8 ≤ n0) (f19 : n9 = (-1)) (f20 : n1 ≠ n9) (f21 : n10 = 305) (f22 : n10 = hV H1 (n4).toNat 31) (f23 : n11 = 6) (f24 : n12 = 344) (f25 : n12 = hV H1 (n4).toNat 83) (f26 : n13 ≤ 1007) (f27 : 0 ≤ n13) (f28 : n13 = hV H1 (n12).toNat (n1).toNat) (f29 : n14 = w32 (n11 * n13)) (f30 : n15 ≤ 9999) (f31 : (-1) ≤ n15) (f32 : n15 = hV H1 (n10).toNat (n14).toNat) (f33 : n16 = 305) (f34 : n16 = hV H1 (n4).toNat 31) (f35 : n17 = 6) (f36 : n18 = 344) (f37 : n18 = hV H1 (n4).toNat 83) (f38 : n19 ≤ 1007) (f39 : 0 ≤ n19) (f40 : n19 = hV H1 (n18).toNat (n1).toNat) (f41 : n20 = w32 (n17 * n19)) (f42 : n21 = 1) (f43 : n22 = w32 (n20 + n21)) : 0 ≤ n22 ∧ n22 < 6048 := by
  have g4 := f14.2.1.1
  unfold Ab_275_5 at g4
  have g3 := f14.2.1.2
  unfold preb_275 at g3
  have e1 : n8 = hV H0 285 82 := (by rw [f8] at f17; exact f17 : n8 = hV H1 285 82).trans ((f14.1.2.1.1 285 82 kF_275_285_82))
  have e2 : hV H1 344 = hV H0 344 := fRow f14.1.2.1 344 kR_275_344
  have e3 : n13 = hV H0 344 (n1).toNat := (by rw [f24] at f28; exact f28 : n13 = hV H1 344 (n1).toNat).trans ((congrFun e2 _))
  have e5 : n15 = hV H0 305 (n14).toNat := (by rw [f21] at f32; exact f32 : n15 = hV H1 305 (n14).toNat).trans ((congrFun (fRow f14.1.2.1 305 kR_275_305) _))
  have e6 : n19 = hV H0 344 (n1).toNat := (by rw [f36] at f40; exact f40 : n19 = hV H1 344 (n1).toNat).trans ((congrFun e2 _))
  have e7 : hV H1 285 82 = hV H0 285 82 := (f14.1.2.1.1 285 82 kF_275_285_82)
  have e8 : hV H1 298 = hV H0 298 := fRow f14.1.2.1 298 kR_275_298
  have e9 : (0 : Int) ≤ hV H0 285 82 ∧ hV H0 285 82 ≤ 40 := bTo e7 (f14.1.2.2 285 82 _ _ kW_285_82)
  try simp only [e7, e8, e2] at g4
  have k0 := g4.1
  have k1 := g4.2.1
  have y0 := g4.2.2
  have p0 := g3
  clear g3
  clear g4
  clear f17 f22 f25 f28 f32 f34 f37 f40 e2 e7 e8
  subst e1
  subst e3
  subst e5
  subst e6
  rw [f23] at f29
  rw [f35] at f41
  first
  | (have ix0 : n14 = 6 * (hV H0 344 (n1).toNat) := Eq.trans f29 (w32_iv (Iml 6 rfl (Iat f27 f26)) (by decide)); subst ix0; clear f29)
  | (have ix0 : n14 = 6 * (hV H0 344 (n1).toNat) := Eq.trans f29 (w32_id (by omega) (by omega)); subst ix0; clear f29)
  | (unfold w32 at f29; have ix0 : n14 = 6 * (hV H0 344 (n1).toNat) := (by omega); subst ix0)
  | skip
  first
  | (have ix1 : n20 = 6 * (hV H0 344 (n1).toNat) := Eq.trans f41 (w32_iv (Iml 6 rfl (Iat f27 f26)) (by decide)); subst ix1; clear f41)
  | (have ix1 : n20 = 6 * (hV H0 344 (n1).toNat) := Eq.trans f41 (w32_id (by omega) (by omega)); subst ix1; clear f41)
  | (unfold w32 at f41; have ix1 : n20 = 6 * (hV H0 344 (n1).toNat) := (by omega); subst ix1)
  | skip
  first
  | (have ix2 : n22 = (6 * (hV H0 344 (n1).toNat)) + 1 := Eq.trans f43 (w32_iv (Iad (Iml 6 rfl (Iat f27 f26)) (IC 1)) (by decide)); subst ix2; clear f43)
  | (have ix2 : n22 = (6 * (hV H0 344 (n1).toNat)) + 1 := Eq.trans f43 (w32_id (by omega) (by omega)); subst ix2; clear f43)
  | (unfold w32 at f43; have ix2 : n22 = (6 * (hV H0 344 (n1).toNat)) + 1 := (by omega); subst ix2)
  | skip
  try unfold w32 at f29
  try unfold w32 at f41
  try unfold w32 at f43
  try subst k1
  try subst k0
  omega
theorem c_275_5_3 {q0 : Nat} : vOkm T0 (eP e_275 L_275 A_275 mu_275 (some q0)) 3 ([(1, [22, 20, 21], [], 0), (0, [21], [], 1), (3, [20, 17, 19], [], 0), (22, [19, 18, 6], [1], 0), (90, [19], [], 0), (91, [19], [], 1007), (20, [18, 3], [1], 83), (0, [18], [], 344), (0, [17], [], 6), (20, [16, 3], [1], 31), (0, [16], [], 305), (22, [15, 10, 14], [1], 0), (90, [15], [], -1), (91, [15], [], 9999), (3, [14, 11, 13], [], 0), (22, [13, 12, 6], [1], 0), (90, [13], [], 0), (91, [13], [], 1007), (20, [12, 3], [1], 83), (0, [12], [], 344), (0, [11], [], 6), (20, [10, 3], [1], 31), (0, [10], [], 305), (41, [6, 9], [], 0), (0, [9], [], -1), (43, [7, 8], [], 0), (20, [8, 3], [1], 82), (90, [8], [], 0), (91, [8], [], 40), (5000, [0, 1, 2, 3, 4, 5, 6, 7], [0, 1], 5), (0, [0], [], 285), (90, [1], [], 0), (91, [1], [], 2), (90, [2], [], 0), (91, [2], [], 240), (0, [3], [], 285), (90, [4], [], 0), (91, [4], [], 2), (90, [5], [], 0), (91, [5], [], 240), (90, [6], [], -1), (91, [6], [], 39), (90, [7], [], 0), (91, [7], [], 40)], (70, [22], [], 6048)) := vOk_inI fun ρ η f0 f1 f2 f3 f4 f5 f6 f7 f8 f9 f10 f11 f12 f13 f14 f15 f16 f17 f18 f19 f20 f21 f22 f23 f24 f25 f26 f27 f28 f29 f30 f31 f32 f33 f34 f35 f36 f37 f38 f39 f40 f41 f42 f43 => q_275_4 (q0 := q0) (n0 := ρ 7) (n1 := ρ 6) (n2 := ρ 5) (n3 := ρ 4) (n4 := ρ 3) (n5 := ρ 2) (n6 := ρ 1) (n7 := ρ 0) (n8 := ρ 8) (n9 := ρ 9) (n10 := ρ 10) (n11 := ρ 11) (n12 := ρ 12) (n13 := ρ 13) (n14 := ρ 14) (n15 := ρ 15) (n16 := ρ 16) (n17 := ρ 17) (n18 := ρ 18) (n19 := ρ 19) (n20 := ρ 20) (n21 := ρ 21) (n22 := ρ 22) (H0 := η 0) (H1 := η 1) f43 f42 f41 f40 f39 f38 f37 f36 f35 f34 f33 f32 f31 f30 f29 f28 f27 f26 f25 f24 f23 f22 f21 f20 f19 f18 f17 f16 f15 f14 f13 f12 f11 f10 f9 f8 f7 f6 f5 f4 f3 f2 f1 f0
theorem q_275_5 {q0 : Nat} {n0 n1 n2 n3 n4 n5 n6 n7 n8 n9 n10 n11 n12 n13 n14 n15 n16 n17 n18 n19 n20 n21 n22 n23 : Int} {H0 H1 : gH} (f0 : n0 ≤ 40) (f1 : 0 ≤ n0) (f2 : n1 ≤ 39) (f3 : (-1) ≤ n1) (f4 : n2 ≤ 240) (f5 : 0 ≤ n2) (f6 : n3 ≤ 2) (f7 : 0 ≤ n3) (f8 : n4 = 285) (f9 : n5 ≤ 240) (f10 : 0 ≤ n5) (f11 : n6 ≤ 2) (f12 : 0 ≤ n6) (f13 : n7 = 285) (f14 : (hLe T0 H0 H1 ∧ hFr s_275.2.2.2.2 H0 H1 ∧ hWt T0 H1) ∧ (Ab_275_5 n7 n6 n5 n4 n3 n2 n1 n0 H0 H1 ∧ preb_275 n7 n6 n5 H0) ∧ some q0 = some (mub_275_5 n7 n6 n5 n4 n3 n2 n1 n0 H0 H1)) (f15 : n8 ≤ 40) (f16 : 0 ≤ n8) (f17 : n8 = hV H1 (n4).toNat 82) (f18 : n8 ≤ n0) (f19 : n9 = (-1)) (f20 : n1 ≠ n9) (f21 : n10 = 305) (f22 : n10 = hV H1 (n4).toNat 31) (f23 : n11 = 6) (f24 : n12 = 344) (f25 : n12 = hV H1 (n4).toNat 83) (f26 : n13 ≤ 1007) (f27 : 0 ≤ n13) (f28 : n13 = hV H1 (n12).toNat (n1).toNat) (f29 : n14 = w32 (n11 * n13)) (f30 : n15 ≤ 9999) (f31 : (-1) ≤ n15) (f32 : n15 = hV H1 (n10).toNat (n14).toNat) (f33 : n16 = 305) (f34 : n16 = hV H1 (n4).toNat 31) (f35 : n17 = 6) (f36 : n18 = 344) (f37 : n18 = hV H1 (n4).toNat 83) (f38 : n19 ≤ 1007) (f39 : 0 ≤ n19) (f40 : n19 = hV H1 (n18).toNat (n1).toNat) (f41 : n20 = w32 (n17 * n19)) (f42 : n21 = 1) (f43 : n22 = w32 (n20 + n21)) (f44 : n23 ≤ 9999) (f45 : (-1) ≤ n23) (f46 : n23 = hV H1 (n16).toNat (n22).toNat) : 0 ≤ n1 := by
  have g4 := f14.2.1.1
  unfold Ab_275_5 at g4
  have g3 := f14.2.1.2
  unfold preb_275 at g3
  have e1 : n8 = hV H0 285 82 := (by rw [f8] at f17; exact f17 : n8 = hV H1 285 82).trans ((f14.1.2.1.1 285 82 kF_275_285_82))
  have e2 : hV H1 344 = hV H0 344 := fRow f14.1.2.1 344 kR_275_344
  have e3 : n13 = hV H0 344 (n1).toNat := (by rw [f24] at f28; exact f28 : n13 = hV H1 344 (n1).toNat).trans ((congrFun e2 _))
  have e5 : n15 = hV H0 305 (n14).toNat := (by rw [f21] at f32; exact f32 : n15 = hV H1 305 (n14).toNat).trans ((congrFun (fRow f14.1.2.1 305 kR_275_305) _))
  have e6 : n19 = hV H0 344 (n1).toNat := (by rw [f36] at f40; exact f40 : n19 = hV H1 344 (n1).toNat).trans ((congrFun e2 _))
  have e7 : n23 = hV H0 305 (n22).toNat := (by rw [f33] at f46; exact f46 : n23 = hV H1 305 (n22).toNat).trans ((congrFun (fRow f14.1.2.1 305 kR_275_305) _))
  have e8 : hV H1 285 82 = hV H0 285 82 := (f14.1.2.1.1 285 82 kF_275_285_82)
  have e9 : hV H1 298 = hV H0 298 := fRow f14.1.2.1 298 kR_275_298
  have e10 : (0 : Int) ≤ hV H0 285 82 ∧ hV H0 285 82 ≤ 40 := bTo e8 (f14.1.2.2 285 82 _ _ kW_285_82)
  try simp only [e8, e9, e2] at g4
  have k0 := g4.1
  have k1 := g4.2.1
  have y0 := g4.2.2
  have p0 := g3
  clear g3
  clear g4
  clear f17 f22 f25 f28 f32 f34 f37 f40 f46 e2 e8 e9
  subst e1
  subst e3
  subst e5
  subst e6
  subst e7
  rw [f23] at f29
  rw [f35] at f41
  first
  | (have ix0 : n14 = 6 * (hV H0 344 (n1).toNat) := Eq.trans f29 (w32_iv (Iml 6 rfl (Iat f27 f26)) (by decide)); subst ix0; clear f29)
  | (have ix0 : n14 = 6 * (hV H0 344 (n1).toNat) := Eq.trans f29 (w32_id (by omega) (by omega)); subst ix0; clear f29)
  | (unfold w32 at f29; have ix0 : n14 = 6 * (hV H0 344 (n1).toNat) := (by omega); subst ix0)
  | skip
  first
  | (have ix1 : n20 = 6 * (hV H0 344 (n1).toNat) := Eq.trans f41 (w32_iv (Iml 6 rfl (Iat f27 f26)) (by decide)); subst ix1; clear f41)
  | (have ix1 : n20 = 6 * (hV H0 344 (n1).toNat) := Eq.trans f41 (w32_id (by omega) (by omega)); subst ix1; clear f41)
  | (unfold w32 at f41; have ix1 : n20 = 6 * (hV H0 344 (n1).toNat) := (by omega); subst ix1)
  | skip
  first
  | (have ix2 : n22 = (6 * (hV H0 344 (n1).toNat)) + 1 := Eq.trans f43 (w32_iv (Iad (Iml 6 rfl (Iat f27 f26)) (IC 1)) (by decide)); subst ix2; clear f43)
  | (have ix2 : n22 = (6 * (hV H0 344 (n1).toNat)) + 1 := Eq.trans f43 (w32_id (by omega) (by omega)); subst ix2; clear f43)
  | (unfold w32 at f43; have ix2 : n22 = (6 * (hV H0 344 (n1).toNat)) + 1 := (by omega); subst ix2)
  | skip
  try unfold w32 at f29
  try unfold w32 at f41
  try unfold w32 at f43
  try subst k1
  try subst k0
  omega
theorem c_275_5_4 {q0 : Nat} : vOkm T0 (eP e_275 L_275 A_275 mu_275 (some q0)) 3 ([(22, [23, 16, 22], [1], 0), (90, [23], [], -1), (91, [23], [], 9999), (1, [22, 20, 21], [], 0), (0, [21], [], 1), (3, [20, 17, 19], [], 0), (22, [19, 18, 6], [1], 0), (90, [19], [], 0), (91, [19], [], 1007), (20, [18, 3], [1], 83), (0, [18], [], 344), (0, [17], [], 6), (20, [16, 3], [1], 31), (0, [16], [], 305), (22, [15, 10, 14], [1], 0), (90, [15], [], -1), (91, [15], [], 9999), (3, [14, 11, 13], [], 0), (22, [13, 12, 6], [1], 0), (90, [13], [], 0), (91, [13], [], 1007), (20, [12, 3], [1], 83), (0, [12], [], 344), (0, [11], [], 6), (20, [10, 3], [1], 31), (0, [10], [], 305), (41, [6, 9], [], 0), (0, [9], [], -1), (43, [7, 8], [], 0), (20, [8, 3], [1], 82), (90, [8], [], 0), (91, [8], [], 40), (5000, [0, 1, 2, 3, 4, 5, 6, 7], [0, 1], 5), (0, [0], [], 285), (90, [1], [], 0), (91, [1], [], 2), (90, [2], [], 0), (91, [2], [], 240), (0, [3], [], 285), (90, [4], [], 0), (91, [4], [], 2), (90, [5], [], 0), (91, [5], [], 240), (90, [6], [], -1), (91, [6], [], 39), (90, [7], [], 0), (91, [7], [], 40)], (90, [6], [], 0)) := vOk_inI fun ρ η f0 f1 f2 f3 f4 f5 f6 f7 f8 f9 f10 f11 f12 f13 f14 f15 f16 f17 f18 f19 f20 f21 f22 f23 f24 f25 f26 f27 f28 f29 f30 f31 f32 f33 f34 f35 f36 f37 f38 f39 f40 f41 f42 f43 f44 f45 f46 => q_275_5 (q0 := q0) (n0 := ρ 7) (n1 := ρ 6) (n2 := ρ 5) (n3 := ρ 4) (n4 := ρ 3) (n5 := ρ 2) (n6 := ρ 1) (n7 := ρ 0) (n8 := ρ 8) (n9 := ρ 9) (n10 := ρ 10) (n11 := ρ 11) (n12 := ρ 12) (n13 := ρ 13) (n14 := ρ 14) (n15 := ρ 15) (n16 := ρ 16) (n17 := ρ 17) (n18 := ρ 18) (n19 := ρ 19) (n20 := ρ 20) (n21 := ρ 21) (n22 := ρ 22) (n23 := ρ 23) (H0 := η 0) (H1 := η 1) f46 f45 f44 f43 f42 f41 f40 f39 f38 f37 f36 f35 f34 f33 f32 f31 f30 f29 f28 f27 f26 f25 f24 f23 f22 f21 f20 f19 f18 f17 f16 f15 f14 f13 f12 f11 f10 f9 f8 f7 f6 f5 f4 f3 f2 f1 f0
theorem q_275_6 {q0 : Nat} {n0 n1 n2 n3 n4 n5 n6 n7 n8 n9 n10 n11 n12 n13 n14 n15 n16 n17 n18 n19 n20 n21 n22 n23 : Int} {H0 H1 : gH} (f0 : n0 ≤ 40) (f1 : 0 ≤ n0) (f2 : n1 ≤ 39) (f3 : (-1) ≤ n1) (f4 : n2 ≤ 240) (f5 : 0 ≤ n2) (f6 : n3 ≤ 2) (f7 : 0 ≤ n3) (f8 : n4 = 285) (f9 : n5 ≤ 240) (f10 : 0 ≤ n5) (f11 : n6 ≤ 2) (f12 : 0 ≤ n6) (f13 : n7 = 285) (f14 : (hLe T0 H0 H1 ∧ hFr s_275.2.2.2.2 H0 H1 ∧ hWt T0 H1) ∧ (Ab_275_5 n7 n6 n5 n4 n3 n2 n1 n0 H0 H1 ∧ preb_275 n7 n6 n5 H0) ∧ some q0 = some (mub_275_5 n7 n6 n5 n4 n3 n2 n1 n0 H0 H1)) (f15 : n8 ≤ 40) (f16 : 0 ≤ n8) (f17 : n8 = hV H1 (n4).toNat 82) (f18 : n8 ≤ n0) (f19 : n9 = (-1)) (f20 : n1 ≠ n9) (f21 : n10 = 305) (f22 : n10 = hV H1 (n4).toNat 31) (f23 : n11 = 6) (f24 : n12 = 344) (f25 : n12 = hV H1 (n4).toNat 83) (f26 : n13 ≤ 1007) (f27 : 0 ≤ n13) (f28 : n13 = hV H1 (n12).toNat (n1).toNat) (f29 : n14 = w32 (n11 * n13)) (f30 : n15 ≤ 9999) (f31 : (-1) ≤ n15) (f32 : n15 = hV H1 (n10).toNat (n14).toNat) (f33 : n16 = 305) (f34 : n16 = hV H1 (n4).toNat 31) (f35 : n17 = 6) (f36 : n18 = 344) (f37 : n18 = hV H1 (n4).toNat 83) (f38 : n19 ≤ 1007) (f39 : 0 ≤ n19) (f40 : n19 = hV H1 (n18).toNat (n1).toNat) (f41 : n20 = w32 (n17 * n19)) (f42 : n21 = 1) (f43 : n22 = w32 (n20 + n21)) (f44 : n23 ≤ 9999) (f45 : (-1) ≤ n23) (f46 : n23 = hV H1 (n16).toNat (n22).toNat) : preb_271 n4 n1 H1 := by
  have g4 := f14.2.1.1
  unfold Ab_275_5 at g4
  have g3 := f14.2.1.2
  unfold preb_275 at g3
  unfold preb_271
  have e1 : n8 = hV H0 285 82 := (by rw [f8] at f17; exact f17 : n8 = hV H1 285 82).trans ((f14.1.2.1.1 285 82 kF_275_285_82))
  have e2 : hV H1 344 = hV H0 344 := fRow f14.1.2.1 344 kR_275_344
  have e3 : n13 = hV H0 344 (n1).toNat := (by rw [f24] at f28; exact f28 : n13 = hV H1 344 (n1).toNat).trans ((congrFun e2 _))
  have e5 : n15 = hV H0 305 (n14).toNat := (by rw [f21] at f32; exact f32 : n15 = hV H1 305 (n14).toNat).trans ((congrFun (fRow f14.1.2.1 305 kR_275_305) _))
  have e6 : n19 = hV H0 344 (n1).toNat := (by rw [f36] at f40; exact f40 : n19 = hV H1 344 (n1).toNat).trans ((congrFun e2 _))
  have e7 : n23 = hV H0 305 (n22).toNat := (by rw [f33] at f46; exact f46 : n23 = hV H1 305 (n22).toNat).trans ((congrFun (fRow f14.1.2.1 305 kR_275_305) _))
  have e8 : hV H1 285 82 = hV H0 285 82 := (f14.1.2.1.1 285 82 kF_275_285_82)
  have e9 : hV H1 298 = hV H0 298 := fRow f14.1.2.1 298 kR_275_298
  have e10 : XQ H1 = XQ H0 := XQ_fr f14.1.2.1 (by decide +kernel)
  have e11 : (0 : Int) ≤ hV H0 285 82 ∧ hV H0 285 82 ≤ 40 := bTo e8 (f14.1.2.2 285 82 _ _ kW_285_82)
  try simp only [e8, e9, e2] at g4
  try simp only [e8, e9, e2, e10]
  have k0 := g4.1
  have k1 := g4.2.1
  have y0 := g4.2.2
  have p0 := g3
  clear g3
  clear g4
  clear f17 f22 f25 f28 f32 f34 f37 f40 f46 e2 e8 e9 e10
  subst e1
  subst e3
  subst e5
  subst e6
  subst e7
  rw [f23] at f29
  rw [f35] at f41
  first
  | (have ix0 : n14 = 6 * (hV H0 344 (n1).toNat) := Eq.trans f29 (w32_iv (Iml 6 rfl (Iat f27 f26)) (by decide)); subst ix0; clear f29)
  | (have ix0 : n14 = 6 * (hV H0 344 (n1).toNat) := Eq.trans f29 (w32_id (by omega) (by omega)); subst ix0; clear f29)
  | (unfold w32 at f29; have ix0 : n14 = 6 * (hV H0 344 (n1).toNat) := (by omega); subst ix0)
  | skip
  first
  | (have ix1 : n20 = 6 * (hV H0 344 (n1).toNat) := Eq.trans f41 (w32_iv (Iml 6 rfl (Iat f27 f26)) (by decide)); subst ix1; clear f41)
  | (have ix1 : n20 = 6 * (hV H0 344 (n1).toNat) := Eq.trans f41 (w32_id (by omega) (by omega)); subst ix1; clear f41)
  | (unfold w32 at f41; have ix1 : n20 = 6 * (hV H0 344 (n1).toNat) := (by omega); subst ix1)
  | skip
  first
  | (have ix2 : n22 = (6 * (hV H0 344 (n1).toNat)) + 1 := Eq.trans f43 (w32_iv (Iad (Iml 6 rfl (Iat f27 f26)) (IC 1)) (by decide)); subst ix2; clear f43)
  | (have ix2 : n22 = (6 * (hV H0 344 (n1).toNat)) + 1 := Eq.trans f43 (w32_id (by omega) (by omega)); subst ix2; clear f43)
  | (unfold w32 at f43; have ix2 : n22 = (6 * (hV H0 344 (n1).toNat)) + 1 := (by omega); subst ix2)
  | skip
  try unfold w32 at f29
  try unfold w32 at f41
  try unfold w32 at f43
  try subst k1
  try subst k0
  refine ⟨?_, ?_, ?_⟩ <;> first | assumption | omega | trivial
theorem c_275_5_5 {q0 : Nat} : vOkm T0 (eP e_275 L_275 A_275 mu_275 (some q0)) 3 ([(22, [23, 16, 22], [1], 0), (90, [23], [], -1), (91, [23], [], 9999), (1, [22, 20, 21], [], 0), (0, [21], [], 1), (3, [20, 17, 19], [], 0), (22, [19, 18, 6], [1], 0), (90, [19], [], 0), (91, [19], [], 1007), (20, [18, 3], [1], 83), (0, [18], [], 344), (0, [17], [], 6), (20, [16, 3], [1], 31), (0, [16], [], 305), (22, [15, 10, 14], [1], 0), (90, [15], [], -1), (91, [15], [], 9999), (3, [14, 11, 13], [], 0), (22, [13, 12, 6], [1], 0), (90, [13], [], 0), (91, [13], [], 1007), (20, [12, 3], [1], 83), (0, [12], [], 344), (0, [11], [], 6), (20, [10, 3], [1], 31), (0, [10], [], 305), (41, [6, 9], [], 0), (0, [9], [], -1), (43, [7, 8], [], 0), (20, [8, 3], [1], 82), (90, [8], [], 0), (91, [8], [], 40), (5000, [0, 1, 2, 3, 4, 5, 6, 7], [0, 1], 5), (0, [0], [], 285), (90, [1], [], 0), (91, [1], [], 2), (90, [2], [], 0), (91, [2], [], 240), (0, [3], [], 285), (90, [4], [], 0), (91, [4], [], 2), (90, [5], [], 0), (91, [5], [], 240), (90, [6], [], -1), (91, [6], [], 39), (90, [7], [], 0), (91, [7], [], 40)], (2271, [3, 6], [1], 0)) := vOk_inI fun ρ η f0 f1 f2 f3 f4 f5 f6 f7 f8 f9 f10 f11 f12 f13 f14 f15 f16 f17 f18 f19 f20 f21 f22 f23 f24 f25 f26 f27 f28 f29 f30 f31 f32 f33 f34 f35 f36 f37 f38 f39 f40 f41 f42 f43 f44 f45 f46 => q_275_6 (q0 := q0) (n0 := ρ 7) (n1 := ρ 6) (n2 := ρ 5) (n3 := ρ 4) (n4 := ρ 3) (n5 := ρ 2) (n6 := ρ 1) (n7 := ρ 0) (n8 := ρ 8) (n9 := ρ 9) (n10 := ρ 10) (n11 := ρ 11) (n12 := ρ 12) (n13 := ρ 13) (n14 := ρ 14) (n15 := ρ 15) (n16 := ρ 16) (n17 := ρ 17) (n18 := ρ 18) (n19 := ρ 19) (n20 := ρ 20) (n21 := ρ 21) (n22 := ρ 22) (n23 := ρ 23) (H0 := η 0) (H1 := η 1) f46 f45 f44 f43 f42 f41 f40 f39 f38 f37 f36 f35 f34 f33 f32 f31 f30 f29 f28 f27 f26 f25 f24 f23 f22 f21 f20 f19 f18 f17 f16 f15 f14 f13 f12 f11 f10 f9 f8 f7 f6 f5 f4 f3 f2 f1 f0
theorem c_275_5_6 {q0 : Nat} : vOkm T0 (eP e_275 L_275 A_275 mu_275 (some q0)) 3 ([(22, [23, 16, 22], [1], 0), (90, [23], [], -1), (91, [23], [], 9999), (1, [22, 20, 21], [], 0), (0, [21], [], 1), (3, [20, 17, 19], [], 0), (22, [19, 18, 6], [1], 0), (90, [19], [], 0), (91, [19], [], 1007), (20, [18, 3], [1], 83), (0, [18], [], 344), (0, [17], [], 6), (20, [16, 3], [1], 31), (0, [16], [], 305), (22, [15, 10, 14], [1], 0), (90, [15], [], -1), (91, [15], [], 9999), (3, [14, 11, 13], [], 0), (22, [13, 12, 6], [1], 0), (90, [13], [], 0), (91, [13], [], 1007), (20, [12, 3], [1], 83), (0, [12], [], 344), (0, [11], [], 6), (20, [10, 3], [1], 31), (0, [10], [], 305), (41, [6, 9], [], 0), (0, [9], [], -1), (43, [7, 8], [], 0), (20, [8, 3], [1], 82), (90, [8], [], 0), (91, [8], [], 40), (5000, [0, 1, 2, 3, 4, 5, 6, 7], [0, 1], 5), (0, [0], [], 285), (90, [1], [], 0), (91, [1], [], 2), (90, [2], [], 0), (91, [2], [], 240), (0, [3], [], 285), (90, [4], [], 0), (91, [4], [], 2), (90, [5], [], 0), (91, [5], [], 240), (90, [6], [], -1), (91, [6], [], 39), (90, [7], [], 0), (91, [7], [], 40)], (90, [6], [], 0)) := vOk_inI fun ρ η f0 f1 f2 f3 f4 f5 f6 f7 f8 f9 f10 f11 f12 f13 f14 f15 f16 f17 f18 f19 f20 f21 f22 f23 f24 f25 f26 f27 f28 f29 f30 f31 f32 f33 f34 f35 f36 f37 f38 f39 f40 f41 f42 f43 f44 f45 f46 => q_275_5 (q0 := q0) (n0 := ρ 7) (n1 := ρ 6) (n2 := ρ 5) (n3 := ρ 4) (n4 := ρ 3) (n5 := ρ 2) (n6 := ρ 1) (n7 := ρ 0) (n8 := ρ 8) (n9 := ρ 9) (n10 := ρ 10) (n11 := ρ 11) (n12 := ρ 12) (n13 := ρ 13) (n14 := ρ 14) (n15 := ρ 15) (n16 := ρ 16) (n17 := ρ 17) (n18 := ρ 18) (n19 := ρ 19) (n20 := ρ 20) (n21 := ρ 21) (n22 := ρ 22) (n23 := ρ 23) (H0 := η 0) (H1 := η 1) f46 f45 f44 f43 f42 f41 f40 f39 f38 f37 f36 f35 f34 f33 f32 f31 f30 f29 f28 f27 f26 f25 f24 f23 f22 f21 f20 f19 f18 f17 f16 f15 f14 f13 f12 f11 f10 f9 f8 f7 f6 f5 f4 f3 f2 f1 f0
theorem kR_271_298 : vFreeR s_271.2.2.2.2 298 = true := by decide +kernel
theorem kF_271_285_82 : vFree s_271.2.2.2.2 285 82 = true := by decide +kernel
theorem q_275_7 {q0 : Nat} {n0 n1 n2 n3 n4 n5 n6 n7 n8 n9 n10 n11 n12 n13 n14 n15 n16 n17 n18 n19 n20 n21 n22 n23 n24 n25 n26 : Int} {H0 H1 H2 : gH} (f0 : n0 ≤ 40) (f1 : 0 ≤ n0) (f2 : n1 ≤ 39) (f3 : (-1) ≤ n1) (f4 : n2 ≤ 240) (f5 : 0 ≤ n2) (f6 : n3 ≤ 2) (f7 : 0 ≤ n3) (f8 : n4 = 285) (f9 : n5 ≤ 240) (f10 : 0 ≤ n5) (f11 : n6 ≤ 2) (f12 : 0 ≤ n6) (f13 : n7 = 285) (f14 : (hLe T0 H0 H1 ∧ hFr s_275.2.2.2.2 H0 H1 ∧ hWt T0 H1) ∧ (Ab_275_5 n7 n6 n5 n4 n3 n2 n1 n0 H0 H1 ∧ preb_275 n7 n6 n5 H0) ∧ some q0 = some (mub_275_5 n7 n6 n5 n4 n3 n2 n1 n0 H0 H1)) (f15 : n8 ≤ 40) (f16 : 0 ≤ n8) (f17 : n8 = hV H1 (n4).toNat 82) (f18 : n8 ≤ n0) (f19 : n9 = (-1)) (f20 : n1 ≠ n9) (f21 : n10 = 305) (f22 : n10 = hV H1 (n4).toNat 31) (f23 : n11 = 6) (f24 : n12 = 344) (f25 : n12 = hV H1 (n4).toNat 83) (f26 : n13 ≤ 1007) (f27 : 0 ≤ n13) (f28 : n13 = hV H1 (n12).toNat (n1).toNat) (f29 : n14 = w32 (n11 * n13)) (f30 : n15 ≤ 9999) (f31 : (-1) ≤ n15) (f32 : n15 = hV H1 (n10).toNat (n14).toNat) (f33 : n16 = 305) (f34 : n16 = hV H1 (n4).toNat 31) (f35 : n17 = 6) (f36 : n18 = 344) (f37 : n18 = hV H1 (n4).toNat 83) (f38 : n19 ≤ 1007) (f39 : 0 ≤ n19) (f40 : n19 = hV H1 (n18).toNat (n1).toNat) (f41 : n20 = w32 (n17 * n19)) (f42 : n21 = 1) (f43 : n22 = w32 (n20 + n21)) (f44 : n23 ≤ 9999) (f45 : (-1) ≤ n23) (f46 : n23 = hV H1 (n16).toNat (n22).toNat) (f47 : n24 = 4) (f48 : n25 ≤ 10999) (f49 : (-10999) ≤ n25) (f50 : (hLe T0 H1 H2 ∧ hFr s_271.2.2.2.2 H1 H2 ∧ ((0 : Int) = 0 → H2.length = H1.length) ∧ hWt T0 H2) ∧ True) (f51 : n26 = w32 (n24 * n25)) : preb_272 n4 n1 H2 := by
  have g4 := f14.2.1.1
  unfold Ab_275_5 at g4
  have g3 := f14.2.1.2
  unfold preb_275 at g3
  unfold preb_272
  have e1 : n8 = hV H0 285 82 := (by rw [f8] at f17; exact f17 : n8 = hV H1 285 82).trans ((f14.1.2.1.1 285 82 kF_275_285_82))
  have e2 : hV H1 344 = hV H0 344 := fRow f14.1.2.1 344 kR_275_344
  have e3 : n13 = hV H0 344 (n1).toNat := (by rw [f24] at f28; exact f28 : n13 = hV H1 344 (n1).toNat).trans ((congrFun e2 _))
  have e5 : n15 = hV H0 305 (n14).toNat := (by rw [f21] at f32; exact f32 : n15 = hV H1 305 (n14).toNat).trans ((congrFun (fRow f14.1.2.1 305 kR_275_305) _))
  have e6 : n19 = hV H0 344 (n1).toNat := (by rw [f36] at f40; exact f40 : n19 = hV H1 344 (n1).toNat).trans ((congrFun e2 _))
  have e7 : n23 = hV H0 305 (n22).toNat := (by rw [f33] at f46; exact f46 : n23 = hV H1 305 (n22).toNat).trans ((congrFun (fRow f14.1.2.1 305 kR_275_305) _))
  have e8 : hV H1 285 82 = hV H0 285 82 := (f14.1.2.1.1 285 82 kF_275_285_82)
  have e9 : hV H1 298 = hV H0 298 := fRow f14.1.2.1 298 kR_275_298
  have e11 : hV H2 285 82 = hV H0 285 82 := ((f50.1.2.1.1 285 82 kF_271_285_82)).trans (f14.1.2.1.1 285 82 kF_275_285_82)
  have e13 : hV H2 298 = hV H0 298 := (fRow f50.1.2.1 298 kR_271_298).trans e9
  have e15 : hV H2 344 = hV H0 344 := (fRow f50.1.2.1 344 kR_271_344).trans e2
  have e16 : XQ H1 = XQ H0 := XQ_fr f14.1.2.1 (by decide +kernel)
  have e17 : XQ H2 = XQ H1 := XQ_fr f50.1.2.1 (by decide +kernel)
  have e18 : XQ H2 = XQ H0 := e17.trans e16
  have e19 : (0 : Int) ≤ hV H0 285 82 ∧ hV H0 285 82 ≤ 40 := bTo e8 (f14.1.2.2 285 82 _ _ kW_285_82)
  try simp only [e8, e9, e2] at g4
  try simp only [e11, e13, e15, e18]
  have k0 := g4.1
  have k1 := g4.2.1
  have y0 := g4.2.2
  have p0 := g3
  clear g3
  clear g4
  clear f17 f22 f25 f28 f32 f34 f37 f40 f46 e2 e8 e9 e11 e13 e15 e16 e17 e18
  subst e1
  subst e3
  subst e5
  subst e6
  subst e7
  rw [f23] at f29
  rw [f35] at f41
  rw [f47] at f51
  first
  | (have ix0 : n14 = 6 * (hV H0 344 (n1).toNat) := Eq.trans f29 (w32_iv (Iml 6 rfl (Iat f27 f26)) (by decide)); subst ix0; clear f29)
  | (have ix0 : n14 = 6 * (hV H0 344 (n1).toNat) := Eq.trans f29 (w32_id (by omega) (by omega)); subst ix0; clear f29)
  | (unfold w32 at f29; have ix0 : n14 = 6 * (hV H0 344 (n1).toNat) := (by omega); subst ix0)
  | skip
  first
  | (have ix1 : n20 = 6 * (hV H0 344 (n1).toNat) := Eq.trans f41 (w32_iv (Iml 6 rfl (Iat f27 f26)) (by decide)); subst ix1; clear f41)
  | (have ix1 : n20 = 6 * (hV H0 344 (n1).toNat) := Eq.trans f41 (w32_id (by omega) (by omega)); subst ix1; clear f41)
  | (unfold w32 at f41; have ix1 : n20 = 6 * (hV H0 344 (n1).toNat) := (by omega); subst ix1)
  | skip
  first
  | (have ix2 : n22 = (6 * (hV H0 344 (n1).toNat)) + 1 := Eq.trans f43 (w32_iv (Iad (Iml 6 rfl (Iat f27 f26)) (IC 1)) (by decide)); subst ix2; clear f43)
  | (have ix2 : n22 = (6 * (hV H0 344 (n1).toNat)) + 1 := Eq.trans f43 (w32_id (by omega) (by omega)); subst ix2; clear f43)
  | (unfold w32 at f43; have ix2 : n22 = (6 * (hV H0 344 (n1).toNat)) + 1 := (by omega); subst ix2)
  | skip
  try unfold w32 at f29
  try unfold w32 at f41
  try unfold w32 at f43
  try unfold w32 at f51
  try subst k1
  try subst k0
  refine ⟨?_, ?_, ?_⟩ <;> first | assumption | omega | trivial
theorem c_275_5_7 {q0 : Nat} : vOkm T0 (eP e_275 L_275 A_275 mu_275 (some q0)) 3 ([(3, [26, 24, 25], [], 0), (1271, [25, 3, 6], [1, 2], 0), (90, [25], [], -10999), (91, [25], [], 10999), (0, [24], [], 4), (22, [23, 16, 22], [1], 0), (90, [23], [], -1), (91, [23], [], 9999), (1, [22, 20, 21], [], 0), (0, [21], [], 1), (3, [20, 17, 19], [], 0), (22, [19, 18, 6], [1], 0), (90, [19], [], 0), (91, [19], [], 1007), (20, [18, 3], [1], 83), (0, [18], [], 344), (0, [17], [], 6), (20, [16, 3], [1], 31), (0, [16], [], 305), (22, [15, 10, 14], [1], 0), (90, [15], [], -1), (91, [15], [], 9999), (3, [14, 11, 13], [], 0), (22, [13, 12, 6], [1], 0), (90, [13], [], 0), (91, [13], [], 1007), (20, [12, 3], [1], 83), (0, [12], [], 344), (0, [11], [], 6), (20, [10, 3], [1], 31), (0, [10], [], 305), (41, [6, 9], [], 0), (0, [9], [], -1), (43, [7, 8], [], 0), (20, [8, 3], [1], 82), (90, [8], [], 0), (91, [8], [], 40), (5000, [0, 1, 2, 3, 4, 5, 6, 7], [0, 1], 5), (0, [0], [], 285), (90, [1], [], 0), (91, [1], [], 2), (90, [2], [], 0), (91, [2], [], 240), (0, [3], [], 285), (90, [4], [], 0), (91, [4], [], 2), (90, [5], [], 0), (91, [5], [], 240), (90, [6], [], -1), (91, [6], [], 39), (90, [7], [], 0), (91, [7], [], 40)], (2272, [3, 6], [2], 0)) := vOk_inI fun ρ η f0 f1 f2 f3 f4 f5 f6 f7 f8 f9 f10 f11 f12 f13 f14 f15 f16 f17 f18 f19 f20 f21 f22 f23 f24 f25 f26 f27 f28 f29 f30 f31 f32 f33 f34 f35 f36 f37 f38 f39 f40 f41 f42 f43 f44 f45 f46 f47 f48 f49 f50 f51 => q_275_7 (q0 := q0) (n0 := ρ 7) (n1 := ρ 6) (n2 := ρ 5) (n3 := ρ 4) (n4 := ρ 3) (n5 := ρ 2) (n6 := ρ 1) (n7 := ρ 0) (n8 := ρ 8) (n9 := ρ 9) (n10 := ρ 10) (n11 := ρ 11) (n12 := ρ 12) (n13 := ρ 13) (n14 := ρ 14) (n15 := ρ 15) (n16 := ρ 16) (n17 := ρ 17) (n18 := ρ 18) (n19 := ρ 19) (n20 := ρ 20) (n21 := ρ 21) (n22 := ρ 22) (n23 := ρ 23) (n24 := ρ 24) (n25 := ρ 25) (n26 := ρ 26) (H0 := η 0) (H1 := η 1) (H2 := η 2) f51 f50 f49 f48 f47 f46 f45 f44 f43 f42 f41 f40 f39 f38 f37 f36 f35 f34 f33 f32 f31 f30 f29 f28 f27 f26 f25 f24 f23 f22 f21 f20 f19 f18 f17 f16 f15 f14 f13 f12 f11 f10 f9 f8 f7 f6 f5 f4 f3 f2 f1 f0
theorem q_275_8 {q0 : Nat} {n0 n1 n2 n3 n4 n5 n6 n7 n8 n9 n10 n11 n12 n13 n14 n15 n16 n17 n18 n19 n20 n21 n22 n23 n24 n25 n26 n27 n28 n29 n30 n31 n32 n33 : Int} {H0 H1 : gH} (f0 : n0 ≤ 40) (f1 : 0 ≤ n0) (f2 : n1 ≤ 39) (f3 : (-1) ≤ n1) (f4 : n2 ≤ 240) (f5 : 0 ≤ n2) (f6 : n3 ≤ 2) (f7 : 0 ≤ n3) (f8 : n4 = 285) (f9 : n5 ≤ 240) (f10 : 0 ≤ n5) (f11 : n6 ≤ 2) (f12 : 0 ≤ n6) (f13 : n7 = 285) (f14 : (hLe T0 H0 H1 ∧ hFr s_275.2.2.2.2 H0 H1 ∧ hWt T0 H1) ∧ (Ab_275_5 n7 n6 n5 n4 n3 n2 n1 n0 H0 H1 ∧ preb_275 n7 n6 n5 H0) ∧ some q0 = some (mub_275_5 n7 n6 n5 n4 n3 n2 n1 n0 H0 H1)) (f15 : n8 ≤ 40) (f16 : 0 ≤ n8) (f17 : n8 = hV H1 (n4).toNat 82) (f18 : n8 ≤ n0) (f19 : n9 = (-1)) (f20 : n1 ≠ n9) (f21 : n10 = 305) (f22 : n10 = hV H1 (n4).toNat 31) (f23 : n11 = 6) (f24 : n12 = 344) (f25 : n12 = hV H1 (n4).toNat 83) (f26 : n13 ≤ 1007) (f27 : 0 ≤ n13) (f28 : n13 = hV H1 (n12).toNat (n1).toNat) (f29 : n14 = w32 (n11 * n13)) (f30 : n15 ≤ 9999) (f31 : (-1) ≤ n15) (f32 : n15 = hV H1 (n10).toNat (n14).toNat) (f33 : n16 = 305) (f34 : n16 = hV H1 (n4).toNat 31) (f35 : n17 = 6) (f36 : n18 = 344) (f37 : n18 = hV H1 (n4).toNat 83) (f38 : n19 ≤ 1007) (f39 : 0 ≤ n19) (f40 : n19 = hV H1 (n18).toNat (n1).toNat) (f41 : n20 = w32 (n17 * n19)) (f42 : n21 = 1) (f43 : n22 = w32 (n20 + n21)) (f44 : n23 ≤ 9999) (f45 : (-1) ≤ n23) (f46 : n23 = hV H1 (n16).toNat (n22).toNat) (f47 : n24 = 4) (f48 : n25 ≤ 10999) (f49 : (-10999) ≤ n25) (f50 : n26 = w32 (n24 * n25)) (f51 : n27 = 4) (f52 : n28 ≤ 10999) (f53 : (-10999) ≤ n28) (f54 : n29 = w32 (n27 * n28)) (f55 : n2 < n29) (f56 : n26 < n29) (f57 : n30 = w32 (n23 - n15)) (f58 : n31 = w32 (n2 - n26)) (f59 : n32 = w32 (n30 * n31)) (f60 : n33 = w32 (n29 - n26)) : n33 ≠ 0 := by
  have g4 := f14.2.1.1
  unfold Ab_275_5 at g4
  have g3 := f14.2.1.2
  unfold preb_275 at g3
  have e1 : n8 = hV H0 285 82 := (by rw [f8] at f17; exact f17 : n8 = hV H1 285 82).trans ((f14.1.2.1.1 285 82 kF_275_285_82))
  have e2 : hV H1 344 = hV H0 344 := fRow f14.1.2.1 344 kR_275_344
  have e3 : n13 = hV H0 344 (n1).toNat := (by rw [f24] at f28; exact f28 : n13 = hV H1 344 (n1).toNat).trans ((congrFun e2 _))
  have e5 : n15 = hV H0 305 (n14).toNat := (by rw [f21] at f32; exact f32 : n15 = hV H1 305 (n14).toNat).trans ((congrFun (fRow f14.1.2.1 305 kR_275_305) _))
  have e6 : n19 = hV H0 344 (n1).toNat := (by rw [f36] at f40; exact f40 : n19 = hV H1 344 (n1).toNat).trans ((congrFun e2 _))
  have e7 : n23 = hV H0 305 (n22).toNat := (by rw [f33] at f46; exact f46 : n23 = hV H1 305 (n22).toNat).trans ((congrFun (fRow f14.1.2.1 305 kR_275_305) _))
  have e8 : hV H1 285 82 = hV H0 285 82 := (f14.1.2.1.1 285 82 kF_275_285_82)
  have e9 : hV H1 298 = hV H0 298 := fRow f14.1.2.1 298 kR_275_298
  have e10 : (0 : Int) ≤ hV H0 285 82 ∧ hV H0 285 82 ≤ 40 := bTo e8 (f14.1.2.2 285 82 _ _ kW_285_82)
  try simp only [e8, e9, e2] at g4
  have k0 := g4.1
  have k1 := g4.2.1
  have y0 := g4.2.2
  have p0 := g3
  clear g3
  clear g4
  clear f17 f22 f25 f28 f32 f34 f37 f40 f46 e2 e8 e9
  subst e1
  subst e3
  subst e5
  subst e6
  subst e7
  rw [f23] at f29
  rw [f35] at f41
  rw [f47] at f50
  rw [f51] at f54
  first
  | (have ix0 : n14 = 6 * (hV H0 344 (n1).toNat) := Eq.trans f29 (w32_iv (Iml 6 rfl (Iat f27 f26)) (by decide)); subst ix0; clear f29)
  | (have ix0 : n14 = 6 * (hV H0 344 (n1).toNat) := Eq.trans f29 (w32_id (by omega) (by omega)); subst ix0; clear f29)
  | (unfold w32 at f29; have ix0 : n14 = 6 * (hV H0 344 (n1).toNat) := (by omega); subst ix0)
  | skip
  first
  | (have ix1 : n20 = 6 * (hV H0 344 (n1).toNat) := Eq.trans f41 (w32_iv (Iml 6 rfl (Iat f27 f26)) (by decide)); subst ix1; clear f41)
  | (have ix1 : n20 = 6 * (hV H0 344 (n1).toNat) := Eq.trans f41 (w32_id (by omega) (by omega)); subst ix1; clear f41)
  | (unfold w32 at f41; have ix1 : n20 = 6 * (hV H0 344 (n1).toNat) := (by omega); subst ix1)
  | skip
  first
  | (have ix2 : n22 = (6 * (hV H0 344 (n1).toNat)) + 1 := Eq.trans f43 (w32_iv (Iad (Iml 6 rfl (Iat f27 f26)) (IC 1)) (by decide)); subst ix2; clear f43)
  | (have ix2 : n22 = (6 * (hV H0 344 (n1).toNat)) + 1 := Eq.trans f43 (w32_id (by omega) (by omega)); subst ix2; clear f43)
  | (unfold w32 at f43; have ix2 : n22 = (6 * (hV H0 344 (n1).toNat)) + 1 := (by omega); subst ix2)
  | skip
  try unfold w32 at f29
  try unfold w32 at f41
  try unfold w32 at f43
  try unfold w32 at f50
  try unfold w32 at f54
  try unfold w32 at f57
  try unfold w32 at f58
  try unfold w32 at f59
  try unfold w32 at f60
  try subst k1
  try subst k0
  omega
theorem c_275_5_8 {q0 : Nat} : vOkm T0 (eP e_275 L_275 A_275 mu_275 (some q0)) 3 ([(2, [33, 29, 26], [], 0), (3, [32, 30, 31], [], 0), (2, [31, 5, 26], [], 0), (2, [30, 23, 15], [], 0), (44, [29, 26], [], 0), (42, [5, 29], [], 0), (3, [29, 27, 28], [], 0), (90, [28], [], -10999), (91, [28], [], 10999), (0, [27], [], 4), (3, [26, 24, 25], [], 0), (90, [25], [], -10999), (91, [25], [], 10999), (0, [24], [], 4), (22, [23, 16, 22], [1], 0), (90, [23], [], -1), (91, [23], [], 9999), (1, [22, 20, 21], [], 0), (0, [21], [], 1), (3, [20, 17, 19], [], 0), (22, [19, 18, 6], [1], 0), (90, [19], [], 0), (91, [19], [], 1007), (20, [18, 3], [1], 83), (0, [18], [], 344), (0, [17], [], 6), (20, [16, 3], [1], 31), (0, [16], [], 305), (22, [15, 10, 14], [1], 0), (90, [15], [], -1), (91, [15], [], 9999), (3, [14, 11, 13], [], 0), (22, [13, 12, 6], [1], 0), (90, [13], [], 0), (91, [13], [], 1007), (20, [12, 3], [1], 83), (0, [12], [], 344), (0, [11], [], 6), (20, [10, 3], [1], 31), (0, [10], [], 305), (41, [6, 9], [], 0), (0, [9], [], -1), (43, [7, 8], [], 0), (20, [8, 3], [1], 82), (90, [8], [], 0), (91, [8], [], 40), (5000, [0, 1, 2, 3, 4, 5, 6, 7], [0, 1], 5), (0, [0], [], 285), (90, [1], [], 0), (91, [1], [], 2), (90, [2], [], 0), (91, [2], [], 240), (0, [3], [], 285), (90, [4], [], 0), (91, [4], [], 2), (90, [5], [], 0), (91, [5], [], 240), (90, [6], [], -1), (91, [6], [], 39), (90, [7], [], 0), (91, [7], [], 40)], (72, [33], [], 0)) := vOk_inI fun ρ η f0 f1 f2 f3 f4 f5 f6 f7 f8 f9 f10 f11 f12 f13 f14 f15 f16 f17 f18 f19 f20 f21 f22 f23 f24 f25 f26 f27 f28 f29 f30 f31 f32 f33 f34 f35 f36 f37 f38 f39 f40 f41 f42 f43 f44 f45 f46 f47 f48 f49 f50 f51 f52 f53 f54 f55 f56 f57 f58 f59 f60 => q_275_8 (q0 := q0) (n0 := ρ 7) (n1 := ρ 6) (n2 := ρ 5) (n3 := ρ 4) (n4 := ρ 3) (n5 := ρ 2) (n6 := ρ 1) (n7 := ρ 0) (n8 := ρ 8) (n9 := ρ 9) (n10 := ρ 10) (n11 := ρ 11) (n12 := ρ 12) (n13 := ρ 13) (n14 := ρ 14) (n15 := ρ 15) (n16 := ρ 16) (n17 := ρ 17) (n18 := ρ 18) (n19 := ρ 19) (n20 := ρ 20) (n21 := ρ 21) (n22 := ρ 22) (n23 := ρ 23) (n24 := ρ 24) (n25 := ρ 25) (n26 := ρ 26) (n27 := ρ 27) (n28 := ρ 28) (n29 := ρ 29) (n30 := ρ 30) (n31 := ρ 31) (n32 := ρ 32) (n33 := ρ 33) (H0 := η 0) (H1 := η 1) f60 f59 f58 f57 f56 f55 f54 f53 f52 f51 f50 f49 f48 f47 f46 f45 f44 f43 f42 f41 f40 f39 f38 f37 f36 f35 f34 f33 f32 f31 f30 f29 f28 f27 f26 f25 f24 f23 f22 f21 f20 f19 f18 f17 f16 f15 f14 f13 f12 f11 f10 f9 f8 f7 f6 f5 f4 f3 f2 f1 f0
theorem q_275_9 {q0 : Nat} {n0 n1 n2 n3 n4 n5 n6 n7 n8 : Int} {H0 H1 : gH} (f0 : n0 ≤ 40) (f1 : 0 ≤ n0) (f2 : n1 ≤ 39) (f3 : (-1) ≤ n1) (f4 : n2 ≤ 240) (f5 : 0 ≤ n2) (f6 : n3 ≤ 2) (f7 : 0 ≤ n3) (f8 : n4 = 285) (f9 : n5 ≤ 240) (f10 : 0 ≤ n5) (f11 : n6 ≤ 2) (f12 : 0 ≤ n6) (f13 : n7 = 285) (f14 : (hLe T0 H0 H1 ∧ hFr s_275.2.2.2.2 H0 H1 ∧ hWt T0 H1) ∧ (Ab_275_5 n7 n6 n5 n4 n3 n2 n1 n0 H0 H1 ∧ preb_275 n7 n6 n5 H0) ∧ some q0 = some (mub_275_5 n7 n6 n5 n4 n3 n2 n1 n0 H0 H1)) (f15 : n8 ≤ 40) (f16 : 0 ≤ n8) (f17 : n8 = hV H1 (n4).toNat 82) (f18 : n0 < n8) : 0 ≤ n0 ∧ n0 < 40 := by
  have g4 := f14.2.1.1
  unfold Ab_275_5 at g4
  have g3 := f14.2.1.2
  unfold preb_275 at g3
  have e1 : n8 = hV H0 285 82 := (by rw [f8] at f17; exact f17 : n8 = hV H1 285 82).trans ((f14.1.2.1.1 285 82 kF_275_285_82))
  have e2 : hV H1 285 82 = hV H0 285 82 := (f14.1.2.1.1 285 82 kF_275_285_82)
  have e3 : hV H1 298 = hV H0 298 := fRow f14.1.2.1 298 kR_275_298
  have e4 : hV H1 344 = hV H0 344 := fRow f14.1.2.1 344 kR_275_344
  have e5 : (0 : Int) ≤ hV H0 285 82 ∧ hV H0 285 82 ≤ 40 := bTo e2 (f14.1.2.2 285 82 _ _ kW_285_82)
  try simp only [e2, e3, e4] at g4
  have k0 := g4.1
  have k1 := g4.2.1
  have y0 := g4.2.2
  have p0 := g3
  clear g3
  clear g4
  clear f17 e2 e3 e4
  subst e1
  try subst k1
  try subst k0
  omega
theorem c_275_5_9 {q0 : Nat} : vOkm T0 (eP e_275 L_275 A_275 mu_275 (some q0)) 3 ([(42, [7, 8], [], 0), (20, [8, 3], [1], 82), (90, [8], [], 0), (91, [8], [], 40), (5000, [0, 1, 2, 3, 4, 5, 6, 7], [0, 1], 5), (0, [0], [], 285), (90, [1], [], 0), (91, [1], [], 2), (90, [2], [], 0), (91, [2], [], 240), (0, [3], [], 285), (90, [4], [], 0), (91, [4], [], 2), (90, [5], [], 0), (91, [5], [], 240), (90, [6], [], -1), (91, [6], [], 39), (90, [7], [], 0), (91, [7], [], 40)], (70, [7], [], 40)) := vOk_inI fun ρ η f0 f1 f2 f3 f4 f5 f6 f7 f8 f9 f10 f11 f12 f13 f14 f15 f16 f17 f18 => q_275_9 (q0 := q0) (n0 := ρ 7) (n1 := ρ 6) (n2 := ρ 5) (n3 := ρ 4) (n4 := ρ 3) (n5 := ρ 2) (n6 := ρ 1) (n7 := ρ 0) (n8 := ρ 8) (H0 := η 0) (H1 := η 1) f18 f17 f16 f15 f14 f13 f12 f11 f10 f9 f8 f7 f6 f5 f4 f3 f2 f1 f0
theorem q_275_10 {q0 : Nat} {n0 n1 n2 n3 n4 n5 n6 n7 n8 n9 n10 n11 n12 n13 n14 : Int} {H0 H1 : gH} (f0 : n0 ≤ 40) (f1 : 0 ≤ n0) (f2 : n1 ≤ 39) (f3 : (-1) ≤ n1) (f4 : n2 ≤ 240) (f5 : 0 ≤ n2) (f6 : n3 ≤ 2) (f7 : 0 ≤ n3) (f8 : n4 = 285) (f9 : n5 ≤ 240) (f10 : 0 ≤ n5) (f11 : n6 ≤ 2) (f12 : 0 ≤ n6) (f13 : n7 = 285) (f14 : (hLe T0 H0 H1 ∧ hFr s_275.2.2.2.2 H0 H1 ∧ hWt T0 H1) ∧ (Ab_275_5 n7 n6 n5 n4 n3 n2 n1 n0 H0 H1 ∧ preb_275 n7 n6 n5 H0) ∧ some q0 = some (mub_275_5 n7 n6 n5 n4 n3 n2 n1 n0 H0 H1)) (f15 : n8 ≤ 40) (f16 : 0 ≤ n8) (f17 : n8 = hV H1 (n4).toNat 82) (f18 : n0 < n8) (f19 : n9 = 298) (f20 : n9 = hV H1 (n4).toNat 24) (f21 : n10 = 344) (f22 : n10 = hV H1 (n4).toNat 83) (f23 : n11 ≤ 1007) (f24 : 0 ≤ n11) (f25 : n11 = hV H1 (n10).toNat (n0).toNat) (f26 : n12 ≤ 5) (f27 : 0 ≤ n12) (f28 : n12 = hV H1 (n9).toNat (n11).toNat) (f29 : n13 = 1) (f30 : n12 ≠ n13) (f31 : n14 = w32 (n0 + 1)) : 0 ≤ n14 := by
  have g4 := f14.2.1.1
  unfold Ab_275_5 at g4
  have g3 := f14.2.1.2
  unfold preb_275 at g3
  have e1 : n8 = hV H0 285 82 := (by rw [f8] at f17; exact f17 : n8 = hV H1 285 82).trans ((f14.1.2.1.1 285 82 kF_275_285_82))
  have e2 : hV H1 344 = hV H0 344 := fRow f14.1.2.1 344 kR_275_344
  have e3 : n11 = hV H0 344 (n0).toNat := (by rw [f21] at f25; exact f25 : n11 = hV H1 344 (n0).toNat).trans ((congrFun e2 _))
  have e4 : hV H1 298 = hV H0 298 := fRow f14.1.2.1 298 kR_275_298
  have e5 : n12 = hV H0 298 (n11).toNat := (by rw [f19] at f28; exact f28 : n12 = hV H1 298 (n11).toNat).trans ((congrFun e4 _))
  have e6 : hV H1 285 82 = hV H0 285 82 := (f14.1.2.1.1 285 82 kF_275_285_82)
  have e7 : (0 : Int) ≤ hV H0 285 82 ∧ hV H0 285 82 ≤ 40 := bTo e6 (f14.1.2.2 285 82 _ _ kW_285_82)
  try simp only [e6, e4, e2] at g4
  have k0 := g4.1
  have k1 := g4.2.1
  have y0 := g4.2.2
  have p0 := g3
  clear g3
  clear g4
  clear f17 f20 f22 f25 f28 e2 e4 e6
  subst e1
  subst e3
  subst e5
  first
  | (have ix0 : n14 = n0 + 1 := Eq.trans f31 (w32_iv (Iad (Iat f1 f0) (IC 1)) (by decide)); subst ix0; clear f31)
  | (have ix0 : n14 = n0 + 1 := Eq.trans f31 (w32_id (by omega) (by omega)); subst ix0; clear f31)
  | (unfold w32 at f31; have ix0 : n14 = n0 + 1 := (by omega); subst ix0)
  | skip
  try unfold w32 at f31
  try subst k1
  try subst k0
  omega
theorem c_275_5_10 {q0 : Nat} : vOkm T0 (eP e_275 L_275 A_275 mu_275 (some q0)) 3 ([(10, [14, 7], [], 1), (41, [12, 13], [], 0), (0, [13], [], 1), (22, [12, 9, 11], [1], 0), (90, [12], [], 0), (91, [12], [], 5), (22, [11, 10, 7], [1], 0), (90, [11], [], 0), (91, [11], [], 1007), (20, [10, 3], [1], 83), (0, [10], [], 344), (20, [9, 3], [1], 24), (0, [9], [], 298), (42, [7, 8], [], 0), (20, [8, 3], [1], 82), (90, [8], [], 0), (91, [8], [], 40), (5000, [0, 1, 2, 3, 4, 5, 6, 7], [0, 1], 5), (0, [0], [], 285), (90, [1], [], 0), (91, [1], [], 2), (90, [2], [], 0), (91, [2], [], 240), (0, [3], [], 285), (90, [4], [], 0), (91, [4], [], 2), (90, [5], [], 0), (91, [5], [], 240), (90, [6], [], -1), (91, [6], [], 39), (90, [7], [], 0), (91, [7], [], 40)], (90, [14], [], 0)) := vOk_inI fun ρ η f0 f1 f2 f3 f4 f5 f6 f7 f8 f9 f10 f11 f12 f13 f14 f15 f16 f17 f18 f19 f20 f21 f22 f23 f24 f25 f26 f27 f28 f29 f30 f31 => q_275_10 (q0 := q0) (n0 := ρ 7) (n1 := ρ 6) (n2 := ρ 5) (n3 := ρ 4) (n4 := ρ 3) (n5 := ρ 2) (n6 := ρ 1) (n7 := ρ 0) (n8 := ρ 8) (n9 := ρ 9) (n10 := ρ 10) (n11 := ρ 11) (n12 := ρ 12) (n13 := ρ 13) (n14 := ρ 14) (H0 := η 0) (H1 := η 1) f31 f30 f29 f28 f27 f26 f25 f24 f23 f22 f21 f20 f19 f18 f17 f16 f15 f14 f13 f12 f11 f10 f9 f8 f7 f6 f5 f4 f3 f2 f1 f0
theorem q_275_11 {q0 : Nat} {n0 n1 n2 n3 n4 n5 n6 n7 n8 n9 n10 n11 n12 n13 n14 : Int} {H0 H1 : gH} (f0 : n0 ≤ 40) (f1 : 0 ≤ n0) (f2 : n1 ≤ 39) (f3 : (-1) ≤ n1) (f4 : n2 ≤ 240) (f5 : 0 ≤ n2) (f6 : n3 ≤ 2) (f7 : 0 ≤ n3) (f8 : n4 = 285) (f9 : n5 ≤ 240) (f10 : 0 ≤ n5) (f11 : n6 ≤ 2) (f12 : 0 ≤ n6) (f13 : n7 = 285) (f14 : (hLe T0 H0 H1 ∧ hFr s_275.2.2.2.2 H0 H1 ∧ hWt T0 H1) ∧ (Ab_275_5 n7 n6 n5 n4 n3 n2 n1 n0 H0 H1 ∧ preb_275 n7 n6 n5 H0) ∧ some q0 = some (mub_275_5 n7 n6 n5 n4 n3 n2 n1 n0 H0 H1)) (f15 : n8 ≤ 40) (f16 : 0 ≤ n8) (f17 : n8 = hV H1 (n4).toNat 82) (f18 : n0 < n8) (f19 : n9 = 298) (f20 : n9 = hV H1 (n4).toNat 24) (f21 : n10 = 344) (f22 : n10 = hV H1 (n4).toNat 83) (f23 : n11 ≤ 1007) (f24 : 0 ≤ n11) (f25 : n11 = hV H1 (n10).toNat (n0).toNat) (f26 : n12 ≤ 5) (f27 : 0 ≤ n12) (f28 : n12 = hV H1 (n9).toNat (n11).toNat) (f29 : n13 = 1) (f30 : n12 ≠ n13) (f31 : n14 = w32 (n0 + 1)) : n14 ≤ 40 := by
  have g4 := f14.2.1.1
  unfold Ab_275_5 at g4
  have g3 := f14.2.1.2
  unfold preb_275 at g3
  have e1 : n8 = hV H0 285 82 := (by rw [f8] at f17; exact f17 : n8 = hV H1 285 82).trans ((f14.1.2.1.1 285 82 kF_275_285_82))
  have e2 : hV H1 344 = hV H0 344 := fRow f14.1.2.1 344 kR_275_344
  have e3 : n11 = hV H0 344 (n0).toNat := (by rw [f21] at f25; exact f25 : n11 = hV H1 344 (n0).toNat).trans ((congrFun e2 _))
  have e4 : hV H1 298 = hV H0 298 := fRow f14.1.2.1 298 kR_275_298
  have e5 : n12 = hV H0 298 (n11).toNat := (by rw [f19] at f28; exact f28 : n12 = hV H1 298 (n11).toNat).trans ((congrFun e4 _))
  have e6 : hV H1 285 82 = hV H0 285 82 := (f14.1.2.1.1 285 82 kF_275_285_82)
  have e7 : (0 : Int) ≤ hV H0 285 82 ∧ hV H0 285 82 ≤ 40 := bTo e6 (f14.1.2.2 285 82 _ _ kW_285_82)
  try simp only [e6, e4, e2] at g4
  have k0 := g4.1
  have k1 := g4.2.1
  have y0 := g4.2.2
  have p0 := g3
  clear g3
  clear g4
  clear f17 f20 f22 f25 f28 e2 e4 e6
  subst e1
  subst e3
  subst e5
  first
  | (have ix0 : n14 = n0 + 1 := Eq.trans f31 (w32_iv (Iad (Iat f1 f0) (IC 1)) (by decide)); subst ix0; clear f31)
  | (have ix0 : n14 = n0 + 1 := Eq.trans f31 (w32_id (by omega) (by omega)); subst ix0; clear f31)
  | (unfold w32 at f31; have ix0 : n14 = n0 + 1 := (by omega); subst ix0)
  | skip
  try unfold w32 at f31
  try subst k1
  try subst k0
  omega
theorem c_275_5_11 {q0 : Nat} : vOkm T0 (eP e_275 L_275 A_275 mu_275 (some q0)) 3 ([(10, [14, 7], [], 1), (41, [12, 13], [], 0), (0, [13], [], 1), (22, [12, 9, 11], [1], 0), (90, [12], [], 0), (91, [12], [], 5), (22, [11, 10, 7], [1], 0), (90, [11], [], 0), (91, [11], [], 1007), (20, [10, 3], [1], 83), (0, [10], [], 344), (20, [9, 3], [1], 24), (0, [9], [], 298), (42, [7, 8], [], 0), (20, [8, 3], [1], 82), (90, [8], [], 0), (91, [8], [], 40), (5000, [0, 1, 2, 3, 4, 5, 6, 7], [0, 1], 5), (0, [0], [], 285), (90, [1], [], 0), (91, [1], [], 2), (90, [2], [], 0), (91, [2], [], 240), (0, [3], [], 285), (90, [4], [], 0), (91, [4], [], 2), (90, [5], [], 0), (91, [5], [], 240), (90, [6], [], -1), (91, [6], [], 39), (90, [7], [], 0), (91, [7], [], 40)], (91, [14], [], 40)) := vOk_inI fun ρ η f0 f1 f2 f3 f4 f5 f6 f7 f8 f9 f10 f11 f12 f13 f14 f15 f16 f17 f18 f19 f20 f21 f22 f23 f24 f25 f26 f27 f28 f29 f30 f31 => q_275_11 (q0 := q0) (n0 := ρ 7) (n1 := ρ 6) (n2 := ρ 5) (n3 := ρ 4) (n4 := ρ 3) (n5 := ρ 2) (n6 := ρ 1) (n7 := ρ 0) (n8 := ρ 8) (n9 := ρ 9) (n10 := ρ 10) (n11 := ρ 11) (n12 := ρ 12) (n13 := ρ 13) (n14 := ρ 14) (H0 := η 0) (H1 := η 1) f31 f30 f29 f28 f27 f26 f25 f24 f23 f22 f21 f20 f19 f18 f17 f16 f15 f14 f13 f12 f11 f10 f9 f8 f7 f6 f5 f4 f3 f2 f1 f0
theorem q_275_12 {q0 : Nat} {n0 n1 n2 n3 n4 n5 n6 n7 n8 n9 n10 n11 n12 n13 n14 : Int} {H0 H1 : gH} (f0 : n0 ≤ 40) (f1 : 0 ≤ n0) (f2 : n1 ≤ 39) (f3 : (-1) ≤ n1) (f4 : n2 ≤ 240) (f5 : 0 ≤ n2) (f6 : n3 ≤ 2) (f7 : 0 ≤ n3) (f8 : n4 = 285) (f9 : n5 ≤ 240) (f10 : 0 ≤ n5) (f11 : n6 ≤ 2) (f12 : 0 ≤ n6) (f13 : n7 = 285) (f14 : (hLe T0 H0 H1 ∧ hFr s_275.2.2.2.2 H0 H1 ∧ hWt T0 H1) ∧ (Ab_275_5 n7 n6 n5 n4 n3 n2 n1 n0 H0 H1 ∧ preb_275 n7 n6 n5 H0) ∧ some q0 = some (mub_275_5 n7 n6 n5 n4 n3 n2 n1 n0 H0 H1)) (f15 : n8 ≤ 40) (f16 : 0 ≤ n8) (f17 : n8 = hV H1 (n4).toNat 82) (f18 : n0 < n8) (f19 : n9 = 298) (f20 : n9 = hV H1 (n4).toNat 24) (f21 : n10 = 344) (f22 : n10 = hV H1 (n4).toNat 83) (f23 : n11 ≤ 1007) (f24 : 0 ≤ n11) (f25 : n11 = hV H1 (n10).toNat (n0).toNat) (f26 : n12 ≤ 5) (f27 : 0 ≤ n12) (f28 : n12 = hV H1 (n9).toNat (n11).toNat) (f29 : n13 = 1) (f30 : n12 ≠ n13) (f31 : n14 = w32 (n0 + 1)) : Ab_275_5 n7 n6 n5 n4 n3 n2 n1 n14 H0 H1 ∧ ∀ q, some q0 = some q → mub_275_5 n7 n6 n5 n4 n3 n2 n1 n14 H0 H1 < q := by
  have g4 := f14.2.1.1
  unfold Ab_275_5 at g4
  have g3 := f14.2.1.2
  unfold preb_275 at g3
  have g5 := Option.some.inj f14.2.2
  unfold mub_275_5 at g5
  unfold Ab_275_5
  unfold mub_275_5
  have e1 : n8 = hV H0 285 82 := (by rw [f8] at f17; exact f17 : n8 = hV H1 285 82).trans ((f14.1.2.1.1 285 82 kF_275_285_82))
  have e2 : hV H1 344 = hV H0 344 := fRow f14.1.2.1 344 kR_275_344
  have e3 : n11 = hV H0 344 (n0).toNat := (by rw [f21] at f25; exact f25 : n11 = hV H1 344 (n0).toNat).trans ((congrFun e2 _))
  have e4 : hV H1 298 = hV H0 298 := fRow f14.1.2.1 298 kR_275_298
  have e5 : n12 = hV H0 298 (n11).toNat := (by rw [f19] at f28; exact f28 : n12 = hV H1 298 (n11).toNat).trans ((congrFun e4 _))
  have e6 : hV H1 285 82 = hV H0 285 82 := (f14.1.2.1.1 285 82 kF_275_285_82)
  have e7 : (0 : Int) ≤ hV H0 285 82 ∧ hV H0 285 82 ≤ 40 := bTo e6 (f14.1.2.2 285 82 _ _ kW_285_82)
  try simp only [e6, e4, e2] at g4
  try simp only [e6, e4, e2]
  have k0 := g4.1
  have k1 := g4.2.1
  have y0 := g4.2.2
  have p0 := g3
  clear g3
  clear g4
  clear f17 f20 f22 f25 f28 e2 e4 e6
  subst e1
  subst e3
  subst e5
  first
  | (have ix0 : n14 = n0 + 1 := Eq.trans f31 (w32_iv (Iad (Iat f1 f0) (IC 1)) (by decide)); subst ix0; clear f31)
  | (have ix0 : n14 = n0 + 1 := Eq.trans f31 (w32_id (by omega) (by omega)); subst ix0; clear f31)
  | (unfold w32 at f31; have ix0 : n14 = n0 + 1 := (by omega); subst ix0)
  | skip
  try unfold w32 at f31
  try subst k1
  try subst k0
  refine ⟨?_, fun q hq => ?_⟩
  · refine ⟨?_, ?_, ?_⟩ <;> first | assumption | omega | trivial
  · have g6 := Option.some.inj hq
    subst g6
    omega
theorem c_275_5_12 {q0 : Nat} : vOkm T0 (eP e_275 L_275 A_275 mu_275 (some q0)) 3 ([(10, [14, 7], [], 1), (41, [12, 13], [], 0), (0, [13], [], 1), (22, [12, 9, 11], [1], 0), (90, [12], [], 0), (91, [12], [], 5), (22, [11, 10, 7], [1], 0), (90, [11], [], 0), (91, [11], [], 1007), (20, [10, 3], [1], 83), (0, [10], [], 344), (20, [9, 3], [1], 24), (0, [9], [], 298), (42, [7, 8], [], 0), (20, [8, 3], [1], 82), (90, [8], [], 0), (91, [8], [], 40), (5000, [0, 1, 2, 3, 4, 5, 6, 7], [0, 1], 5), (0, [0], [], 285), (90, [1], [], 0), (91, [1], [], 2), (90, [2], [], 0), (91, [2], [], 240), (0, [3], [], 285), (90, [4], [], 0), (91, [4], [], 2), (90, [5], [], 0), (91, [5], [], 240), (90, [6], [], -1), (91, [6], [], 39), (90, [7], [], 0), (91, [7], [], 40)], (4000, [3, 4, 5, 6, 14], [1], 5)) := vOk_inI fun ρ η f0 f1 f2 f3 f4 f5 f6 f7 f8 f9 f10 f11 f12 f13 f14 f15 f16 f17 f18 f19 f20 f21 f22 f23 f24 f25 f26 f27 f28 f29 f30 f31 => q_275_12 (q0 := q0) (n0 := ρ 7) (n1 := ρ 6) (n2 := ρ 5) (n3 := ρ 4) (n4 := ρ 3) (n5 := ρ 2) (n6 := ρ 1) (n7 := ρ 0) (n8 := ρ 8) (n9 := ρ 9) (n10 := ρ 10) (n11 := ρ 11) (n12 := ρ 12) (n13 := ρ 13) (n14 := ρ 14) (H0 := η 0) (H1 := η 1) f31 f30 f29 f28 f27 f26 f25 f24 f23 f22 f21 f20 f19 f18 f17 f16 f15 f14 f13 f12 f11 f10 f9 f8 f7 f6 f5 f4 f3 f2 f1 f0
theorem q_275_13 {q0 : Nat} {n0 n1 n2 n3 n4 n5 n6 n7 n8 n9 n10 n11 n12 n13 n14 : Int} {H0 H1 : gH} (f0 : n0 ≤ 40) (f1 : 0 ≤ n0) (f2 : n1 ≤ 39) (f3 : (-1) ≤ n1) (f4 : n2 ≤ 240) (f5 : 0 ≤ n2) (f6 : n3 ≤ 2) (f7 : 0 ≤ n3) (f8 : n4 = 285) (f9 : n5 ≤ 240) (f10 : 0 ≤ n5) (f11 : n6 ≤ 2) (f12 : 0 ≤ n6) (f13 : n7 = 285) (f14 : (hLe T0 H0 H1 ∧ hFr s_275.2.2.2.2 H0 H1 ∧ hWt T0 H1) ∧ (Ab_275_5 n7 n6 n5 n4 n3 n2 n1 n0 H0 H1 ∧ preb_275 n7 n6 n5 H0) ∧ some q0 = some (mub_275_5 n7 n6 n5 n4 n3 n2 n1 n0 H0 H1)) (f15 : n8 ≤ 40) (f16 : 0 ≤ n8) (f17 : n8 = hV H1 (n4).toNat 82) (f18 : n0 < n8) (f19 : n9 = 298) (f20 : n9 = hV H1 (n4).toNat 24) (f21 : n10 = 344) (f22 : n10 = hV H1 (n4).toNat 83) (f23 : n11 ≤ 1007) (f24 : 0 ≤ n11) (f25 : n11 = hV H1 (n10).toNat (n0).toNat) (f26 : n12 ≤ 5) (f27 : 0 ≤ n12) (f28 : n12 = hV H1 (n9).toNat (n11).toNat) (f29 : n13 = 1) (f30 : n12 = n13) (f31 : n14 = 344) (f32 : n14 = hV H1 (n4).toNat 83) : 0 ≤ n0 ∧ n0 < 40 := by
  have g4 := f14.2.1.1
  unfold Ab_275_5 at g4
  have g3 := f14.2.1.2
  unfold preb_275 at g3
  have e1 : n8 = hV H0 285 82 := (by rw [f8] at f17; exact f17 : n8 = hV H1 285 82).trans ((f14.1.2.1.1 285 82 kF_275_285_82))
  have e2 : hV H1 344 = hV H0 344 := fRow f14.1.2.1 344 kR_275_344
  have e3 : n11 = hV H0 344 (n0).toNat := (by rw [f21] at f25; exact f25 : n11 = hV H1 344 (n0).toNat).trans ((congrFun e2 _))
  have e4 : hV H1 298 = hV H0 298 := fRow f14.1.2.1 298 kR_275_298
  have e5 : n12 = hV H0 298 (n11).toNat := (by rw [f19] at f28; exact f28 : n12 = hV H1 298 (n11).toNat).trans ((congrFun e4 _))
  have e6 : hV H1 285 82 = hV H0 285 82 := (f14.1.2.1.1 285 82 kF_275_285_82)
  have e7 : (0 : Int) ≤ hV H0 285 82 ∧ hV H0 285 82 ≤ 40 := bTo e6 (f14.1.2.2 285 82 _ _ kW_285_82)
  try simp only [e6, e4, e2] at g4
  have k0 := g4.1
  have k1 := g4.2.1
  have y0 := g4.2.2
  have p0 := g3
  clear g3
  clear g4
  clear f17 f20 f22 f25 f28 f32 e2 e4 e6
  subst e1
  subst e3
  subst e5
  try subst k1
  try subst k0
  omega
theorem c_275_5_13 {q0 : Nat} : vOkm T0 (eP e_275 L_275 A_275 mu_275 (some q0)) 3 ([(20, [15, 3], [1], 83), (0, [15], [], 344), (40, [12, 13], [], 0), (0, [13], [], 1), (22, [12, 9, 11], [1], 0), (90, [12], [], 0), (91, [12], [], 5), (22, [11, 10, 7], [1], 0), (90, [11], [], 0), (91, [11], [], 1007), (20, [10, 3], [1], 83), (0, [10], [], 344), (20, [9, 3], [1], 24), (0, [9], [], 298), (42, [7, 8], [], 0), (20, [8, 3], [1], 82), (90, [8], [], 0), (91, [8], [], 40), (5000, [0, 1, 2, 3, 4, 5, 6, 7], [0, 1], 5), (0, [0], [], 285), (90, [1], [], 0), (91, [1], [], 2), (90, [2], [], 0), (91, [2], [], 240), (0, [3], [], 285), (90, [4], [], 0), (91, [4], [], 2), (90, [5], [], 0), (91, [5], [], 240), (90, [6], [], -1), (91, [6], [], 39), (90, [7], [], 0), (91, [7], [], 40)], (70, [7], [], 40)) := vOk_inI fun ρ η f0 f1 f2 f3 f4 f5 f6 f7 f8 f9 f10 f11 f12 f13 f14 f15 f16 f17 f18 f19 f20 f21 f22 f23 f24 f25 f26 f27 f28 f29 f30 f31 f32 => q_275_13 (q0 := q0) (n0 := ρ 7) (n1 := ρ 6) (n2 := ρ 5) (n3 := ρ 4) (n4 := ρ 3) (n5 := ρ 2) (n6 := ρ 1) (n7 := ρ 0) (n8 := ρ 8) (n9 := ρ 9) (n10 := ρ 10) (n11 := ρ 11) (n12 := ρ 12) (n13 := ρ 13) (n14 := ρ 15) (H0 := η 0) (H1 := η 1) f32 f31 f30 f29 f28 f27 f26 f25 f24 f23 f22 f21 f20 f19 f18 f17 f16 f15 f14 f13 f12 f11 f10 f9 f8 f7 f6 f5 f4 f3 f2 f1 f0
theorem kR_275_300 : vFreeR s_275.2.2.2.2 300 = true := by decide +kernel
theorem q_275_14 {q0 : Nat} {n0 n1 n2 n3 n4 n5 n6 n7 n8 n9 n10 n11 n12 n13 n14 n15 n16 n17 n18 : Int} {H0 H1 : gH} (f0 : n0 ≤ 40) (f1 : 0 ≤ n0) (f2 : n1 ≤ 39) (f3 : (-1) ≤ n1) (f4 : n2 ≤ 240) (f5 : 0 ≤ n2) (f6 : n3 ≤ 2) (f7 : 0 ≤ n3) (f8 : n4 = 285) (f9 : n5 ≤ 240) (f10 : 0 ≤ n5) (f11 : n6 ≤ 2) (f12 : 0 ≤ n6) (f13 : n7 = 285) (f14 : (hLe T0 H0 H1 ∧ hFr s_275.2.2.2.2 H0 H1 ∧ hWt T0 H1) ∧ (Ab_275_5 n7 n6 n5 n4 n3 n2 n1 n0 H0 H1 ∧ preb_275 n7 n6 n5 H0) ∧ some q0 = some (mub_275_5 n7 n6 n5 n4 n3 n2 n1 n0 H0 H1)) (f15 : n8 ≤ 40) (f16 : 0 ≤ n8) (f17 : n8 = hV H1 (n4).toNat 82) (f18 : n0 < n8) (f19 : n9 = 298) (f20 : n9 = hV H1 (n4).toNat 24) (f21 : n10 = 344) (f22 : n10 = hV H1 (n4).toNat 83) (f23 : n11 ≤ 1007) (f24 : 0 ≤ n11) (f25 : n11 = hV H1 (n10).toNat (n0).toNat) (f26 : n12 ≤ 5) (f27 : 0 ≤ n12) (f28 : n12 = hV H1 (n9).toNat (n11).toNat) (f29 : n13 = 1) (f30 : n12 = n13) (f31 : n14 = 300) (f32 : n14 = hV H1 (n4).toNat 26) (f33 : n15 = 344) (f34 : n15 = hV H1 (n4).toNat 83) (f35 : n16 ≤ 1007) (f36 : 0 ≤ n16) (f37 : n16 = hV H1 (n15).toNat (n0).toNat) (f38 : n17 ≤ 9999) (f39 : (-1) ≤ n17) (f40 : n17 = hV H1 (n14).toNat (n16).toNat) (f41 : n17 ≠ n3) (f42 : n18 = w32 (n0 + 1)) : 0 ≤ n18 := by
  have g4 := f14.2.1.1
  unfold Ab_275_5 at g4
  have g3 := f14.2.1.2
  unfold preb_275 at g3
  have e1 : n8 = hV H0 285 82 := (by rw [f8] at f17; exact f17 : n8 = hV H1 285 82).trans ((f14.1.2.1.1 285 82 kF_275_285_82))
  have e2 : hV H1 344 = hV H0 344 := fRow f14.1.2.1 344 kR_275_344
  have e3 : n11 = hV H0 344 (n0).toNat := (by rw [f21] at f25; exact f25 : n11 = hV H1 344 (n0).toNat).trans ((congrFun e2 _))
  have e4 : hV H1 298 = hV H0 298 := fRow f14.1.2.1 298 kR_275_298
  have e5 : n12 = hV H0 298 (n11).toNat := (by rw [f19] at f28; exact f28 : n12 = hV H1 298 (n11).toNat).trans ((congrFun e4 _))
  have e6 : n16 = hV H0 344 (n0).toNat := (by rw [f33] at f37; exact f37 : n16 = hV H1 344 (n0).toNat).trans ((congrFun e2 _))
  have e8 : n17 = hV H0 300 (n16).toNat := (by rw [f31] at f40; exact f40 : n17 = hV H1 300 (n16).toNat).trans ((congrFun (fRow f14.1.2.1 300 kR_275_300) _))
  have e9 : hV H1 285 82 = hV H0 285 82 := (f14.1.2.1.1 285 82 kF_275_285_82)
  have e10 : (0 : Int) ≤ hV H0 285 82 ∧ hV H0 285 82 ≤ 40 := bTo e9 (f14.1.2.2 285 82 _ _ kW_285_82)
  try simp only [e9, e4, e2] at g4
  have k0 := g4.1
  have k1 := g4.2.1
  have y0 := g4.2.2
  have p0 := g3
  clear g3
  clear g4
  clear f17 f20 f22 f25 f28 f32 f34 f37 f40 e2 e4 e9
  subst e1
  subst e3
  subst e5
  subst e6
  subst e8
  first
  | (have ix0 : n18 = n0 + 1 := Eq.trans f42 (w32_iv (Iad (Iat f1 f0) (IC 1)) (by decide)); subst ix0; clear f42)
  | (have ix0 : n18 = n0 + 1 := Eq.trans f42 (w32_id (by omega) (by omega)); subst ix0; clear f42)
  | (unfold w32 at f42; have ix0 : n18 = n0 + 1 := (by omega); subst ix0)
  | skip
  try unfold w32 at f42
  try subst k1
  try subst k0
  omega
theorem c_275_5_14 {q0 : Nat} : vOkm T0 (eP e_275 L_275 A_275 mu_275 (some q0)) 3 ([(10, [18, 7], [], 1), (41, [17, 4], [], 0), (22, [17, 14, 16], [1], 0), (90, [17], [], -1), (91, [17], [], 9999), (22, [16, 15, 7], [1], 0), (90, [16], [], 0), (91, [16], [], 1007), (20, [15, 3], [1], 83), (0, [15], [], 344), (20, [14, 3], [1], 26), (0, [14], [], 300), (40, [12, 13], [], 0), (0, [13], [], 1), (22, [12, 9, 11], [1], 0), (90, [12], [], 0), (91, [12], [], 5), (22, [11, 10, 7], [1], 0), (90, [11], [], 0), (91, [11], [], 1007), (20, [10, 3], [1], 83), (0, [10], [], 344), (20, [9, 3], [1], 24), (0, [9], [], 298), (42, [7, 8], [], 0), (20, [8, 3], [1], 82), (90, [8], [], 0), (91, [8], [], 40), (5000, [0, 1, 2, 3, 4, 5, 6, 7], [0, 1], 5), (0, [0], [], 285), (90, [1], [], 0), (91, [1], [], 2), (90, [2], [], 0), (91, [2], [], 240), (0, [3], [], 285), (90, [4], [], 0), (91, [4], [], 2), (90, [5], [], 0), (91, [5], [], 240), (90, [6], [], -1), (91, [6], [], 39), (90, [7], [], 0), (91, [7], [], 40)], (90, [18], [], 0)) := vOk_inI fun ρ η f0 f1 f2 f3 f4 f5 f6 f7 f8 f9 f10 f11 f12 f13 f14 f15 f16 f17 f18 f19 f20 f21 f22 f23 f24 f25 f26 f27 f28 f29 f30 f31 f32 f33 f34 f35 f36 f37 f38 f39 f40 f41 f42 => q_275_14 (q0 := q0) (n0 := ρ 7) (n1 := ρ 6) (n2 := ρ 5) (n3 := ρ 4) (n4 := ρ 3) (n5 := ρ 2) (n6 := ρ 1) (n7 := ρ 0) (n8 := ρ 8) (n9 := ρ 9) (n10 := ρ 10) (n11 := ρ 11) (n12 := ρ 12) (n13 := ρ 13) (n14 := ρ 14) (n15 := ρ 15) (n16 := ρ 16) (n17 := ρ 17) (n18 := ρ 18) (H0 := η 0) (H1 := η 1) f42 f41 f40 f39 f38 f37 f36 f35 f34 f33 f32 f31 f30 f29 f28 f27 f26 f25 f24 f23 f22 f21 f20 f19 f18 f17 f16 f15 f14 f13 f12 f11 f10 f9 f8 f7 f6 f5 f4 f3 f2 f1 f0
theorem q_275_15 {q0 : Nat} {n0 n1 n2 n3 n4 n5 n6 n7 n8 n9 n10 n11 n12 n13 n14 n15 n16 n17 n18 : Int} {H0 H1 : gH} (f0 : n0 ≤ 40) (f1 : 0 ≤ n0) (f2 : n1 ≤ 39) (f3 : (-1) ≤ n1) (f4 : n2 ≤ 240) (f5 : 0 ≤ n2) (f6 : n3 ≤ 2) (f7 : 0 ≤ n3) (f8 : n4 = 285) (f9 : n5 ≤ 240) (f10 : 0 ≤ n5) (f11 : n6 ≤ 2) (f12 : 0 ≤ n6) (f13 : n7 = 285) (f14 : (hLe T0 H0 H1 ∧ hFr s_275.2.2.2.2 H0 H1 ∧ hWt T0 H1) ∧ (Ab_275_5 n7 n6 n5 n4 n3 n2 n1 n0 H0 H1 ∧ preb_275 n7 n6 n5 H0) ∧ some q0 = some (mub_275_5 n7 n6 n5 n4 n3 n2 n1 n0 H0 H1)) (f15 : n8 ≤ 40) (f16 : 0 ≤ n8) (f17 : n8 = hV H1 (n4).toNat 82) (f18 : n0 < n8) (f19 : n9 = 298) (f20 : n9 = hV H1 (n4).toNat 24) (f21 : n10 = 344) (f22 : n10 = hV H1 (n4).toNat 83) (f23 : n11 ≤ 1007) (f24 : 0 ≤ n11) (f25 : n11 = hV H1 (n10).toNat (n0).toNat) (f26 : n12 ≤ 5) (f27 : 0 ≤ n12) (f28 : n12 = hV H1 (n9).toNat (n11).toNat) (f29 : n13 = 1) (f30 : n12 = n13) (f31 : n14 = 300) (f32 : n14 = hV H1 (n4).toNat 26) (f33 : n15 = 344) (f34 : n15 = hV H1 (n4).toNat 83) (f35 : n16 ≤ 1007) (f36 : 0 ≤ n16) (f37 : n16 = hV H1 (n15).toNat (n0).toNat) (f38 : n17 ≤ 9999) (f39 : (-1) ≤ n17) (f40 : n17 = hV H1 (n14).toNat (n16).toNat) (f41 : n17 ≠ n3) (f42 : n18 = w32 (n0 + 1)) : n18 ≤ 40 := by
  have g4 := f14.2.1.1
  unfold Ab_275_5 at g4
  have g3 := f14.2.1.2
  unfold preb_275 at g3
  have e1 : n8 = hV H0 285 82 := (by rw [f8] at f17; exact f17 : n8 = hV H1 285 82).trans ((f14.1.2.1.1 285 82 kF_275_285_82))
  have e2 : hV H1 344 = hV H0 344 := fRow f14.1.2.1 344 kR_275_344
  have e3 : n11 = hV H0 344 (n0).toNat := (by rw [f21] at f25; exact f25 : n11 = hV H1 344 (n0).toNat).trans ((congrFun e2 _))
  have e4 : hV H1 298 = hV H0 298 := fRow f14.1.2.1 298 kR_275_298
  have e5 : n12 = hV H0 298 (n11).toNat := (by rw [f19] at f28; exact f28 : n12 = hV H1 298 (n11).toNat).trans ((congrFun e4 _))
  have e6 : n16 = hV H0 344 (n0).toNat := (by rw [f33] at f37; exact f37 : n16 = hV H1 344 (n0).toNat).trans ((congrFun e2 _))
  have e8 : n17 = hV H0 300 (n16).toNat := (by rw [f31] at f40; exact f40 : n17 = hV H1 300 (n16).toNat).trans ((congrFun (fRow f14.1.2.1 300 kR_275_300) _))
  have e9 : hV H1 285 82 = hV H0 285 82 := (f14.1.2.1.1 285 82 kF_275_285_82)
  have e10 : (0 : Int) ≤ hV H0 285 82 ∧ hV H0 285 82 ≤ 40 := bTo e9 (f14.1.2.2 285 82 _ _ kW_285_82)
  try simp only [e9, e4, e2] at g4
  have k0 := g4.1
  have k1 := g4.2.1
  have y0 := g4.2.2
  have p0 := g3
  clear g3
  clear g4
  clear f17 f20 f22 f25 f28 f32 f34 f37 f40 e2 e4 e9
  subst e1
  subst e3
  subst e5
  subst e6
  subst e8
  first
  | (have ix0 : n18 = n0 + 1 := Eq.trans f42 (w32_iv (Iad (Iat f1 f0) (IC 1)) (by decide)); subst ix0; clear f42)
  | (have ix0 : n18 = n0 + 1 := Eq.trans f42 (w32_id (by omega) (by omega)); subst ix0; clear f42)
  | (unfold w32 at f42; have ix0 : n18 = n0 + 1 := (by omega); subst ix0)
  | skip
  try unfold w32 at f42
  try subst k1
  try subst k0
  omega
theorem c_275_5_15 {q0 : Nat} : vOkm T0 (eP e_275 L_275 A_275 mu_275 (some q0)) 3 ([(10, [18, 7], [], 1), (41, [17, 4], [], 0), (22, [17, 14, 16], [1], 0), (90, [17], [], -1), (91, [17], [], 9999), (22, [16, 15, 7], [1], 0), (90, [16], [], 0), (91, [16], [], 1007), (20, [15, 3], [1], 83), (0, [15], [], 344), (20, [14, 3], [1], 26), (0, [14], [], 300), (40, [12, 13], [], 0), (0, [13], [], 1), (22, [12, 9, 11], [1], 0), (90, [12], [], 0), (91, [12], [], 5), (22, [11, 10, 7], [1], 0), (90, [11], [], 0), (91, [11], [], 1007), (20, [10, 3], [1], 83), (0, [10], [], 344), (20, [9, 3], [1], 24), (0, [9], [], 298), (42, [7, 8], [], 0), (20, [8, 3], [1], 82), (90, [8], [], 0), (91, [8], [], 40), (5000, [0, 1, 2, 3, 4, 5, 6, 7], [0, 1], 5), (0, [0], [], 285), (90, [1], [], 0), (91, [1], [], 2), (90, [2], [], 0), (91, [2], [], 240), (0, [3], [], 285), (90, [4], [], 0), (91, [4], [], 2), (90, [5], [], 0), (91, [5], [], 240), (90, [6], [], -1), (91, [6], [], 39), (90, [7], [], 0), (91, [7], [], 40)], (91, [18], [], 40)) := vOk_inI fun ρ η f0 f1 f2 f3 f4 f5 f6 f7 f8 f9 f10 f11 f12 f13 f14 f15 f16 f17 f18 f19 f20 f21 f22 f23 f24 f25 f26 f27 f28 f29 f30 f31 f32 f33 f34 f35 f36 f37 f38 f39 f40 f41 f42 => q_275_15 (q0 := q0) (n0 := ρ 7) (n1 := ρ 6) (n2 := ρ 5) (n3 := ρ 4) (n4 := ρ 3) (n5 := ρ 2) (n6 := ρ 1) (n7 := ρ 0) (n8 := ρ 8) (n9 := ρ 9) (n10 := ρ 10) (n11 := ρ 11) (n12 := ρ 12) (n13 := ρ 13) (n14 := ρ 14) (n15 := ρ 15) (n16 := ρ 16) (n17 := ρ 17) (n18 := ρ 18) (H0 := η 0) (H1 := η 1) f42 f41 f40 f39 f38 f37 f36 f35 f34 f33 f32 f31 f30 f29 f28 f27 f26 f25 f24 f23 f22 f21 f20 f19 f18 f17 f16 f15 f14 f13 f12 f11 f10 f9 f8 f7 f6 f5 f4 f3 f2 f1 f0
theorem q_275_16 {q0 : Nat} {n0 n1 n2 n3 n4 n5 n6 n7 n8 n9 n10 n11 n12 n13 n14 n15 n16 n17 n18 : Int} {H0 H1 : gH} (f0 : n0 ≤ 40) (f1 : 0 ≤ n0) (f2 : n1 ≤ 39) (f3 : (-1) ≤ n1) (f4 : n2 ≤ 240) (f5 : 0 ≤ n2) (f6 : n3 ≤ 2) (f7 : 0 ≤ n3) (f8 : n4 = 285) (f9 : n5 ≤ 240) (f10 : 0 ≤ n5) (f11 : n6 ≤ 2) (f12 : 0 ≤ n6) (f13 : n7 = 285) (f14 : (hLe T0 H0 H1 ∧ hFr s_275.2.2.2.2 H0 H1 ∧ hWt T0 H1) ∧ (Ab_275_5 n7 n6 n5 n4 n3 n2 n1 n0 H0 H1 ∧ preb_275 n7 n6 n5 H0) ∧ some q0 = some (mub_275_5 n7 n6 n5 n4 n3 n2 n1 n0 H0 H1)) (f15 : n8 ≤ 40) (f16 : 0 ≤ n8) (f17 : n8 = hV H1 (n4).toNat 82) (f18 : n0 < n8) (f19 : n9 = 298) (f20 : n9 = hV H1 (n4).toNat 24) (f21 : n10 = 344) (f22 : n10 = hV H1 (n4).toNat 83) (f23 : n11 ≤ 1007) (f24 : 0 ≤ n11) (f25 : n11 = hV H1 (n10).toNat (n0).toNat) (f26 : n12 ≤ 5) (f27 : 0 ≤ n12) (f28 : n12 = hV H1 (n9).toNat (n11).toNat) (f29 : n13 = 1) (f30 : n12 = n13) (f31 : n14 = 300) (f32 : n14 = hV H1 (n4).toNat 26) (f33 : n15 = 344) (f34 : n15 = hV H1 (n4).toNat 83) (f35 : n16 ≤ 1007) (f36 : 0 ≤ n16) (f37 : n16 = hV H1 (n15).toNat (n0).toNat) (f38 : n17 ≤ 9999) (f39 : (-1) ≤ n17) (f40 : n17 = hV H1 (n14).toNat (n16).toNat) (f41 : n17 ≠ n3) (f42 : n18 = w32 (n0 + 1)) : Ab_275_5 n7 n6 n5 n4 n3 n2 n1 n18 H0 H1 ∧ ∀ q, some q0 = some q → mub_275_5 n7 n6 n5 n4 n3 n2 n1 n18 H0 H1 < q := by
  have g4 := f14.2.1.1
  unfold Ab_275_5 at g4
  have g3 := f14.2.1.2
  unfold preb_275 at g3
  have g5 := Option.some.inj f14.2.2
  unfold mub_275_5 at g5
  unfold Ab_275_5
  unfold mub_275_5
  have e1 : n8 = hV H0 285 82 := (by rw [f8] at f17; exact f17 : n8 = hV H1 285 82).trans ((f14.1.2.1.1 285 82 kF_275_285_82))
  have e2 : hV H1 344 = hV H0 344 := fRow f14.1.2.1 344 kR_275_344
  have e3 : n11 = hV H0 344 (n0).toNat := (by rw [f21] at f25; exact f25 : n11 = hV H1 344 (n0).toNat).trans ((congrFun e2 _))
  have e4 : hV H1 298 = hV H0 298 := fRow f14.1.2.1 298 kR_275_298
  have e5 : n12 = hV H0 298 (n11).toNat := (by rw [f19] at f28; exact f28 : n12 = hV H1 298 (n11).toNat).trans ((congrFun e4 _))
  have e6 : n16 = hV H0 344 (n0).toNat := (by rw [f33] at f37; exact f37 : n16 = hV H1 344 (n0).toNat).trans ((congrFun e2 _))
  have e8 : n17 = hV H0 300 (n16).toNat := (by rw [f31] at f40; exact f40 : n17 = hV H1 300 (n16).toNat).trans ((congrFun (fRow f14.1.2.1 300 kR_275_300) _))
  have e9 : hV H1 285 82 = hV H0 285 82 := (f14.1.2.1.1 285 82 kF_275_285_82)
  have e10 : (0 : Int) ≤ hV H0 285 82 ∧ hV H0 285 82 ≤ 40 := bTo e9 (f14.1.2.2 285 82 _ _ kW_285_82)
  try simp only [e9, e4, e2] at g4
  try simp only [e9, e4, e2]
  have k0 := g4.1
  have k1 := g4.2.1
  have y0 := g4.2.2
  have p0 := g3
  clear g3
  clear g4
  clear f17 f20 f22 f25 f28 f32 f34 f37 f40 e2 e4 e9
  subst e1
  subst e3
  subst e5
  subst e6
  subst e8
  first
  | (have ix0 : n18 = n0 + 1 := Eq.trans f42 (w32_iv (Iad (Iat f1 f0) (IC 1)) (by decide)); subst ix0; clear f42)
  | (have ix0 : n18 = n0 + 1 := Eq.trans f42 (w32_id (by omega) (by omega)); subst ix0; clear f42)
  | (unfold w32 at f42; have ix0 : n18 = n0 + 1 := (by omega); subst ix0)
  | skip
  try unfold w32 at f42
  try subst k1
  try subst k0
  refine ⟨?_, fun q hq => ?_⟩
  · refine ⟨?_, ?_, ?_⟩ <;> first | assumption | omega | trivial
  · have g6 := Option.some.inj hq
    subst g6
    omega
theorem c_275_5_16 {q0 : Nat} : vOkm T0 (eP e_275 L_275 A_275 mu_275 (some q0)) 3 ([(10, [18, 7], [], 1), (41, [17, 4], [], 0), (22, [17, 14, 16], [1], 0), (90, [17], [], -1), (91, [17], [], 9999), (22, [16, 15, 7], [1], 0), (90, [16], [], 0), (91, [16], [], 1007), (20, [15, 3], [1], 83), (0, [15], [], 344), (20, [14, 3], [1], 26), (0, [14], [], 300), (40, [12, 13], [], 0), (0, [13], [], 1), (22, [12, 9, 11], [1], 0), (90, [12], [], 0), (91, [12], [], 5), (22, [11, 10, 7], [1], 0), (90, [11], [], 0), (91, [11], [], 1007), (20, [10, 3], [1], 83), (0, [10], [], 344), (20, [9, 3], [1], 24), (0, [9], [], 298), (42, [7, 8], [], 0), (20, [8, 3], [1], 82), (90, [8], [], 0), (91, [8], [], 40), (5000, [0, 1, 2, 3, 4, 5, 6, 7], [0, 1], 5), (0, [0], [], 285), (90, [1], [], 0), (91, [1], [], 2), (90, [2], [], 0), (91, [2], [], 240), (0, [3], [], 285), (90, [4], [], 0), (91, [4], [], 2), (90, [5], [], 0), (91, [5], [], 240), (90, [6], [], -1), (91, [6], [], 39), (90, [7], [], 0), (91, [7], [], 40)], (4000, [3, 4, 5, 6, 18], [1], 5)) := vOk_inI fun ρ η f0 f1 f2 f3 f4 f5 f6 f7 f8 f9 f10 f11 f12 f13 f14 f15 f16 f17 f18 f19 f20 f21 f22 f23 f24 f25 f26 f27 f28 f29 f30 f31 f32 f33 f34 f35 f36 f37 f38 f39 f40 f41 f42 => q_275_16 (q0 := q0) (n0 := ρ 7) (n1 := ρ 6) (n2 := ρ 5) (n3 := ρ 4) (n4 := ρ 3) (n5 := ρ 2) (n6 := ρ 1) (n7 := ρ 0) (n8 := ρ 8) (n9 := ρ 9) (n10 := ρ 10) (n11 := ρ 11) (n12 := ρ 12) (n13 := ρ 13) (n14 := ρ 14) (n15 := ρ 15) (n16 := ρ 16) (n17 := ρ 17) (n18 := ρ 18) (H0 := η 0) (H1 := η 1) f42 f41 f40 f39 f38 f37 f36 f35 f34 f33 f32 f31 f30 f29 f28 f27 f26 f25 f24 f23 f22 f21 f20 f19 f18 f17 f16 f15 f14 f13 f12 f11 f10 f9 f8 f7 f6 f5 f4 f3 f2 f1 f0
theorem q_275_17 {q0 : Nat} {n0 n1 n2 n3 n4 n5 n6 n7 n8 n9 n10 n11 n12 n13 n14 n15 n16 n17 : Int} {H0 H1 : gH} (f0 : n0 ≤ 40) (f1 : 0 ≤ n0) (f2 : n1 ≤ 39) (f3 : (-1) ≤ n1) (f4 : n2 ≤ 240) (f5 : 0 ≤ n2) (f6 : n3 ≤ 2) (f7 : 0 ≤ n3) (f8 : n4 = 285) (f9 : n5 ≤ 240) (f10 : 0 ≤ n5) (f11 : n6 ≤ 2) (f12 : 0 ≤ n6) (f13 : n7 = 285) (f14 : (hLe T0 H0 H1 ∧ hFr s_275.2.2.2.2 H0 H1 ∧ hWt T0 H1) ∧ (Ab_275_5 n7 n6 n5 n4 n3 n2 n1 n0 H0 H1 ∧ preb_275 n7 n6 n5 H0) ∧ some q0 = some (mub_275_5 n7 n6 n5 n4 n3 n2 n1 n0 H0 H1)) (f15 : n8 ≤ 40) (f16 : 0 ≤ n8) (f17 : n8 = hV H1 (n4).toNat 82) (f18 : n0 < n8) (f19 : n9 = 298) (f20 : n9 = hV H1 (n4).toNat 24) (f21 : n10 = 344) (f22 : n10 = hV H1 (n4).toNat 83) (f23 : n11 ≤ 1007) (f24 : 0 ≤ n11) (f25 : n11 = hV H1 (n10).toNat (n0).toNat) (f26 : n12 ≤ 5) (f27 : 0 ≤ n12) (f28 : n12 = hV H1 (n9).toNat (n11).toNat) (f29 : n13 = 1) (f30 : n12 = n13) (f31 : n14 = 300) (f32 : n14 = hV H1 (n4).toNat 26) (f33 : n15 = 344) (f34 : n15 = hV H1 (n4).toNat 83) (f35 : n16 ≤ 1007) (f36 : 0 ≤ n16) (f37 : n16 = hV H1 (n15).toNat (n0).toNat) (f38 : n17 ≤ 9999) (f39 : (-1) ≤ n17) (f40 : n17 = hV H1 (n14).toNat (n16).toNat) (f41 : n17 = n3) : n0 ≤ 39 := by
  have g4 := f14.2.1.1
  unfold Ab_275_5 at g4
  have g3 := f14.2.1.2
  unfold preb_275 at g3
  have e1 : n8 = hV H0 285 82 := (by rw [f8] at f17; exact f17 : n8 = hV H1 285 82).trans ((f14.1.2.1.1 285 82 kF_275_285_82))
  have e2 : hV H1 344 = hV H0 344 := fRow f14.1.2.1 344 kR_275_344
  have e3 : n11 = hV H0 344 (n0).toNat := (by rw [f21] at f25; exact f25 : n11 = hV H1 344 (n0).toNat).trans ((congrFun e2 _))
  have e4 : hV H1 298 = hV H0 298 := fRow f14.1.2.1 298 kR_275_298
  have e5 : n12 = hV H0 298 (n11).toNat := (by rw [f19] at f28; exact f28 : n12 = hV H1 298 (n11).toNat).trans ((congrFun e4 _))
  have e6 : n16 = hV H0 344 (n0).toNat := (by rw [f33] at f37; exact f37 : n16 = hV H1 344 (n0).toNat).trans ((congrFun e2 _))
  have e8 : n17 = hV H0 300 (n16).toNat := (by rw [f31] at f40; exact f40 : n17 = hV H1 300 (n16).toNat).trans ((congrFun (fRow f14.1.2.1 300 kR_275_300) _))
  have e9 : hV H1 285 82 = hV H0 285 82 := (f14.1.2.1.1 285 82 kF_275_285_82)
  have e10 : (0 : Int) ≤ hV H0 285 82 ∧ hV H0 285 82 ≤ 40 := bTo e9 (f14.1.2.2 285 82 _ _ kW_285_82)
  try simp only [e9, e4, e2] at g4
  have k0 := g4.1
  have k1 := g4.2.1
  have y0 := g4.2.2
  have p0 := g3
  clear g3
  clear g4
  clear f17 f20 f22 f25 f28 f32 f34 f37 f40 e2 e4 e9
  subst e1
  subst e3
  subst e5
  subst e6
  subst e8
  try subst k1
  try subst k0
  omega
theorem c_275_5_17 {q0 : Nat} : vOkm T0 (eP e_275 L_275 A_275 mu_275 (some q0)) 3 ([(40, [17, 4], [], 0), (22, [17, 14, 16], [1], 0), (90, [17], [], -1), (91, [17], [], 9999), (22, [16, 15, 7], [1], 0), (90, [16], [], 0), (91, [16], [], 1007), (20, [15, 3], [1], 83), (0, [15], [], 344), (20, [14, 3], [1], 26), (0, [14], [], 300), (40, [12, 13], [], 0), (0, [13], [], 1), (22, [12, 9, 11], [1], 0), (90, [12], [], 0), (91, [12], [], 5), (22, [11, 10, 7], [1], 0), (90, [11], [], 0), (91, [11], [], 1007), (20, [10, 3], [1], 83), (0, [10], [], 344), (20, [9, 3], [1], 24), (0, [9], [], 298), (42, [7, 8], [], 0), (20, [8, 3], [1], 82), (90, [8], [], 0), (91, [8], [], 40), (5000, [0, 1, 2, 3, 4, 5, 6, 7], [0, 1], 5), (0, [0], [], 285), (90, [1], [], 0), (91, [1], [], 2), (90, [2], [], 0), (91, [2], [], 240), (0, [3], [], 285), (90, [4], [], 0), (91, [4], [], 2), (90, [5], [], 0), (91, [5], [], 240), (90, [6], [], -1), (91, [6], [], 39), (90, [7], [], 0), (91, [7], [], 40)], (91, [7], [], 39)) := vOk_inI fun ρ η f0 f1 f2 f3 f4 f5 f6 f7 f8 f9 f10 f11 f12 f13 f14 f15 f16 f17 f18 f19 f20 f21 f22 f23 f24 f25 f26 f27 f28 f29 f30 f31 f32 f33 f34 f35 f36 f37 f38 f39 f40 f41 => q_275_17 (q0 := q0) (n0 := ρ 7) (n1 := ρ 6) (n2 := ρ 5) (n3 := ρ 4) (n4 := ρ 3) (n5 := ρ 2) (n6 := ρ 1) (n7 := ρ 0) (n8 := ρ 8) (n9 := ρ 9) (n10 := ρ 10) (n11 := ρ 11) (n12 := ρ 12) (n13 := ρ 13) (n14 := ρ 14) (n15 := ρ 15) (n16 := ρ 16) (n17 := ρ 17) (H0 := η 0) (H1 := η 1) f41 f40 f39 f38 f37 f36 f35 f34 f33 f32 f31 f30 f29 f28 f27 f26 f25 f24 f23 f22 f21 f20 f19 f18 f17 f16 f15 f14 f13 f12 f11 f10 f9 f8 f7 f6 f5 f4 f3 f2 f1 f0
theorem q_275_18 {q0 : Nat} {n0 n1 n2 n3 n4 n5 n6 n7 n8 n9 n10 n11 n12 n13 n14 n15 n16 n17 : Int} {H0 H1 : gH} (f0 : n0 ≤ 40) (f1 : 0 ≤ n0) (f2 : n1 ≤ 39) (f3 : (-1) ≤ n1) (f4 : n2 ≤ 240) (f5 : 0 ≤ n2) (f6 : n3 ≤ 2) (f7 : 0 ≤ n3) (f8 : n4 = 285) (f9 : n5 ≤ 240) (f10 : 0 ≤ n5) (f11 : n6 ≤ 2) (f12 : 0 ≤ n6) (f13 : n7 = 285) (f14 : (hLe T0 H0 H1 ∧ hFr s_275.2.2.2.2 H0 H1 ∧ hWt T0 H1) ∧ (Ab_275_5 n7 n6 n5 n4 n3 n2 n1 n0 H0 H1 ∧ preb_275 n7 n6 n5 H0) ∧ some q0 = some (mub_275_5 n7 n6 n5 n4 n3 n2 n1 n0 H0 H1)) (f15 : n8 ≤ 40) (f16 : 0 ≤ n8) (f17 : n8 = hV H1 (n4).toNat 82) (f18 : n0 < n8) (f19 : n9 = 298) (f20 : n9 = hV H1 (n4).toNat 24) (f21 : n10 = 344) (f22 : n10 = hV H1 (n4).toNat 83) (f23 : n11 ≤ 1007) (f24 : 0 ≤ n11) (f25 : n11 = hV H1 (n10).toNat (n0).toNat) (f26 : n12 ≤ 5) (f27 : 0 ≤ n12) (f28 : n12 = hV H1 (n9).toNat (n11).toNat) (f29 : n13 = 1) (f30 : n12 = n13) (f31 : n14 = 300) (f32 : n14 = hV H1 (n4).toNat 26) (f33 : n15 = 344) (f34 : n15 = hV H1 (n4).toNat 83) (f35 : n16 ≤ 1007) (f36 : 0 ≤ n16) (f37 : n16 = hV H1 (n15).toNat (n0).toNat) (f38 : n17 ≤ 9999) (f39 : (-1) ≤ n17) (f40 : n17 = hV H1 (n14).toNat (n16).toNat) (f41 : n17 = n3) : preb_271 n4 n0 H1 := by
  have g4 := f14.2.1.1
  unfold Ab_275_5 at g4
  have g3 := f14.2.1.2
  unfold preb_275 at g3
  unfold preb_271
  have e1 : n8 = hV H0 285 82 := (by rw [f8] at f17; exact f17 : n8 = hV H1 285 82).trans ((f14.1.2.1.1 285 82 kF_275_285_82))
  have e2 : hV H1 344 = hV H0 344 := fRow f14.1.2.1 344 kR_275_344
  have e3 : n11 = hV H0 344 (n0).toNat := (by rw [f21] at f25; exact f25 : n11 = hV H1 344 (n0).toNat).trans ((congrFun e2 _))
  have e4 : hV H1 298 = hV H0 298 := fRow f14.1.2.1 298 kR_275_298
  have e5 : n12 = hV H0 298 (n11).toNat := (by rw [f19] at f28; exact f28 : n12 = hV H1 298 (n11).toNat).trans ((congrFun e4 _))
  have e6 : n16 = hV H0 344 (n0).toNat := (by rw [f33] at f37; exact f37 : n16 = hV H1 344 (n0).toNat).trans ((congrFun e2 _))
  have e8 : n17 = hV H0 300 (n16).toNat := (by rw [f31] at f40; exact f40 : n17 = hV H1 300 (n16).toNat).trans ((congrFun (fRow f14.1.2.1 300 kR_275_300) _))
  have e9 : hV H1 285 82 = hV H0 285 82 := (f14.1.2.1.1 285 82 kF_275_285_82)
  have e10 : XQ H1 = XQ H0 := XQ_fr f14.1.2.1 (by decide +kernel)
  have e11 : (0 : Int) ≤ hV H0 285 82 ∧ hV H0 285 82 ≤ 40 := bTo e9 (f14.1.2.2 285 82 _ _ kW_285_82)
  try simp only [e9, e4, e2] at g4
  try simp only [e9, e4, e2, e10]
  have k0 := g4.1
  have k1 := g4.2.1
  have y0 := g4.2.2
  have p0 := g3
  clear g3
  clear g4
  clear f17 f20 f22 f25 f28 f32 f34 f37 f40 e2 e4 e9 e10
  subst e1
  subst e3
  subst e5
  subst e6
  subst e8
  try subst k1
  try subst k0
  refine ⟨?_, ?_, ?_⟩ <;> first | assumption | omega | trivial
theorem c_275_5_18 {q0 : Nat} : vOkm T0 (eP e_275 L_275 A_275 mu_275 (some q0)) 3 ([(40, [17, 4], [], 0), (22, [17, 14, 16], [1], 0), (90, [17], [], -1), (91, [17], [], 9999), (22, [16, 15, 7], [1], 0), (90, [16], [], 0), (91, [16], [], 1007), (20, [15, 3], [1], 83), (0, [15], [], 344), (20, [14, 3], [1], 26), (0, [14], [], 300), (40, [12, 13], [], 0), (0, [13], [], 1), (22, [12, 9, 11], [1], 0), (90, [12], [], 0), (91, [12], [], 5), (22, [11, 10, 7], [1], 0), (90, [11], [], 0), (91, [11], [], 1007), (20, [10, 3], [1], 83), (0, [10], [], 344), (20, [9, 3], [1], 24), (0, [9], [], 298), (42, [7, 8], [], 0), (20, [8, 3], [1], 82), (90, [8], [], 0), (91, [8], [], 40), (5000, [0, 1, 2, 3, 4, 5, 6, 7], [0, 1], 5), (0, [0], [], 285), (90, [1], [], 0), (91, [1], [], 2), (90, [2], [], 0), (91, [2], [], 240), (0, [3], [], 285), (90, [4], [], 0), (91, [4], [], 2), (90, [5], [], 0), (91, [5], [], 240), (90, [6], [], -1), (91, [6], [], 39), (90, [7], [], 0), (91, [7], [], 40)], (2271, [3, 7], [1], 0)) := vOk_inI fun ρ η f0 f1 f2 f3 f4 f5 f6 f7 f8 f9 f10 f11 f12 f13 f14 f15 f16 f17 f18 f19 f20 f21 f22 f23 f24 f25 f26 f27 f28 f29 f30 f31 f32 f33 f34 f35 f36 f37 f38 f39 f40 f41 => q_275_18 (q0 := q0) (n0 := ρ 7) (n1 := ρ 6) (n2 := ρ 5) (n3 := ρ 4) (n4 := ρ 3) (n5 := ρ 2) (n6 := ρ 1) (n7 := ρ 0) (n8 := ρ 8) (n9 := ρ 9) (n10 := ρ 10) (n11 := ρ 11) (n12 := ρ 12) (n13 := ρ 13) (n14 := ρ 14) (n15 := ρ 15) (n16 := ρ 16) (n17 := ρ 17) (H0 := η 0) (H1 := η 1) f41 f40 f39 f38 f37 f36 f35 f34 f33 f32 f31 f30 f29 f28 f27 f26 f25 f24 f23 f22 f21 f20 f19 f18 f17 f16 f15 f14 f13 f12 f11 f10 f9 f8 f7 f6 f5 f4 f3 f2 f1 f0
theorem q_275_19 {q0 : Nat} {n0 n1 n2 n3 n4 n5 n6 n7 n8 n9 n10 n11 n12 n13 n14 n15 n16 n17 n18 n19 n20 n21 : Int} {H0 H1 : gH} (f0 : n0 ≤ 40) (f1 : 0 ≤ n0) (f2 : n1 ≤ 39) (f3 : (-1) ≤ n1) (f4 : n2 ≤ 240) (f5 : 0 ≤ n2) (f6 : n3 ≤ 2) (f7 : 0 ≤ n3) (f8 : n4 = 285) (f9 : n5 ≤ 240) (f10 : 0 ≤ n5) (f11 : n6 ≤ 2) (f12 : 0 ≤ n6) (f13 : n7 = 285) (f14 : (hLe T0 H0 H1 ∧ hFr s_275.2.2.2.2 H0 H1 ∧ hWt T0 H1) ∧ (Ab_275_5 n7 n6 n5 n4 n3 n2 n1 n0 H0 H1 ∧ preb_275 n7 n6 n5 H0) ∧ some q0 = some (mub_275_5 n7 n6 n5 n4 n3 n2 n1 n0 H0 H1)) (f15 : n8 ≤ 40) (f16 : 0 ≤ n8) (f17 : n8 = hV H1 (n4).toNat 82) (f18 : n0 < n8) (f19 : n9 = 298) (f20 : n9 = hV H1 (n4).toNat 24) (f21 : n10 = 344) (f22 : n10 = hV H1 (n4).toNat 83) (f23 : n11 ≤ 1007) (f24 : 0 ≤ n11) (f25 : n11 = hV H1 (n10).toNat (n0).toNat) (f26 : n12 ≤ 5) (f27 : 0 ≤ n12) (f28 : n12 = hV H1 (n9).toNat (n11).toNat) (f29 : n13 = 1) (f30 : n12 = n13) (f31 : n14 = 300) (f32 : n14 = hV H1 (n4).toNat 26) (f33 : n15 = 344) (f34 : n15 = hV H1 (n4).toNat 83) (f35 : n16 ≤ 1007) (f36 : 0 ≤ n16) (f37 : n16 = hV H1 (n15).toNat (n0).toNat) (f38 : n17 ≤ 9999) (f39 : (-1) ≤ n17) (f40 : n17 = hV H1 (n14).toNat (n16).toNat) (f41 : n17 = n3) (f42 : n18 = 4) (f43 : n19 ≤ 10999) (f44 : (-10999) ≤ n19) (f45 : n20 = w32 (n18 * n19)) (f46 : n2 < n20) (f47 : n21 = w32 (n0 + 1)) : 0 ≤ n21 := by
  have g4 := f14.2.1.1
  unfold Ab_275_5 at g4
  have g3 := f14.2.1.2
  unfold preb_275 at g3
  have e1 : n8 = hV H0 285 82 := (by rw [f8] at f17; exact f17 : n8 = hV H1 285 82).trans ((f14.1.2.1.1 285 82 kF_275_285_82))
  have e2 : hV H1 344 = hV H0 344 := fRow f14.1.2.1 344 kR_275_344
  have e3 : n11 = hV H0 344 (n0).toNat := (by rw [f21] at f25; exact f25 : n11 = hV H1 344 (n0).toNat).trans ((congrFun e2 _))
  have e4 : hV H1 298 = hV H0 298 := fRow f14.1.2.1 298 kR_275_298
  have e5 : n12 = hV H0 298 (n11).toNat := (by rw [f19] at f28; exact f28 : n12 = hV H1 298 (n11).toNat).trans ((congrFun e4 _))
  have e6 : n16 = hV H0 344 (n0).toNat := (by rw [f33] at f37; exact f37 : n16 = hV H1 344 (n0).toNat).trans ((congrFun e2 _))
  have e8 : n17 = hV H0 300 (n16).toNat := (by rw [f31] at f40; exact f40 : n17 = hV H1 300 (n16).toNat).trans ((congrFun (fRow f14.1.2.1 300 kR_275_300) _))
  have e9 : hV H1 285 82 = hV H0 285 82 := (f14.1.2.1.1 285 82 kF_275_285_82)
  have e10 : (0 : Int) ≤ hV H0 285 82 ∧ hV H0 285 82 ≤ 40 := bTo e9 (f14.1.2.2 285 82 _ _ kW_285_82)
  try simp only [e9, e4, e2] at g4
  have k0 := g4.1
  have k1 := g4.2.1
  have y0 := g4.2.2
  have p0 := g3
  clear g3
  clear g4
  clear f17 f20 f22 f25 f28 f32 f34 f37 f40 e2 e4 e9
  subst e1
  subst e3
  subst e5
  subst e6
  subst e8
  rw [f42] at f45
  first
  | (have ix0 : n21 = n0 + 1 := Eq.trans f47 (w32_iv (Iad (Iat f1 f0) (IC 1)) (by decide)); subst ix0; clear f47)
  | (have ix0 : n21 = n0 + 1 := Eq.trans f47 (w32_id (by omega) (by omega)); subst ix0; clear f47)
  | (unfold w32 at f47; have ix0 : n21 = n0 + 1 := (by omega); subst ix0)
  | skip
  try unfold w32 at f45
  try unfold w32 at f47
  try subst k1
  try subst k0
  omega
theorem c_275_5_19 {q0 : Nat} : vOkm T0 (eP e_275 L_275 A_275 mu_275 (some q0)) 3 ([(10, [21, 7], [], 1), (44, [20, 5], [], 0), (3, [20, 18, 19], [], 0), (90, [19], [], -10999), (91, [19], [], 10999), (0, [18], [], 4), (40, [17, 4], [], 0), (22, [17, 14, 16], [1], 0), (90, [17], [], -1), (91, [17], [], 9999), (22, [16, 15, 7], [1], 0), (90, [16], [], 0), (91, [16], [], 1007), (20, [15, 3], [1], 83), (0, [15], [], 344), (20, [14, 3], [1], 26), (0, [14], [], 300), (40, [12, 13], [], 0), (0, [13], [], 1), (22, [12, 9, 11], [1], 0), (90, [12], [], 0), (91, [12], [], 5), (22, [11, 10, 7], [1], 0), (90, [11], [], 0), (91, [11], [], 1007), (20, [10, 3], [1], 83), (0, [10], [], 344), (20, [9, 3], [1], 24), (0, [9], [], 298), (42, [7, 8], [], 0), (20, [8, 3], [1], 82), (90, [8], [], 0), (91, [8], [], 40), (5000, [0, 1, 2, 3, 4, 5, 6, 7], [0, 1], 5), (0, [0], [], 285), (90, [1], [], 0), (91, [1], [], 2), (90, [2], [], 0), (91, [2], [], 240), (0, [3], [], 285), (90, [4], [], 0), (91, [4], [], 2), (90, [5], [], 0), (91, [5], [], 240), (90, [6], [], -1), (91, [6], [], 39), (90, [7], [], 0), (91, [7], [], 40)], (90, [21], [], 0)) := vOk_inI fun ρ η f0 f1 f2 f3 f4 f5 f6 f7 f8 f9 f10 f11 f12 f13 f14 f15 f16 f17 f18 f19 f20 f21 f22 f23 f24 f25 f26 f27 f28 f29 f30 f31 f32 f33 f34 f35 f36 f37 f38 f39 f40 f41 f42 f43 f44 f45 f46 f47 => q_275_19 (q0 := q0) (n0 := ρ 7) (n1 := ρ 6) (n2 := ρ 5) (n3 := ρ 4) (n4 := ρ 3) (n5 := ρ 2) (n6 := ρ 1) (n7 := ρ 0) (n8 := ρ 8) (n9 := ρ 9) (n10 := ρ 10) (n11 := ρ 11) (n12 := ρ 12) (n13 := ρ 13) (n14 := ρ 14) (n15 := ρ 15) (n16 := ρ 16) (n17 := ρ 17) (n18 := ρ 18) (n19 := ρ 19) (n20 := ρ 20) (n21 := ρ 21) (H0 := η 0) (H1 := η 1) f47 f46 f45 f44 f43 f42 f41 f40 f39 f38 f37 f36 f35 f34 f33 f32 f31 f30 f29 f28 f27 f26 f25 f24 f23 f22 f21 f20 f19 f18 f17 f16 f15 f14 f13 f12 f11 f10 f9 f8 f7 f6 f5 f4 f3 f2 f1 f0
theorem q_275_20 {q0 : Nat} {n0 n1 n2 n3 n4 n5 n6 n7 n8 n9 n10 n11 n12 n13 n14 n15 n16 n17 n18 n19 n20 n21 : Int} {H0 H1 : gH} (f0 : n0 ≤ 40) (f1 : 0 ≤ n0) (f2 : n1 ≤ 39) (f3 : (-1) ≤ n1) (f4 : n2 ≤ 240) (f5 : 0 ≤ n2) (f6 : n3 ≤ 2) (f7 : 0 ≤ n3) (f8 : n4 = 285) (f9 : n5 ≤ 240) (f10 : 0 ≤ n5) (f11 : n6 ≤ 2) (f12 : 0 ≤ n6) (f13 : n7 = 285) (f14 : (hLe T0 H0 H1 ∧ hFr s_275.2.2.2.2 H0 H1 ∧ hWt T0 H1) ∧ (Ab_275_5 n7 n6 n5 n4 n3 n2 n1 n0 H0 H1 ∧ preb_275 n7 n6 n5 H0) ∧ some q0 = some (mub_275_5 n7 n6 n5 n4 n3 n2 n1 n0 H0 H1)) (f15 : n8 ≤ 40) (f16 : 0 ≤ n8) (f17 : n8 = hV H1 (n4).toNat 82) (f18 : n0 < n8) (f19 : n9 = 298) (f20 : n9 = hV H1 (n4).toNat 24) (f21 : n10 = 344) (f22 : n10 = hV H1 (n4).toNat 83) (f23 : n11 ≤ 1007) (f24 : 0 ≤ n11) (f25 : n11 = hV H1 (n10).toNat (n0).toNat) (f26 : n12 ≤ 5) (f27 : 0 ≤ n12) (f28 : n12 = hV H1 (n9).toNat (n11).toNat) (f29 : n13 = 1) (f30 : n12 = n13) (f31 : n14 = 300) (f32 : n14 = hV H1 (n4).toNat 26) (f33 : n15 = 344) (f34 : n15 = hV H1 (n4).toNat 83) (f35 : n16 ≤ 1007) (f36 : 0 ≤ n16) (f37 : n16 = hV H1 (n15).toNat (n0).toNat) (f38 : n17 ≤ 9999) (f39 : (-1) ≤ n17) (f40 : n17 = hV H1 (n14).toNat (n16).toNat) (f41 : n17 = n3) (f42 : n18 = 4) (f43 : n19 ≤ 10999) (f44 : (-10999) ≤ n19) (f45 : n20 = w32 (n18 * n19)) (f46 : n2 < n20) (f47 : n21 = w32 (n0 + 1)) : n21 ≤ 40 := by
  have g4 := f14.2.1.1
  unfold Ab_275_5 at g4
  have g3 := f14.2.1.2
  unfold preb_275 at g3
  have e1 : n8 = hV H0 285 82 := (by rw [f8] at f17; exact f17 : n8 = hV H1 285 82).trans ((f14.1.2.1.1 285 82 kF_275_285_82))
  have e2 : hV H1 344 = hV H0 344 := fRow f14.1.2.1 344 kR_275_344
  have e3 : n11 = hV H0 344 (n0).toNat := (by rw [f21] at f25; exact f25 : n11 = hV H1 344 (n0).toNat).trans ((congrFun e2 _))
  have e4 : hV H1 298 = hV H0 298 := fRow f14.1.2.1 298 kR_275_298
  have e5 : n12 = hV H0 298 (n11).toNat := (by rw [f19] at f28; exact f28 : n12 = hV H1 298 (n11).toNat).trans ((congrFun e4 _))
  have e6 : n16 = hV H0 344 (n0).toNat := (by rw [f33] at f37; exact f37 : n16 = hV H1 344 (n0).toNat).trans ((congrFun e2 _))
  have e8 : n17 = hV H0 300 (n16).toNat := (by rw [f31] at f40; exact f40 : n17 = hV H1 300 (n16).toNat).trans ((congrFun (fRow f14.1.2.1 300 kR_275_300) _))
  have e9 : hV H1 285 82 = hV H0 285 82 := (f14.1.2.1.1 285 82 kF_275_285_82)
  have e10 : (0 : Int) ≤ hV H0 285 82 ∧ hV H0 285 82 ≤ 40 := bTo e9 (f14.1.2.2 285 82 _ _ kW_285_82)
  try simp only [e9, e4, e2] at g4
  have k0 := g4.1
  have k1 := g4.2.1
  have y0 := g4.2.2
  have p0 := g3
  clear g3
  clear g4
  clear f17 f20 f22 f25 f28 f32 f34 f37 f40 e2 e4 e9
  subst e1
  subst e3
  subst e5
  subst e6
  subst e8
  rw [f42] at f45
  first
  | (have ix0 : n21 = n0 + 1 := Eq.trans f47 (w32_iv (Iad (Iat f1 f0) (IC 1)) (by decide)); subst ix0; clear f47)
  | (have ix0 : n21 = n0 + 1 := Eq.trans f47 (w32_id (by omega) (by omega)); subst ix0; clear f47)
  | (unfold w32 at f47; have ix0 : n21 = n0 + 1 := (by omega); subst ix0)
  | skip
  try unfold w32 at f45
  try unfold w32 at f47
  try subst k1
  try subst k0
  omega
theorem c_275_5_20 {q0 : Nat} : vOkm T0 (eP e_275 L_275 A_275 mu_275 (some q0)) 3 ([(10, [21, 7], [], 1), (44, [20, 5], [], 0), (3, [20, 18, 19], [], 0), (90, [19], [], -10999), (91, [19], [], 10999), (0, [18], [], 4), (40, [17, 4], [], 0), (22, [17, 14, 16], [1], 0), (90, [17], [], -1), (91, [17], [], 9999), (22, [16, 15, 7], [1], 0), (90, [16], [], 0), (91, [16], [], 1007), (20, [15, 3], [1], 83), (0, [15], [], 344), (20, [14, 3], [1], 26), (0, [14], [], 300), (40, [12, 13], [], 0), (0, [13], [], 1), (22, [12, 9, 11], [1], 0), (90, [12], [], 0), (91, [12], [], 5), (22, [11, 10, 7], [1], 0), (90, [11], [], 0), (91, [11], [], 1007), (20, [10, 3], [1], 83), (0, [10], [], 344), (20, [9, 3], [1], 24), (0, [9], [], 298), (42, [7, 8], [], 0), (20, [8, 3], [1], 82), (90, [8], [], 0), (91, [8], [], 40), (5000, [0, 1, 2, 3, 4, 5, 6, 7], [0, 1], 5), (0, [0], [], 285), (90, [1], [], 0), (91, [1], [], 2), (90, [2], [], 0), (91, [2], [], 240), (0, [3], [], 285), (90, [4], [], 0), (91, [4], [], 2), (90, [5], [], 0), (91, [5], [], 240), (90, [6], [], -1), (91, [6], [], 39), (90, [7], [], 0), (91, [7], [], 40)], (91, [21], [], 40)) := vOk_inI fun ρ η f0 f1 f2 f3 f4 f5 f6 f7 f8 f9 f10 f11 f12 f13 f14 f15 f16 f17 f18 f19 f20 f21 f22 f23 f24 f25 f26 f27 f28 f29 f30 f31 f32 f33 f34 f35 f36 f37 f38 f39 f40 f41 f42 f43 f44 f45 f46 f47 => q_275_20 (q0 := q0) (n0 := ρ 7) (n1 := ρ 6) (n2 := ρ 5) (n3 := ρ 4) (n4 := ρ 3) (n5 := ρ 2) (n6 := ρ 1) (n7 := ρ 0) (n8 := ρ 8) (n9 := ρ 9) (n10 := ρ 10) (n11 := ρ 11) (n12 := ρ 12) (n13 := ρ 13) (n14 := ρ 14) (n15 := ρ 15) (n16 := ρ 16) (n17 := ρ 17) (n18 := ρ 18) (n19 := ρ 19) (n20 := ρ 20) (n21 := ρ 21) (H0 := η 0) (H1 := η 1) f47 f46 f45 f44 f43 f42 f41 f40 f39 f38 f37 f36 f35 f34 f33 f32 f31 f30 f29 f28 f27 f26 f25 f24 f23 f22 f21 f20 f19 f18 f17 f16 f15 f14 f13 f12 f11 f10 f9 f8 f7 f6 f5 f4 f3 f2 f1 f0
theorem q_275_21 {q0 : Nat} {n0 n1 n2 n3 n4 n5 n6 n7 n8 n9 n10 n11 n12 n13 n14 n15 n16 n17 n18 n19 n20 n21 : Int} {H0 H1 H2 : gH} (f0 : n0 ≤ 40) (f1 : 0 ≤ n0) (f2 : n1 ≤ 39) (f3 : (-1) ≤ n1) (f4 : n2 ≤ 240) (f5 : 0 ≤ n2) (f6 : n3 ≤ 2) (f7 : 0 ≤ n3) (f8 : n4 = 285) (f9 : n5 ≤ 240) (f10 : 0 ≤ n5) (f11 : n6 ≤ 2) (f12 : 0 ≤ n6) (f13 : n7 = 285) (f14 : (hLe T0 H0 H1 ∧ hFr s_275.2.2.2.2 H0 H1 ∧ hWt T0 H1) ∧ (Ab_275_5 n7 n6 n5 n4 n3 n2 n1 n0 H0 H1 ∧ preb_275 n7 n6 n5 H0) ∧ some q0 = some (mub_275_5 n7 n6 n5 n4 n3 n2 n1 n0 H0 H1)) (f15 : n8 ≤ 40) (f16 : 0 ≤ n8) (f17 : n8 = hV H1 (n4).toNat 82) (f18 : n0 < n8) (f19 : n9 = 298) (f20 : n9 = hV H1 (n4).toNat 24) (f21 : n10 = 344) (f22 : n10 = hV H1 (n4).toNat 83) (f23 : n11 ≤ 1007) (f24 : 0 ≤ n11) (f25 : n11 = hV H1 (n10).toNat (n0).toNat) (f26 : n12 ≤ 5) (f27 : 0 ≤ n12) (f28 : n12 = hV H1 (n9).toNat (n11).toNat) (f29 : n13 = 1) (f30 : n12 = n13) (f31 : n14 = 300) (f32 : n14 = hV H1 (n4).toNat 26) (f33 : n15 = 344) (f34 : n15 = hV H1 (n4).toNat 83) (f35 : n16 ≤ 1007) (f36 : 0 ≤ n16) (f37 : n16 = hV H1 (n15).toNat (n0).toNat) (f38 : n17 ≤ 9999) (f39 : (-1) ≤ n17) (f40 : n17 = hV H1 (n14).toNat (n16).toNat) (f41 : n17 = n3) (f42 : n18 = 4) (f43 : n19 ≤ 10999) (f44 : (-10999) ≤ n19) (f45 : (hLe T0 H1 H2 ∧ hFr s_271.2.2.2.2 H1 H2 ∧ ((0 : Int) = 0 → H2.length = H1.length) ∧ hWt T0 H2) ∧ True) (f46 : n20 = w32 (n18 * n19)) (f47 : n2 < n20) (f48 : n21 = w32 (n0 + 1)) : Ab_275_5 n7 n6 n5 n4 n3 n2 n1 n21 H0 H2 ∧ ∀ q, some q0 = some q → mub_275_5 n7 n6 n5 n4 n3 n2 n1 n21 H0 H2 < q := by
  have g4 := f14.2.1.1
  unfold Ab_275_5 at g4
  have g3 := f14.2.1.2
  unfold preb_275 at g3
  have g5 := Option.some.inj f14.2.2
  unfold mub_275_5 at g5
  unfold Ab_275_5
  unfold mub_275_5
  have e1 : n8 = hV H0 285 82 := (by rw [f8] at f17; exact f17 : n8 = hV H1 285 82).trans ((f14.1.2.1.1 285 82 kF_275_285_82))
  have e2 : hV H1 344 = hV H0 344 := fRow f14.1.2.1 344 kR_275_344
  have e3 : n11 = hV H0 344 (n0).toNat := (by rw [f21] at f25; exact f25 : n11 = hV H1 344 (n0).toNat).trans ((congrFun e2 _))
  have e4 : hV H1 298 = hV H0 298 := fRow f14.1.2.1 298 kR_275_298
  have e5 : n12 = hV H0 298 (n11).toNat := (by rw [f19] at f28; exact f28 : n12 = hV H1 298 (n11).toNat).trans ((congrFun e4 _))
  have e6 : n16 = hV H0 344 (n0).toNat := (by rw [f33] at f37; exact f37 : n16 = hV H1 344 (n0).toNat).trans ((congrFun e2 _))
  have e8 : n17 = hV H0 300 (n16).toNat := (by rw [f31] at f40; exact f40 : n17 = hV H1 300 (n16).toNat).trans ((congrFun (fRow f14.1.2.1 300 kR_275_300) _))
  have e9 : hV H1 285 82 = hV H0 285 82 := (f14.1.2.1.1 285 82 kF_275_285_82)
  have e11 : hV H2 285 82 = hV H0 285 82 := ((f45.1.2.1.1 285 82 kF_271_285_82)).trans (f14.1.2.1.1 285 82 kF_275_285_82)
  have e13 : hV H2 298 = hV H0 298 := (fRow f45.1.2.1 298 kR_271_298).trans e4
  have e15 : hV H2 344 = hV H0 344 := (fRow f45.1.2.1 344 kR_271_344).trans e2
  have e16 : (0 : Int) ≤ hV H0 285 82 ∧ hV H0 285 82 ≤ 40 := bTo e9 (f14.1.2.2 285 82 _ _ kW_285_82)
  try simp only [e9, e4, e2] at g4
  try simp only [e11, e13, e15]
  have k0 := g4.1
  have k1 := g4.2.1
  have y0 := g4.2.2
  have p0 := g3
  clear g3
  clear g4
  clear f17 f20 f22 f25 f28 f32 f34 f37 f40 e2 e4 e9 e11 e13 e15
  subst e1
  subst e3
  subst e5
  subst e6
  subst e8
  rw [f42] at f46
  first
  | (have ix0 : n21 = n0 + 1 := Eq.trans f48 (w32_iv (Iad (Iat f1 f0) (IC 1)) (by decide)); subst ix0; clear f48)
  | (have ix0 : n21 = n0 + 1 := Eq.trans f48 (w32_id (by omega) (by omega)); subst ix0; clear f48)
  | (unfold w32 at f48; have ix0 : n21 = n0 + 1 := (by omega); subst ix0)
  | skip
  try unfold w32 at f46
  try unfold w32 at f48
  try subst k1
  try subst k0
  refine ⟨?_, fun q hq => ?_⟩
  · refine ⟨?_, ?_, ?_⟩ <;> first | assumption | omega | trivial
  · have g6 := Option.some.inj hq
    subst g6
    omega
theorem c_275_5_21 {q0 : Nat} : vOkm T0 (eP e_275 L_275 A_275 mu_275 (some q0)) 3 ([(10, [21, 7], [], 1), (44, [20, 5], [], 0), (3, [20, 18, 19], [], 0), (1271, [19, 3, 7], [1, 2], 0), (90, [19], [], -10999), (91, [19], [], 10999), (0, [18], [], 4), (40, [17, 4], [], 0), (22, [17, 14, 16], [1], 0), (90, [17], [], -1), (91, [17], [], 9999), (22, [16, 15, 7], [1], 0), (90, [16], [], 0), (91, [16], [], 1007), (20, [15, 3], [1], 83), (0, [15], [], 344), (20, [14, 3], [1], 26), (0, [14], [], 300), (40, [12, 13], [], 0), (0, [13], [], 1), (22, [12, 9, 11], [1], 0), (90, [12], [], 0), (91, [12], [], 5), (22, [11, 10, 7], [1], 0), (90, [11], [], 0), (91, [11], [], 1007), (20, [10, 3], [1], 83), (0, [10], [], 344), (20, [9, 3], [1], 24), (0, [9], [], 298), (42, [7, 8], [], 0), (20, [8, 3], [1], 82), (90, [8], [], 0), (91, [8], [], 40), (5000, [0, 1, 2, 3, 4, 5, 6, 7], [0, 1], 5), (0, [0], [], 285), (90, [1], [], 0), (91, [1], [], 2), (90, [2], [], 0), (91, [2], [], 240), (0, [3], [], 285), (90, [4], [], 0), (91, [4], [], 2), (90, [5], [], 0), (91, [5], [], 240), (90, [6], [], -1), (91, [6], [], 39), (90, [7], [], 0), (91, [7], [], 40)], (4000, [3, 4, 5, 6, 21], [2], 5)) := vOk_inI fun ρ η f0 f1 f2 f3 f4 f5 f6 f7 f8 f9 f10 f11 f12 f13 f14 f15 f16 f17 f18 f19 f20 f21 f22 f23 f24 f25 f26 f27 f28 f29 f30 f31 f32 f33 f34 f35 f36 f37 f38 f39 f40 f41 f42 f43 f44 f45 f46 f47 f48 => q_275_21 (q0 := q0) (n0 := ρ 7) (n1 := ρ 6) (n2 := ρ 5) (n3 := ρ 4) (n4 := ρ 3) (n5 := ρ 2) (n6 := ρ 1) (n7 := ρ 0) (n8 := ρ 8) (n9 := ρ 9) (n10 := ρ 10) (n11 := ρ 11) (n12 := ρ 12) (n13 := ρ 13) (n14 := ρ 14) (n15 := ρ 15) (n16 := ρ 16) (n17 := ρ 17) (n18 := ρ 18) (n19 := ρ 19) (n20 := ρ 20) (n21 := ρ 21) (H0 := η 0) (H1 := η 1) (H2 := η 2) f48 f47 f46 f45 f44 f43 f42 f41 f40 f39 f38 f37 f36 f35 f34 f33 f32 f31 f30 f29 f28 f27 f26 f25 f24 f23 f22 f21 f20 f19 f18 f17 f16 f15 f14 f13 f12 f11 f10 f9 f8 f7 f6 f5 f4 f3 f2 f1 f0
theorem q_275_22 {q0 : Nat} {n0 n1 n2 n3 n4 n5 n6 n7 n8 n9 n10 n11 n12 n13 n14 n15 n16 n17 n18 n19 n20 n21 : Int} {H0 H1 : gH} (f0 : n0 ≤ 40) (f1 : 0 ≤ n0) (f2 : n1 ≤ 39) (f3 : (-1) ≤ n1) (f4 : n2 ≤ 240) (f5 : 0 ≤ n2) (f6 : n3 ≤ 2) (f7 : 0 ≤ n3) (f8 : n4 = 285) (f9 : n5 ≤ 240) (f10 : 0 ≤ n5) (f11 : n6 ≤ 2) (f12 : 0 ≤ n6) (f13 : n7 = 285) (f14 : (hLe T0 H0 H1 ∧ hFr s_275.2.2.2.2 H0 H1 ∧ hWt T0 H1) ∧ (Ab_275_5 n7 n6 n5 n4 n3 n2 n1 n0 H0 H1 ∧ preb_275 n7 n6 n5 H0) ∧ some q0 = some (mub_275_5 n7 n6 n5 n4 n3 n2 n1 n0 H0 H1)) (f15 : n8 ≤ 40) (f16 : 0 ≤ n8) (f17 : n8 = hV H1 (n4).toNat 82) (f18 : n0 < n8) (f19 : n9 = 298) (f20 : n9 = hV H1 (n4).toNat 24) (f21 : n10 = 344) (f22 : n10 = hV H1 (n4).toNat 83) (f23 : n11 ≤ 1007) (f24 : 0 ≤ n11) (f25 : n11 = hV H1 (n10).toNat (n0).toNat) (f26 : n12 ≤ 5) (f27 : 0 ≤ n12) (f28 : n12 = hV H1 (n9).toNat (n11).toNat) (f29 : n13 = 1) (f30 : n12 = n13) (f31 : n14 = 300) (f32 : n14 = hV H1 (n4).toNat 26) (f33 : n15 = 344) (f34 : n15 = hV H1 (n4).toNat 83) (f35 : n16 ≤ 1007) (f36 : 0 ≤ n16) (f37 : n16 = hV H1 (n15).toNat (n0).toNat) (f38 : n17 ≤ 9999) (f39 : (-1) ≤ n17) (f40 : n17 = hV H1 (n14).toNat (n16).toNat) (f41 : n17 = n3) (f42 : n18 = 4) (f43 : n19 ≤ 10999) (f44 : (-10999) ≤ n19) (f45 : n20 = w32 (n18 * n19)) (f46 : n20 ≤ n2) (f47 : n21 = w32 (n0 + 1)) : n0 ≤ 39 := by
  have g4 := f14.2.1.1
  unfold Ab_275_5 at g4
  have g3 := f14.2.1.2
  unfold preb_275 at g3
  have e1 : n8 = hV H0 285 82 := (by rw [f8] at f17; exact f17 : n8 = hV H1 285 82).trans ((f14.1.2.1.1 285 82 kF_275_285_82))
  have e2 : hV H1 344 = hV H0 344 := fRow f14.1.2.1 344 kR_275_344
  have e3 : n11 = hV H0 344 (n0).toNat := (by rw [f21] at f25; exact f25 : n11 = hV H1 344 (n0).toNat).trans ((congrFun e2 _))
  have e4 : hV H1 298 = hV H0 298 := fRow f14.1.2.1 298 kR_275_298
  have e5 : n12 = hV H0 298 (n11).toNat := (by rw [f19] at f28; exact f28 : n12 = hV H1 298 (n11).toNat).trans ((congrFun e4 _))
  have e6 : n16 = hV H0 344 (n0).toNat := (by rw [f33] at f37; exact f37 : n16 = hV H1 344 (n0).toNat).trans ((congrFun e2 _))
  have e8 : n17 = hV H0 300 (n16).toNat := (by rw [f31] at f40; exact f40 : n17 = hV H1 300 (n16).toNat).trans ((congrFun (fRow f14.1.2.1 300 kR_275_300) _))
  have e9 : hV H1 285 82 = hV H0 285 82 := (f14.1.2.1.1 285 82 kF_275_285_82)
  have e10 : (0 : Int) ≤ hV H0 285 82 ∧ hV H0 285 82 ≤ 40 := bTo e9 (f14.1.2.2 285 82 _ _ kW_285_82)
  try simp only [e9, e4, e2] at g4
  have k0 := g4.1
  have k1 := g4.2.1
  have y0 := g4.2.2
  have p0 := g3
  clear g3
  clear g4
  clear f17 f20 f22 f25 f28 f32 f34 f37 f40 e2 e4 e9
  subst e1
  subst e3
  subst e5
  subst e6
  subst e8
  rw [f42] at f45
  unfold w32 at f45 f47
  try subst k1
  try subst k0
  omega
theorem c_275_5_22 {q0 : Nat} : vOkm T0 (eP e_275 L_275 A_275 mu_275 (some q0)) 3 ([(10, [21, 7], [], 1), (45, [20, 5], [], 0), (3, [20, 18, 19], [], 0), (90, [19], [], -10999), (91, [19], [], 10999), (0, [18], [], 4), (40, [17, 4], [], 0), (22, [17, 14, 16], [1], 0), (90, [17], [], -1), (91, [17], [], 9999), (22, [16, 15, 7], [1], 0), (90, [16], [], 0), (91, [16], [], 1007), (20, [15, 3], [1], 83), (0, [15], [], 344), (20, [14, 3], [1], 26), (0, [14], [], 300), (40, [12, 13], [], 0), (0, [13], [], 1), (22, [12, 9, 11], [1], 0), (90, [12], [], 0), (91, [12], [], 5), (22, [11, 10, 7], [1], 0), (90, [11], [], 0), (91, [11], [], 1007), (20, [10, 3], [1], 83), (0, [10], [], 344), (20, [9, 3], [1], 24), (0, [9], [], 298), (42, [7, 8], [], 0), (20, [8, 3], [1], 82), (90, [8], [], 0), (91, [8], [], 40), (5000, [0, 1, 2, 3, 4, 5, 6, 7], [0, 1], 5), (0, [0], [], 285), (90, [1], [], 0), (91, [1], [], 2), (90, [2], [], 0), (91, [2], [], 240), (0, [3], [], 285), (90, [4], [], 0), (91, [4], [], 2), (90, [5], [], 0), (91, [5], [], 240), (90, [6], [], -1), (91, [6], [], 39), (90, [7], [], 0), (91, [7], [], 40)], (91, [7], [], 39)) := vOk_inI fun ρ η f0 f1 f2 f3 f4 f5 f6 f7 f8 f9 f10 f11 f12 f13 f14 f15 f16 f17 f18 f19 f20 f21 f22 f23 f24 f25 f26 f27 f28 f29 f30 f31 f32 f33 f34 f35 f36 f37 f38 f39 f40 f41 f42 f43 f44 f45 f46 f47 => q_275_22 (q0 := q0) (n0 := ρ 7) (n1 := ρ 6) (n2 := ρ 5) (n3 := ρ 4) (n4 := ρ 3) (n5 := ρ 2) (n6 := ρ 1) (n7 := ρ 0) (n8 := ρ 8) (n9 := ρ 9) (n10 := ρ 10) (n11 := ρ 11) (n12 := ρ 12) (n13 := ρ 13) (n14 := ρ 14) (n15 := ρ 15) (n16 := ρ 16) (n17 := ρ 17) (n18 := ρ 18) (n19 := ρ 19) (n20 := ρ 20) (n21 := ρ 21) (H0 := η 0) (H1 := η 1) f47 f46 f45 f44 f43 f42 f41 f40 f39 f38 f37 f36 f35 f34 f33 f32 f31 f30 f29 f28 f27 f26 f25 f24 f23 f22 f21 f20 f19 f18 f17 f16 f15 f14 f13 f12 f11 f10 f9 f8 f7 f6 f5 f4 f3 f2 f1 f0
theorem q_275_23 {q0 : Nat} {n0 n1 n2 n3 n4 n5 n6 n7 n8 n9 n10 n11 n12 n13 n14 n15 n16 n17 n18 n19 n20 n21 : Int} {H0 H1 : gH} (f0 : n0 ≤ 40) (f1 : 0 ≤ n0) (f2 : n1 ≤ 39) (f3 : (-1) ≤ n1) (f4 : n2 ≤ 240) (f5 : 0 ≤ n2) (f6 : n3 ≤ 2) (f7 : 0 ≤ n3) (f8 : n4 = 285) (f9 : n5 ≤ 240) (f10 : 0 ≤ n5) (f11 : n6 ≤ 2) (f12 : 0 ≤ n6) (f13 : n7 = 285) (f14 : (hLe T0 H0 H1 ∧ hFr s_275.2.2.2.2 H0 H1 ∧ hWt T0 H1) ∧ (Ab_275_5 n7 n6 n5 n4 n3 n2 n1 n0 H0 H1 ∧ preb_275 n7 n6 n5 H0) ∧ some q0 = some (mub_275_5 n7 n6 n5 n4 n3 n2 n1 n0 H0 H1)) (f15 : n8 ≤ 40) (f16 : 0 ≤ n8) (f17 : n8 = hV H1 (n4).toNat 82) (f18 : n0 < n8) (f19 : n9 = 298) (f20 : n9 = hV H1 (n4).toNat 24) (f21 : n10 = 344) (f22 : n10 = hV H1 (n4).toNat 83) (f23 : n11 ≤ 1007) (f24 : 0 ≤ n11) (f25 : n11 = hV H1 (n10).toNat (n0).toNat) (f26 : n12 ≤ 5) (f27 : 0 ≤ n12) (f28 : n12 = hV H1 (n9).toNat (n11).toNat) (f29 : n13 = 1) (f30 : n12 = n13) (f31 : n14 = 300) (f32 : n14 = hV H1 (n4).toNat 26) (f33 : n15 = 344) (f34 : n15 = hV H1 (n4).toNat 83) (f35 : n16 ≤ 1007) (f36 : 0 ≤ n16) (f37 : n16 = hV H1 (n15).toNat (n0).toNat) (f38 : n17 ≤ 9999) (f39 : (-1) ≤ n17) (f40 : n17 = hV H1 (n14).toNat (n16).toNat) (f41 : n17 = n3) (f42 : n18 = 4) (f43 : n19 ≤ 10999) (f44 : (-10999) ≤ n19) (f45 : n20 = w32 (n18 * n19)) (f46 : n20 ≤ n2) (f47 : n21 = w32 (n0 + 1)) : 0 ≤ n21 := by
  have g4 := f14.2.1.1
  unfold Ab_275_5 at g4
  have g3 := f14.2.1.2
  unfold preb_275 at g3
  have e1 : n8 = hV H0 285 82 := (by rw [f8] at f17; exact f17 : n8 = hV H1 285 82).trans ((f14.1.2.1.1 285 82 kF_275_285_82))
  have e2 : hV H1 344 = hV H0 344 := fRow f14.1.2.1 344 kR_275_344
  have e3 : n11 = hV H0 344 (n0).toNat := (by rw [f21] at f25; exact f25 : n11 = hV H1 344 (n0).toNat).trans ((congrFun e2 _))
  have e4 : hV H1 298 = hV H0 298 := fRow f14.1.2.1 298 kR_275_298
  have e5 : n12 = hV H0 298 (n11).toNat := (by rw [f19] at f28; exact f28 : n12 = hV H1 298 (n11).toNat).trans ((congrFun e4 _))
  have e6 : n16 = hV H0 344 (n0).toNat := (by rw [f33] at f37; exact f37 : n16 = hV H1 344 (n0).toNat).trans ((congrFun e2 _))
  have e8 : n17 = hV H0 300 (n16).toNat := (by rw [f31] at f40; exact f40 : n17 = hV H1 300 (n16).toNat).trans ((congrFun (fRow f14.1.2.1 300 kR_275_300) _))
  have e9 : hV H1 285 82 = hV H0 285 82 := (f14.1.2.1.1 285 82 kF_275_285_82)
  have e10 : (0 : Int) ≤ hV H0 285 82 ∧ hV H0 285 82 ≤ 40 := bTo e9 (f14.1.2.2 285 82 _ _ kW_285_82)
  try simp only [e9, e4, e2] at g4
  have k0 := g4.1
  have k1 := g4.2.1
  have y0 := g4.2.2
  have p0 := g3
  clear g3
  clear g4
  clear f17 f20 f22 f25 f28 f32 f34 f37 f40 e2 e4 e9
  subst e1
  subst e3
  subst e5
  subst e6
  subst e8
  rw [f42] at f45
  first
  | (have ix0 : n21 = n0 + 1 := Eq.trans f47 (w32_iv (Iad (Iat f1 f0) (IC 1)) (by decide)); subst ix0; clear f47)
  | (have ix0 : n21 = n0 + 1 := Eq.trans f47 (w32_id (by omega) (by omega)); subst ix0; clear f47)
  | (unfold w32 at f47; have ix0 : n21 = n0 + 1 := (by omega); subst ix0)
  | skip
  try unfold w32 at f45
  try unfold w32 at f47
  try subst k1
  try subst k0
  omega
theorem c_275_5_23 {q0 : Nat} : vOkm T0 (eP e_275 L_275 A_275 mu_275 (some q0)) 3 ([(10, [21, 7], [], 1), (45, [20, 5], [], 0), (3, [20, 18, 19], [], 0), (90, [19], [], -10999), (91, [19], [], 10999), (0, [18], [], 4), (40, [17, 4], [], 0), (22, [17, 14, 16], [1], 0), (90, [17], [], -1), (91, [17], [], 9999), (22, [16, 15, 7], [1], 0), (90, [16], [], 0), (91, [16], [], 1007), (20, [15, 3], [1], 83), (0, [15], [], 344), (20, [14, 3], [1], 26), (0, [14], [], 300), (40, [12, 13], [], 0), (0, [13], [], 1), (22, [12, 9, 11], [1], 0), (90, [12], [], 0), (91, [12], [], 5), (22, [11, 10, 7], [1], 0), (90, [11], [], 0), (91, [11], [], 1007), (20, [10, 3], [1], 83), (0, [10], [], 344), (20, [9, 3], [1], 24), (0, [9], [], 298), (42, [7, 8], [], 0), (20, [8, 3], [1], 82), (90, [8], [], 0), (91, [8], [], 40), (5000, [0, 1, 2, 3, 4, 5, 6, 7], [0, 1], 5), (0, [0], [], 285), (90, [1], [], 0), (91, [1], [], 2), (90, [2], [], 0), (91, [2], [], 240), (0, [3], [], 285), (90, [4], [], 0), (91, [4], [], 2), (90, [5], [], 0), (91, [5], [], 240), (90, [6], [], -1), (91, [6], [], 39), (90, [7], [], 0), (91, [7], [], 40)], (90, [21], [], 0)) := vOk_inI fun ρ η f0 f1 f2 f3 f4 f5 f6 f7 f8 f9 f10 f11 f12 f13 f14 f15 f16 f17 f18 f19 f20 f21 f22 f23 f24 f25 f26 f27 f28 f29 f30 f31 f32 f33 f34 f35 f36 f37 f38 f39 f40 f41 f42 f43 f44 f45 f46 f47 => q_275_23 (q0 := q0) (n0 := ρ 7) (n1 := ρ 6) (n2 := ρ 5) (n3 := ρ 4) (n4 := ρ 3) (n5 := ρ 2) (n6 := ρ 1) (n7 := ρ 0) (n8 := ρ 8) (n9 := ρ 9) (n10 := ρ 10) (n11 := ρ 11) (n12 := ρ 12) (n13 := ρ 13) (n14 := ρ 14) (n15 := ρ 15) (n16 := ρ 16) (n17 := ρ 17) (n18 := ρ 18) (n19 := ρ 19) (n20 := ρ 20) (n21 := ρ 21) (H0 := η 0) (H1 := η 1) f47 f46 f45 f44 f43 f42 f41 f40 f39 f38 f37 f36 f35 f34 f33 f32 f31 f30 f29 f28 f27 f26 f25 f24 f23 f22 f21 f20 f19 f18 f17 f16 f15 f14 f13 f12 f11 f10 f9 f8 f7 f6 f5 f4 f3 f2 f1 f0
theorem q_275_24 {q0 : Nat} {n0 n1 n2 n3 n4 n5 n6 n7 n8 n9 n10 n11 n12 n13 n14 n15 n16 n17 n18 n19 n20 n21 : Int} {H0 H1 : gH} (f0 : n0 ≤ 40) (f1 : 0 ≤ n0) (f2 : n1 ≤ 39) (f3 : (-1) ≤ n1) (f4 : n2 ≤ 240) (f5 : 0 ≤ n2) (f6 : n3 ≤ 2) (f7 : 0 ≤ n3) (f8 : n4 = 285) (f9 : n5 ≤ 240) (f10 : 0 ≤ n5) (f11 : n6 ≤ 2) (f12 : 0 ≤ n6) (f13 : n7 = 285) (f14 : (hLe T0 H0 H1 ∧ hFr s_275.2.2.2.2 H0 H1 ∧ hWt T0 H1) ∧ (Ab_275_5 n7 n6 n5 n4 n3 n2 n1 n0 H0 H1 ∧ preb_275 n7 n6 n5 H0) ∧ some q0 = some (mub_275_5 n7 n6 n5 n4 n3 n2 n1 n0 H0 H1)) (f15 : n8 ≤ 40) (f16 : 0 ≤ n8) (f17 : n8 = hV H1 (n4).toNat 82) (f18 : n0 < n8) (f19 : n9 = 298) (f20 : n9 = hV H1 (n4).toNat 24) (f21 : n10 = 344) (f22 : n10 = hV H1 (n4).toNat 83) (f23 : n11 ≤ 1007) (f24 : 0 ≤ n11) (f25 : n11 = hV H1 (n10).toNat (n0).toNat) (f26 : n12 ≤ 5) (f27 : 0 ≤ n12) (f28 : n12 = hV H1 (n9).toNat (n11).toNat) (f29 : n13 = 1) (f30 : n12 = n13) (f31 : n14 = 300) (f32 : n14 = hV H1 (n4).toNat 26) (f33 : n15 = 344) (f34 : n15 = hV H1 (n4).toNat 83) (f35 : n16 ≤ 1007) (f36 : 0 ≤ n16) (f37 : n16 = hV H1 (n15).toNat (n0).toNat) (f38 : n17 ≤ 9999) (f39 : (-1) ≤ n17) (f40 : n17 = hV H1 (n14).toNat (n16).toNat) (f41 : n17 = n3) (f42 : n18 = 4) (f43 : n19 ≤ 10999) (f44 : (-10999) ≤ n19) (f45 : n20 = w32 (n18 * n19)) (f46 : n20 ≤ n2) (f47 : n21 = w32 (n0 + 1)) : n21 ≤ 40 := by
  have g4 := f14.2.1.1
  unfold Ab_275_5 at g4
  have g3 := f14.2.1.2
  unfold preb_275 at g3
  have e1 : n8 = hV H0 285 82 := (by rw [f8] at f17; exact f17 : n8 = hV H1 285 82).trans ((f14.1.2.1.1 285 82 kF_275_285_82))
  have e2 : hV H1 344 = hV H0 344 := fRow f14.1.2.1 344 kR_275_344
  have e3 : n11 = hV H0 344 (n0).toNat := (by rw [f21] at f25; exact f25 : n11 = hV H1 344 (n0).toNat).trans ((congrFun e2 _))
  have e4 : hV H1 298 = hV H0 298 := fRow f14.1.2.1 298 kR_275_298
  have e5 : n12 = hV H0 298 (n11).toNat := (by rw [f19] at f28; exact f28 : n12 = hV H1 298 (n11).toNat).trans ((congrFun e4 _))
  have e6 : n16 = hV H0 344 (n0).toNat := (by rw [f33] at f37; exact f37 : n16 = hV H1 344 (n0).toNat).trans ((congrFun e2 _))
  have e8 : n17 = hV H0 300 (n16).toNat := (by rw [f31] at f40; exact f40 : n17 = hV H1 300 (n16).toNat).trans ((congrFun (fRow f14.1.2.1 300 kR_275_300) _))
  have e9 : hV H1 285 82 = hV H0 285 82 := (f14.1.2.1.1 285 82 kF_275_285_82)
  have e10 : (0 : Int) ≤ hV H0 285 82 ∧ hV H0 285 82 ≤ 40 := bTo e9 (f14.1.2.2 285 82 _ _ kW_285_82)
  try simp only [e9, e4, e2] at g4
  have k0 := g4.1
  have k1 := g4.2.1
  have y0 := g4.2.2
  have p0 := g3
  clear g3
  clear g4
  clear f17 f20 f22 f25 f28 f32 f34 f37 f40 e2 e4 e9
  subst e1
  subst e3
  subst e5
  subst e6
  subst e8
  rw [f42] at f45
  first
  | (have ix0 : n21 = n0 + 1 := Eq.trans f47 (w32_iv (Iad (Iat f1 f0) (IC 1)) (by decide)); subst ix0; clear f47)
  | (have ix0 : n21 = n0 + 1 := Eq.trans f47 (w32_id (by omega) (by omega)); subst ix0; clear f47)
  | (unfold w32 at f47; have ix0 : n21 = n0 + 1 := (by omega); subst ix0)
  | skip
  try unfold w32 at f45
  try unfold w32 at f47
  try subst k1
  try subst k0
  omega
theorem c_275_5_24 {q0 : Nat} : vOkm T0 (eP e_275 L_275 A_275 mu_275 (some q0)) 3 ([(10, [21, 7], [], 1), (45, [20, 5], [], 0), (3, [20, 18, 19], [], 0), (90, [19], [], -10999), (91, [19], [], 10999), (0, [18], [], 4), (40, [17, 4], [], 0), (22, [17, 14, 16], [1], 0), (90, [17], [], -1), (91, [17], [], 9999), (22, [16, 15, 7], [1], 0), (90, [16], [], 0), (91, [16], [], 1007), (20, [15, 3], [1], 83), (0, [15], [], 344), (20, [14, 3], [1], 26), (0, [14], [], 300), (40, [12, 13], [], 0), (0, [13], [], 1), (22, [12, 9, 11], [1], 0), (90, [12], [], 0), (91, [12], [], 5), (22, [11, 10, 7], [1], 0), (90, [11], [], 0), (91, [11], [], 1007), (20, [10, 3], [1], 83), (0, [10], [], 344), (20, [9, 3], [1], 24), (0, [9], [], 298), (42, [7, 8], [], 0), (20, [8, 3], [1], 82), (90, [8], [], 0), (91, [8], [], 40), (5000, [0, 1, 2, 3, 4, 5, 6, 7], [0, 1], 5), (0, [0], [], 285), (90, [1], [], 0), (91, [1], [], 2), (90, [2], [], 0), (91, [2], [], 240), (0, [3], [], 285), (90, [4], [], 0), (91, [4], [], 2), (90, [5], [], 0), (91, [5], [], 240), (90, [6], [], -1), (91, [6], [], 39), (90, [7], [], 0), (91, [7], [], 40)], (91, [21], [], 40)) := vOk_inI fun ρ η f0 f1 f2 f3 f4 f5 f6 f7 f8 f9 f10 f11 f12 f13 f14 f15 f16 f17 f18 f19 f20 f21 f22 f23 f24 f25 f26 f27 f28 f29 f30 f31 f32 f33 f34 f35 f36 f37 f38 f39 f40 f41 f42 f43 f44 f45 f46 f47 => q_275_24 (q0 := q0) (n0 := ρ 7) (n1 := ρ 6) (n2 := ρ 5) (n3 := ρ 4) (n4 := ρ 3) (n5 := ρ 2) (n6 := ρ 1) (n7 := ρ 0) (n8 := ρ 8) (n9 := ρ 9) (n10 := ρ 10) (n11 := ρ 11) (n12 := ρ 12) (n13 := ρ 13) (n14 := ρ 14) (n15 := ρ 15) (n16 := ρ 16) (n17 := ρ 17) (n18 := ρ 18) (n19 := ρ 19) (n20 := ρ 20) (n21 := ρ 21) (H0 := η 0) (H1 := η 1) f47 f46 f45 f44 f43 f42 f41 f40 f39 f38 f37 f36 f35 f34 f33 f32 f31 f30 f29 f28 f27 f26 f25 f24 f23 f22 f21 f20 f19 f18 f17 f16 f15 f14 f13 f12 f11 f10 f9 f8 f7 f6 f5 f4 f3 f2 f1 f0
theorem q_275_25 {q0 : Nat} {n0 n1 n2 n3 n4 n5 n6 n7 n8 n9 n10 n11 n12 n13 n14 n15 n16 n17 n18 n19 n20 n21 : Int} {H0 H1 H2 : gH} (f0 : n0 ≤ 40) (f1 : 0 ≤ n0) (f2 : n1 ≤ 39) (f3 : (-1) ≤ n1) (f4 : n2 ≤ 240) (f5 : 0 ≤ n2) (f6 : n3 ≤ 2) (f7 : 0 ≤ n3) (f8 : n4 = 285) (f9 : n5 ≤ 240) (f10 : 0 ≤ n5) (f11 : n6 ≤ 2) (f12 : 0 ≤ n6) (f13 : n7 = 285) (f14 : (hLe T0 H0 H1 ∧ hFr s_275.2.2.2.2 H0 H1 ∧ hWt T0 H1) ∧ (Ab_275_5 n7 n6 n5 n4 n3 n2 n1 n0 H0 H1 ∧ preb_275 n7 n6 n5 H0) ∧ some q0 = some (mub_275_5 n7 n6 n5 n4 n3 n2 n1 n0 H0 H1)) (f15 : n8 ≤ 40) (f16 : 0 ≤ n8) (f17 : n8 = hV H1 (n4).toNat 82) (f18 : n0 < n8) (f19 : n9 = 298) (f20 : n9 = hV H1 (n4).toNat 24) (f21 : n10 = 344) (f22 : n10 = hV H1 (n4).toNat 83) (f23 : n11 ≤ 1007) (f24 : 0 ≤ n11) (f25 : n11 = hV H1 (n10).toNat (n0).toNat) (f26 : n12 ≤ 5) (f27 : 0 ≤ n12) (f28 : n12 = hV H1 (n9).toNat (n11).toNat) (f29 : n13 = 1) (f30 : n12 = n13) (f31 : n14 = 300) (f32 : n14 = hV H1 (n4).toNat 26) (f33 : n15 = 344) (f34 : n15 = hV H1 (n4).toNat 83) (f35 : n16 ≤ 1007) (f36 : 0 ≤ n16) (f37 : n16 = hV H1 (n15).toNat (n0).toNat) (f38 : n17 ≤ 9999) (f39 : (-1) ≤ n17) (f40 : n17 = hV H1 (n14).toNat (n16).toNat) (f41 : n17 = n3) (f42 : n18 = 4) (f43 : n19 ≤ 10999) (f44 : (-10999) ≤ n19) (f45 : (hLe T0 H1 H2 ∧ hFr s_271.2.2.2.2 H1 H2 ∧ ((0 : Int) = 0 → H2.length = H1.length) ∧ hWt T0 H2) ∧ True) (f46 : n20 = w32 (n18 * n19)) (f47 : n20 ≤ n2) (f48 : n21 = w32 (n0 + 1)) : Ab_275_5 n7 n6 n5 n4 n3 n2 n0 n21 H0 H2 ∧ ∀ q, some q0 = some q → mub_275_5 n7 n6 n5 n4 n3 n2 n0 n21 H0 H2 < q := by
  have g4 := f14.2.1.1
  unfold Ab_275_5 at g4
  have g3 := f14.2.1.2
  unfold preb_275 at g3
  have g5 := Option.some.inj f14.2.2
  unfold mub_275_5 at g5
  unfold Ab_275_5
  unfold mub_275_5
  have e1 : n8 = hV H0 285 82 := (by rw [f8] at f17; exact f17 : n8 = hV H1 285 82).trans ((f14.1.2.1.1 285 82 kF_275_285_82))
  have e2 : hV H1 344 = hV H0 344 := fRow f14.1.2.1 344 kR_275_344
  have e3 : n11 = hV H0 344 (n0).toNat := (by rw [f21] at f25; exact f25 : n11 = hV H1 344 (n0).toNat).trans ((congrFun e2 _))
  have e4 : hV H1 298 = hV H0 298 := fRow f14.1.2.1 298 kR_275_298
  have e5 : n12 = hV H0 298 (n11).toNat := (by rw [f19] at f28; exact f28 : n12 = hV H1 298 (n11).toNat).trans ((congrFun e4 _))
  have e6 : n16 = hV H0 344 (n0).toNat := (by rw [f33] at f37; exact f37 : n16 = hV H1 344 (n0).toNat).trans ((congrFun e2 _))
  have e8 : n17 = hV H0 300 (n16).toNat := (by rw [f31] at f40; exact f40 : n17 = hV H1 300 (n16).toNat).trans ((congrFun (fRow f14.1.2.1 300 kR_275_300) _))
  have e9 : hV H1 285 82 = hV H0 285 82 := (f14.1.2.1.1 285 82 kF_275_285_82)
  have e11 : hV H2 285 82 = hV H0 285 82 := ((f45.1.2.1.1 285 82 kF_271_285_82)).trans (f14.1.2.1.1 285 82 kF_275_285_82)
  have e13 : hV H2 298 = hV H0 298 := (fRow f45.1.2.1 298 kR_271_298).trans e4
  have e15 : hV H2 344 = hV H0 344 := (fRow f45.1.2.1 344 kR_271_344).trans e2
  have e16 : (0 : Int) ≤ hV H0 285 82 ∧ hV H0 285 82 ≤ 40 := bTo e9 (f14.1.2.2 285 82 _ _ kW_285_82)
  try simp only [e9, e4, e2] at g4
  try simp only [e11, e13, e15]
  have k0 := g4.1
  have k1 := g4.2.1
  have y0 := g4.2.2
  have p0 := g3
  clear g3
  clear g4
  clear f17 f20 f22 f25 f28 f32 f34 f37 f40 e2 e4 e9 e11 e13 e15
  subst e1
  subst e3
  subst e5
  subst e6
  subst e8
  rw [f42] at f46
  first
  | (have ix0 : n21 = n0 + 1 := Eq.trans f48 (w32_iv (Iad (Iat f1 f0) (IC 1)) (by decide)); subst ix0; clear f48)
  | (have ix0 : n21 = n0 + 1 := Eq.trans f48 (w32_id (by omega) (by omega)); subst ix0; clear f48)
  | (unfold w32 at f48; have ix0 : n21 = n0 + 1 := (by omega); subst ix0)
  | skip
  try unfold w32 at f46
  try unfold w32 at f48
  try subst k1
  try subst k0
  refine ⟨?_, fun q hq => ?_⟩
  · refine ⟨?_, ?_, ?_⟩ <;> first | assumption | omega | trivial
  · have g6 := Option.some.inj hq
    subst g6
    omega
theorem c_275_5_25 {q0 : Nat} : vOkm T0 (eP e_275 L_275 A_275 mu_275 (some q0)) 3 ([(10, [21, 7], [], 1), (45, [20, 5], [], 0), (3, [20, 18, 19], [], 0), (1271, [19, 3, 7], [1, 2], 0), (90, [19], [], -10999), (91, [19], [], 10999), (0, [18], [], 4), (40, [17, 4], [], 0), (22, [17, 14, 16], [1], 0), (90, [17], [], -1), (91, [17], [], 9999), (22, [16, 15, 7], [1], 0), (90, [16], [], 0), (91, [16], [], 1007), (20, [15, 3], [1], 83), (0, [15], [], 344), (20, [14, 3], [1], 26), (0, [14], [], 300), (40, [12, 13], [], 0), (0, [13], [], 1), (22, [12, 9, 11], [1], 0), (90, [12], [], 0), (91, [12], [], 5), (22, [11, 10, 7], [1], 0), (90, [11], [], 0), (91, [11], [], 1007), (20, [10, 3], [1], 83), (0, [10], [], 344), (20, [9, 3], [1], 24), (0, [9], [], 298), (42, [7, 8], [], 0), (20, [8, 3], [1], 82), (90, [8], [], 0), (91, [8], [], 40), (5000, [0, 1, 2, 3, 4, 5, 6, 7], [0, 1], 5), (0, [0], [], 285), (90, [1], [], 0), (91, [1], [], 2), (90, [2], [], 0), (91, [2], [], 240), (0, [3], [], 285), (90, [4], [], 0), (91, [4], [], 2), (90, [5], [], 0), (91, [5], [], 240), (90, [6], [], -1), (91, [6], [], 39), (90, [7], [], 0), (91, [7], [], 40)], (4000, [3, 4, 5, 7, 21], [2], 5)) := vOk_inI fun ρ η f0 f1 f2 f3 f4 f5 f6 f7 f8 f9 f10 f11 f12 f13 f14 f15 f16 f17 f18 f19 f20 f21 f22 f23 f24 f25 f26 f27 f28 f29 f30 f31 f32 f33 f34 f35 f36 f37 f38 f39 f40 f41 f42 f43 f44 f45 f46 f47 f48 => q_275_25 (q0 := q0) (n0 := ρ 7) (n1 := ρ 6) (n2 := ρ 5) (n3 := ρ 4) (n4 := ρ 3) (n5 := ρ 2) (n6 := ρ 1) (n7 := ρ 0) (n8 := ρ 8) (n9 := ρ 9) (n10 := ρ 10) (n11 := ρ 11) (n12 := ρ 12) (n13 := ρ 13) (n14 := ρ 14) (n15 := ρ 15) (n16 := ρ 16) (n17 := ρ 17) (n18 := ρ 18) (n19 := ρ 19) (n20 := ρ 20) (n21 := ρ 21) (H0 := η 0) (H1 := η 1) (H2 := η 2) f48 f47 f46 f45 f44 f43 f42 f41 f40 f39 f38 f37 f36 f35 f34 f33 f32 f31 f30 f29 f28 f27 f26 f25 f24 f23 f22 f21 f20 f19 f18 f17 f16 f15 f14 f13 f12 f11 f10 f9 f8 f7 f6 f5 f4 f3 f2 f1 f0
def p_275_5 : List vG := [([(41, [6, 9], [], 0), (0, [9], [], -1), (43, [7, 8], [], 0), (20, [8, 3], [1], 82), (90, [8], [], 0), (91, [8], [], 40), (5000, [0, 1, 2, 3, 4, 5, 6, 7], [0, 1], 5), (0, [0], [], 285), (90, [1], [], 0), (91, [1], [], 2), (90, [2], [], 0), (91, [2], [], 240), (0, [3], [], 285), (90, [4], [], 0), (91, [4], [], 2), (90, [5], [], 0), (91, [5], [], 240), (90, [6], [], -1), (91, [6], [], 39), (90, [7], [], 0), (91, [7], [], 40)], (70, [6], [], 40)),
  ([(3, [14, 11, 13], [], 0), (22, [13, 12, 6], [1], 0), (90, [13], [], 0), (91, [13], [], 1007), (20, [12, 3], [1], 83), (0, [12], [], 344), (0, [11], [], 6), (41, [6, 9], [], 0), (0, [9], [], -1), (43, [7, 8], [], 0), (20, [8, 3], [1], 82), (90, [8], [], 0), (91, [8], [], 40), (5000, [0, 1, 2, 3, 4, 5, 6, 7], [0, 1], 5), (0, [0], [], 285), (90, [1], [], 0), (91, [1], [], 2), (90, [2], [], 0), (91, [2], [], 240), (0, [3], [], 285), (90, [4], [], 0), (91, [4], [], 2), (90, [5], [], 0), (91, [5], [], 240), (90, [6], [], -1), (91, [6], [], 39), (90, [7], [], 0), (91, [7], [], 40)], (70, [14], [], 6048)),
  ([(20, [18, 3], [1], 83), (0, [18], [], 344), (20, [16, 3], [1], 31), (0, [16], [], 305), (22, [15, 10, 14], [1], 0), (90, [15], [], -1), (91, [15], [], 9999), (3, [14, 11, 13], [], 0), (22, [13, 12, 6], [1], 0), (90, [13], [], 0), (91, [13], [], 1007), (20, [12, 3], [1], 83), (0, [12], [], 344), (0, [11], [], 6), (20, [10, 3], [1], 31), (0, [10], [], 305), (41, [6, 9], [], 0), (0, [9], [], -1), (43, [7, 8], [], 0), (20, [8, 3], [1], 82), (90, [8], [], 0), (91, [8], [], 40), (5000, [0, 1, 2, 3, 4, 5, 6, 7], [0, 1], 5), (0, [0], [], 285), (90, [1], [], 0), (91, [1], [], 2), (90, [2], [], 0), (91, [2], [], 240), (0, [3], [], 285), (90, [4], [], 0), (91, [4], [], 2), (90, [5], [], 0), (91, [5], [], 240), (90, [6], [], -1), (91, [6], [], 39), (90, [7], [], 0), (91, [7], [], 40)], (70, [6], [], 40)),
  ([(1, [22, 20, 21], [], 0), (0, [21], [], 1), (3, [20, 17, 19], [], 0), (22, [19, 18, 6], [1], 0), (90, [19], [], 0), (91, [19], [], 1007), (20, [18, 3], [1], 83), (0, [18], [], 344), (0, [17], [], 6), (20, [16, 3], [1], 31), (0, [16], [], 305), (22, [15, 10, 14], [1], 0), (90, [15], [], -1), (91, [15], [], 9999), (3, [14, 11, 13], [], 0), (22, [13, 12, 6], [1], 0), (90, [13], [], 0), (91, [13], [], 1007), (20, [12, 3], [1], 83), (0, [12], [], 344), (0, [11], [], 6), (20, [10, 3], [1], 31), (0, [10], [], 305), (41, [6, 9], [], 0), (0, [9], [], -1), (43, [7, 8], [], 0), (20, [8, 3], [1], 82), (90, [8], [], 0), (91, [8], [], 40), (5000, [0, 1, 2, 3, 4, 5, 6, 7], [0, 1], 5), (0, [0], [], 285), (90, [1], [], 0), (91, [1], [], 2), (90, [2], [], 0), (91, [2], [], 240), (0, [3], [], 285), (90, [4], [], 0), (91, [4], [], 2), (90, [5], [], 0), (91, [5], [], 240), (90, [6], [], -1), (91, [6], [], 39), (90, [7], [], 0), (91, [7], [], 40)], (70, [22], [], 6048)),
  ([(22, [23, 16, 22], [1], 0), (90, [23], [], -1), (91, [23], [], 9999), (1, [22, 20, 21], [], 0), (0, [21], [], 1), (3, [20, 17, 19], [], 0), (22, [19, 18, 6], [1], 0), (90, [19], [], 0), (91, [19], [], 1007), (20, [18, 3], [1], 83), (0, [18], [], 344), (0, [17], [], 6), (20, [16, 3], [1], 31), (0, [16], [], 305), (22, [15, 10, 14], [1], 0), (90, [15], [], -1), (91, [15], [], 9999), (3, [14, 11, 13], [], 0), (22, [13, 12, 6], [1], 0), (90, [13], [], 0), (91, [13], [], 1007), (20, [12, 3], [1], 83), (0, [12], [], 344), (0, [11], [], 6), (20, [10, 3], [1], 31), (0, [10], [], 305), (41, [6, 9], [], 0), (0, [9], [], -1), (43, [7, 8], [], 0), (20, [8, 3], [1], 82), (90, [8], [], 0), (91, [8], [], 40), (5000, [0, 1, 2, 3, 4, 5, 6, 7], [0, 1], 5), (0, [0], [], 285), (90, [1], [], 0), (91, [1], [], 2), (90, [2], [], 0), (91, [2], [], 240), (0, [3], [], 285), (90, [4], [], 0), (91, [4], [], 2), (90, [5], [], 0), (91, [5], [], 240), (90, [6], [], -1), (91, [6], [], 39), (90, [7], [], 0), (91, [7], [], 40)], (90, [6], [], 0)),
  ([(22, [23, 16, 22], [1], 0), (90, [23], [], -1), (91, [23], [], 9999), (1, [22, 20, 21], [], 0), (0, [21], [], 1), (3, [20, 17, 19], [], 0), (22, [19, 18, 6], [1], 0), (90, [19], [], 0), (91, [19], [], 1007), (20, [18, 3], [1], 83), (0, [18], [], 344), (0, [17], [], 6), (20, [16, 3], [1], 31), (0, [16], [], 305), (22, [15, 10, 14], [1], 0), (90, [15], [], -1), (91, [15], [], 9999), (3, [14, 11, 13], [], 0), (22, [13, 12, 6], [1], 0), (90, [13], [], 0), (91, [13], [], 1007), (20, [12, 3], [1], 83), (0, [12], [], 344), (0, [11], [], 6), (20, [10, 3], [1], 31), (0, [10], [], 305), (41, [6, 9], [], 0), (0, [9], [], -1), (43, [7, 8], [], 0), (20, [8, 3], [1], 82), (90, [8], [], 0), (91, [8], [], 40), (5000, [0, 1, 2, 3, 4, 5, 6, 7], [0, 1], 5), (0, [0], [], 285), (90, [1], [], 0), (91, [1], [], 2), (90, [2], [], 0), (91, [2], [], 240), (0, [3], [], 285), (90, [4], [], 0), (91, [4], [], 2), (90, [5], [], 0), (91, [5], [], 240), (90, [6], [], -1), (91, [6], [], 39), (90, [7], [], 0), (91, [7], [], 40)], (2271, [3, 6], [1], 0)),
  ([(22, [23, 16, 22], [1], 0), (90, [23], [], -1), (91, [23], [], 9999), (1, [22, 20, 21], [], 0), (0, [21], [], 1), (3, [20, 17, 19], [], 0), (22, [19, 18, 6], [1], 0), (90, [19], [], 0), (91, [19], [], 1007), (20, [18, 3], [1], 83), (0, [18], [], 344), (0, [17], [], 6), (20, [16, 3], [1], 31), (0, [16], [], 305), (22, [15, 10, 14], [1], 0), (90, [15], [], -1), (91, [15], [], 9999), (3, [14, 11, 13], [], 0), (22, [13, 12, 6], [1], 0), (90, [13], [], 0), (91, [13], [], 1007), (20, [12, 3], [1], 83), (0, [12], [], 344), (0, [11], [], 6), (20, [10, 3], [1], 31), (0, [10], [], 305), (41, [6, 9], [], 0), (0, [9], [], -1), (43, [7, 8], [], 0), (20, [8, 3], [1], 82), (90, [8], [], 0), (91, [8], [], 40), (5000, [0, 1, 2, 3, 4, 5, 6, 7], [0, 1], 5), (0, [0], [], 285), (90, [1], [], 0), (91, [1], [], 2), (90, [2], [], 0), (91, [2], [], 240), (0, [3], [], 285), (90, [4], [], 0), (91, [4], [], 2), (90, [5], [], 0), (91, [5], [], 240), (90, [6], [], -1), (91, [6], [], 39), (90, [7], [], 0), (91, [7], [], 40)], (90, [6], [], 0)),
  ([(3, [26, 24, 25], [], 0), (1271, [25, 3, 6], [1, 2], 0), (90, [25], [], -10999), (91, [25], [], 10999), (0, [24], [], 4), (22, [23, 16, 22], [1], 0), (90, [23], [], -1), (91, [23], [], 9999), (1, [22, 20, 21], [], 0), (0, [21], [], 1), (3, [20, 17, 19], [], 0), (22, [19, 18, 6], [1], 0), (90, [19], [], 0), (91, [19], [], 1007), (20, [18, 3], [1], 83), (0, [18], [], 344), (0, [17], [], 6), (20, [16, 3], [1], 31), (0, [16], [], 305), (22, [15, 10, 14], [1], 0), (90, [15], [], -1), (91, [15], [], 9999), (3, [14, 11, 13], [], 0), (22, [13, 12, 6], [1], 0), (90, [13], [], 0), (91, [13], [], 1007), (20, [12, 3], [1], 83), (0, [12], [], 344), (0, [11], [], 6), (20, [10, 3], [1], 31), (0, [10], [], 305), (41, [6, 9], [], 0), (0, [9], [], -1), (43, [7, 8], [], 0), (20, [8, 3], [1], 82), (90, [8], [], 0), (91, [8], [], 40), (5000, [0, 1, 2, 3, 4, 5, 6, 7], [0, 1], 5), (0, [0], [], 285), (90, [1], [], 0), (91, [1], [], 2), (90, [2], [], 0), (91, [2], [], 240), (0, [3], [], 285), (90, [4], [], 0), (91, [4], [], 2), (90, [5], [], 0), (91, [5], [], 240), (90, [6], [], -1), (91, [6], [], 39), (90, [7], [], 0), (91, [7], [], 40)], (2272, [3, 6], [2], 0)),
  ([(2, [33, 29, 26], [], 0), (3, [32, 30, 31], [], 0), (2, [31, 5, 26], [], 0), (2, [30, 23, 15], [], 0), (44, [29, 26], [], 0), (42, [5, 29], [], 0), (3, [29, 27, 28], [], 0), (90, [28], [], -10999), (91, [28], [], 10999), (0, [27], [], 4), (3, [26, 24, 25], [], 0), (90, [25], [], -10999), (91, [25], [], 10999), (0, [24], [], 4), (22, [23, 16, 22], [1], 0), (90, [23], [], -1), (91, [23], [], 9999), (1, [22, 20, 21], [], 0), (0, [21], [], 1), (3, [20, 17, 19], [], 0), (22, [19, 18, 6], [1], 0), (90, [19], [], 0), (91, [19], [], 1007), (20, [18, 3], [1], 83), (0, [18], [], 344), (0, [17], [], 6), (20, [16, 3], [1], 31), (0, [16], [], 305), (22, [15, 10, 14], [1], 0), (90, [15], [], -1), (91, [15], [], 9999), (3, [14, 11, 13], [], 0), (22, [13, 12, 6], [1], 0), (90, [13], [], 0), (91, [13], [], 1007), (20, [12, 3], [1], 83), (0, [12], [], 344), (0, [11], [], 6), (20, [10, 3], [1], 31), (0, [10], [], 305), (41, [6, 9], [], 0), (0, [9], [], -1), (43, [7, 8], [], 0), (20, [8, 3], [1], 82), (90, [8], [], 0), (91, [8], [], 40), (5000, [0, 1, 2, 3, 4, 5, 6, 7], [0, 1], 5), (0, [0], [], 285), (90, [1], [], 0), (91, [1], [], 2), (90, [2], [], 0), (91, [2], [], 240), (0, [3], [], 285), (90, [4], [], 0), (91, [4], [], 2), (90, [5], [], 0), (91, [5], [], 240), (90, [6], [], -1), (91, [6], [], 39), (90, [7], [], 0), (91, [7], [], 40)], (72, [33], [], 0)),
  ([(42, [7, 8], [], 0), (20, [8, 3], [1], 82), (90, [8], [], 0), (91, [8], [], 40), (5000, [0, 1, 2, 3, 4, 5, 6, 7], [0, 1], 5), (0, [0], [], 285), (90, [1], [], 0), (91, [1], [], 2), (90, [2], [], 0), (91, [2], [], 240), (0, [3], [], 285), (90, [4], [], 0), (91, [4], [], 2), (90, [5], [], 0), (91, [5], [], 240), (90, [6], [], -1), (91, [6], [], 39), (90, [7], [], 0), (91, [7], [], 40)], (70, [7], [], 40)),
  ([(10, [14, 7], [], 1), (41, [12, 13], [], 0), (0, [13], [], 1), (22, [12, 9, 11], [1], 0), (90, [12], [], 0), (91, [12], [], 5), (22, [11, 10, 7], [1], 0), (90, [11], [], 0), (91, [11], [], 1007), (20, [10, 3], [1], 83), (0, [10], [], 344), (20, [9, 3], [1], 24), (0, [9], [], 298), (42, [7, 8], [], 0), (20, [8, 3], [1], 82), (90, [8], [], 0), (91, [8], [], 40), (5000, [0, 1, 2, 3, 4, 5, 6, 7], [0, 1], 5), (0, [0], [], 285), (90, [1], [], 0), (91, [1], [], 2), (90, [2], [], 0), (91, [2], [], 240), (0, [3], [], 285), (90, [4], [], 0), (91, [4], [], 2), (90, [5], [], 0), (91, [5], [], 240), (90, [6], [], -1), (91, [6], [], 39), (90, [7], [], 0), (91, [7], [], 40)], (90, [14], [], 0)),
  ([(10, [14, 7], [], 1), (41, [12, 13], [], 0), (0, [13], [], 1), (22, [12, 9, 11], [1], 0), (90, [12], [], 0), (91, [12], [], 5), (22, [11, 10, 7], [1], 0), (90, [11], [], 0), (91, [11], [], 1007), (20, [10, 3], [1], 83), (0, [10], [], 344), (20, [9, 3], [1], 24), (0, [9], [], 298), (42, [7, 8], [], 0), (20, [8, 3], [1], 82), (90, [8], [], 0), (91, [8], [], 40), (5000, [0, 1, 2, 3, 4, 5, 6, 7], [0, 1], 5), (0, [0], [], 285), (90, [1], [], 0), (91, [1], [], 2), (90, [2], [], 0), (91, [2], [], 240), (0, [3], [], 285), (90, [4], [], 0), (91, [4], [], 2), (90, [5], [], 0), (91, [5], [], 240), (90, [6], [], -1), (91, [6], [], 39), (90, [7], [], 0), (91, [7], [], 40)], (91, [14], [], 40)),
  ([(10, [14, 7], [], 1), (41, [12, 13], [], 0), (0, [13], [], 1), (22, [12, 9, 11], [1], 0), (90, [12], [], 0), (91, [12], [], 5), (22, [11, 10, 7], [1], 0), (90, [11], [], 0), (91, [11], [], 1007), (20, [10, 3], [1], 83), (0, [10], [], 344), (20, [9, 3], [1], 24), (0, [9], [], 298), (42, [7, 8], [], 0), (20, [8, 3], [1], 82), (90, [8], [], 0), (91, [8], [], 40), (5000, [0, 1, 2, 3, 4, 5, 6, 7], [0, 1], 5), (0, [0], [], 285), (90, [1], [], 0), (91, [1], [], 2), (90, [2], [], 0), (91, [2], [], 240), (0, [3], [], 285), (90, [4], [], 0), (91, [4], [], 2), (90, [5], [], 0), (91, [5], [], 240), (90, [6], [], -1), (91, [6], [], 39), (90, [7], [], 0), (91, [7], [], 40)], (4000, [3, 4, 5, 6, 14], [1], 5)),
  ([(20, [15, 3], [1], 83), (0, [15], [], 344), (40, [12, 13], [], 0), (0, [13], [], 1), (22, [12, 9, 11], [1], 0), (90, [12], [], 0), (91, [12], [], 5), (22, [11, 10, 7], [1], 0), (90, [11], [], 0), (91, [11], [], 1007), (20, [10, 3], [1], 83), (0, [10], [], 344), (20, [9, 3], [1], 24), (0, [9], [], 298), (42, [7, 8], [], 0), (20, [8, 3], [1], 82), (90, [8], [], 0), (91, [8], [], 40), (5000, [0, 1, 2, 3, 4, 5, 6, 7], [0, 1], 5), (0, [0], [], 285), (90, [1], [], 0), (91, [1], [], 2), (90, [2], [], 0), (91, [2], [], 240), (0, [3], [], 285), (90, [4], [], 0), (91, [4], [], 2), (90, [5], [], 0), (91, [5], [], 240), (90, [6], [], -1), (91, [6], [], 39), (90, [7], [], 0), (91, [7], [], 40)], (70, [7], [], 40)),
  ([(10, [18, 7], [], 1), (41, [17, 4], [], 0), (22, [17, 14, 16], [1], 0), (90, [17], [], -1), (91, [17], [], 9999), (22, [16, 15, 7], [1], 0), (90, [16], [], 0), (91, [16], [], 1007), (20, [15, 3], [1], 83), (0, [15], [], 344), (20, [14, 3], [1], 26), (0, [14], [], 300), (40, [12, 13], [], 0), (0, [13], [], 1), (22, [12, 9, 11], [1], 0), (90, [12], [], 0), (91, [12], [], 5), (22, [11, 10, 7], [1], 0), (90, [11], [], 0), (91, [11], [], 1007), (20, [10, 3], [1], 83), (0, [10], [], 344), (20, [9, 3], [1], 24), (0, [9], [], 298), (42, [7, 8], [], 0), (20, [8, 3], [1], 82), (90, [8], [], 0), (91, [8], [], 40), (5000, [0, 1, 2, 3, 4, 5, 6, 7], [0, 1], 5), (0, [0], [], 285), (90, [1], [], 0), (91, [1], [], 2), (90, [2], [], 0), (91, [2], [], 240), (0, [3], [], 285), (90, [4], [], 0), (91, [4], [], 2), (90, [5], [], 0), (91, [5], [], 240), (90, [6], [], -1), (91, [6], [], 39), (90, [7], [], 0), (91, [7], [], 40)], (90, [18], [], 0)),
  ([(10, [18, 7], [], 1), (41, [17, 4], [], 0), (22, [17, 14, 16], [1], 0), (90, [17], [], -1), (91, [17], [], 9999), (22, [16, 15, 7], [1], 0), (90, [16], [], 0), (91, [16], [], 1007), (20, [15, 3], [1], 83), (0, [15], [], 344), (20, [14, 3], [1], 26), (0, [14], [], 300), (40, [12, 13], [], 0), (0, [13], [], 1), (22, [12, 9, 11], [1], 0), (90, [12], [], 0), (91, [12], [], 5), (22, [11, 10, 7], [1], 0), (90, [11], [], 0), (91, [11], [], 1007), (20, [10, 3], [1], 83), (0, [10], [], 344), (20, [9, 3], [1], 24), (0, [9], [], 298), (42, [7, 8], [], 0), (20, [8, 3], [1], 82), (90, [8], [], 0), (91, [8], [], 40), (5000, [0, 1, 2, 3, 4, 5, 6, 7], [0, 1], 5), (0, [0], [], 285), (90, [1], [], 0), (91, [1], [], 2), (90, [2], [], 0), (91, [2], [], 240), (0, [3], [], 285), (90, [4], [], 0), (91, [4], [], 2), (90, [5], [], 0), (91, [5], [], 240), (90, [6], [], -1), (91, [6], [], 39), (90, [7], [], 0), (91, [7], [], 40)], (91, [18], [], 40)),
  ([(10, [18, 7], [], 1), (41, [17, 4], [], 0), (22, [17, 14, 16], [1], 0), (90, [17], [], -1), (91, [17], [], 9999), (22, [16, 15, 7], [1], 0), (90, [16], [], 0), (91, [16], [], 1007), (20, [15, 3], [1], 83), (0, [15], [], 344), (20, [14, 3], [1], 26), (0, [14], [], 300), (40, [12, 13], [], 0), (0, [13], [], 1), (22, [12, 9, 11], [1], 0), (90, [12], [], 0), (91, [12], [], 5), (22, [11, 10, 7], [1], 0), (90, [11], [], 0), (91, [11], [], 1007), (20, [10, 3], [1], 83), (0, [10], [], 344), (20, [9, 3], [1], 24), (0, [9], [], 298), (42, [7, 8], [], 0), (20, [8, 3], [1], 82), (90, [8], [], 0), (91, [8], [], 40), (5000, [0, 1, 2, 3, 4, 5, 6, 7], [0, 1], 5), (0, [0], [], 285), (90, [1], [], 0), (91, [1], [], 2), (90, [2], [], 0), (91, [2], [], 240), (0, [3], [], 285), (90, [4], [], 0), (91, [4], [], 2), (90, [5], [], 0), (91, [5], [], 240), (90, [6], [], -1), (91, [6], [], 39), (90, [7], [], 0), (91, [7], [], 40)], (4000, [3, 4, 5, 6, 18], [1], 5)),
  ([(40, [17, 4], [], 0), (22, [17, 14, 16], [1], 0), (90, [17], [], -1), (91, [17], [], 9999), (22, [16, 15, 7], [1], 0), (90, [16], [], 0), (91, [16], [], 1007), (20, [15, 3], [1], 83), (0, [15], [], 344), (20, [14, 3], [1], 26), (0, [14], [], 300), (40, [12, 13], [], 0), (0, [13], [], 1), (22, [12, 9, 11], [1], 0), (90, [12], [], 0), (91, [12], [], 5), (22, [11, 10, 7], [1], 0), (90, [11], [], 0), (91, [11], [], 1007), (20, [10, 3], [1], 83), (0, [10], [], 344), (20, [9, 3], [1], 24), (0, [9], [], 298), (42, [7, 8], [], 0), (20, [8, 3], [1], 82), (90, [8], [], 0), (91, [8], [], 40), (5000, [0, 1, 2, 3, 4, 5, 6, 7], [0, 1], 5), (0, [0], [], 285), (90, [1], [], 0), (91, [1], [], 2), (90, [2], [], 0), (91, [2], [], 240), (0, [3], [], 285), (90, [4], [], 0), (91, [4], [], 2), (90, [5], [], 0), (91, [5], [], 240), (90, [6], [], -1), (91, [6], [], 39), (90, [7], [], 0), (91, [7], [], 40)], (91, [7], [], 39)),
  ([(40, [17, 4], [], 0), (22, [17, 14, 16], [1], 0), (90, [17], [], -1), (91, [17], [], 9999), (22, [16, 15, 7], [1], 0), (90, [16], [], 0), (91, [16], [], 1007), (20, [15, 3], [1], 83), (0, [15], [], 344), (20, [14, 3], [1], 26), (0, [14], [], 300), (40, [12, 13], [], 0), (0, [13], [], 1), (22, [12, 9, 11], [1], 0), (90, [12], [], 0), (91, [12], [], 5), (22, [11, 10, 7], [1], 0), (90, [11], [], 0), (91, [11], [], 1007), (20, [10, 3], [1], 83), (0, [10], [], 344), (20, [9, 3], [1], 24), (0, [9], [], 298), (42, [7, 8], [], 0), (20, [8, 3], [1], 82), (90, [8], [], 0), (91, [8], [], 40), (5000, [0, 1, 2, 3, 4, 5, 6, 7], [0, 1], 5), (0, [0], [], 285), (90, [1], [], 0), (91, [1], [], 2), (90, [2], [], 0), (91, [2], [], 240), (0, [3], [], 285), (90, [4], [], 0), (91, [4], [], 2), (90, [5], [], 0), (91, [5], [], 240), (90, [6], [], -1), (91, [6], [], 39), (90, [7], [], 0), (91, [7], [], 40)], (2271, [3, 7], [1], 0)),
  ([(10, [21, 7], [], 1), (44, [20, 5], [], 0), (3, [20, 18, 19], [], 0), (90, [19], [], -10999), (91, [19], [], 10999), (0, [18], [], 4), (40, [17, 4], [], 0), (22, [17, 14, 16], [1], 0), (90, [17], [], -1), (91, [17], [], 9999), (22, [16, 15, 7], [1], 0), (90, [16], [], 0), (91, [16], [], 1007), (20, [15, 3], [1], 83), (0, [15], [], 344), (20, [14, 3], [1], 26), (0, [14], [], 300), (40, [12, 13], [], 0), (0, [13], [], 1), (22, [12, 9, 11], [1], 0), (90, [12], [], 0), (91, [12], [], 5), (22, [11, 10, 7], [1], 0), (90, [11], [], 0), (91, [11], [], 1007), (20, [10, 3], [1], 83), (0, [10], [], 344), (20, [9, 3], [1], 24), (0, [9], [], 298), (42, [7, 8], [], 0), (20, [8, 3], [1], 82), (90, [8], [], 0), (91, [8], [], 40), (5000, [0, 1, 2, 3, 4, 5, 6, 7], [0, 1], 5), (0, [0], [], 285), (90, [1], [], 0), (91, [1], [], 2), (90, [2], [], 0), (91, [2], [], 240), (0, [3], [], 285), (90, [4], [], 0), (91, [4], [], 2), (90, [5], [], 0), (91, [5], [], 240), (90, [6], [], -1), (91, [6], [], 39), (90, [7], [], 0), (91, [7], [], 40)], (90, [21], [], 0)),
  ([(10, [21, 7], [], 1), (44, [20, 5], [], 0), (3, [20, 18, 19], [], 0), (90, [19], [], -10999), (91, [19], [], 10999), (0, [18], [], 4), (40, [17, 4], [], 0), (22, [17, 14, 16], [1], 0), (90, [17], [], -1), (91, [17], [], 9999), (22, [16, 15, 7], [1], 0), (90, [16], [], 0), (91, [16], [], 1007), (20, [15, 3], [1], 83), (0, [15], [], 344), (20, [14, 3], [1], 26), (0, [14], [], 300), (40, [12, 13], [], 0), (0, [13], [], 1), (22, [12, 9, 11], [1], 0), (90, [12], [], 0), (91, [12], [], 5), (22, [11, 10, 7], [1], 0), (90, [11], [], 0), (91, [11], [], 1007), (20, [10, 3], [1], 83), (0, [10], [], 344), (20, [9, 3], [1], 24), (0, [9], [], 298), (42, [7, 8], [], 0), (20, [8, 3], [1], 82), (90, [8], [], 0), (91, [8], [], 40), (5000, [0, 1, 2, 3, 4, 5, 6, 7], [0, 1], 5), (0, [0], [], 285), (90, [1], [], 0), (91, [1], [], 2), (90, [2], [], 0), (91, [2], [], 240), (0, [3], [], 285), (90, [4], [], 0), (91, [4], [], 2), (90, [5], [], 0), (91, [5], [], 240), (90, [6], [], -1), (91, [6], [], 39), (90, [7], [], 0), (91, [7], [], 40)], (91, [21], [], 40)),
  ([(10, [21, 7], [], 1), (44, [20, 5], [], 0), (3, [20, 18, 19], [], 0), (1271, [19, 3, 7], [1, 2], 0), (90, [19], [], -10999), (91, [19], [], 10999), (0, [18], [], 4), (40, [17, 4], [], 0), (22, [17, 14, 16], [1], 0), (90, [17], [], -1), (91, [17], [], 9999), (22, [16, 15, 7], [1], 0), (90, [16], [], 0), (91, [16], [], 1007), (20, [15, 3], [1], 83), (0, [15], [], 344), (20, [14, 3], [1], 26), (0, [14], [], 300), (40, [12, 13], [], 0), (0, [13], [], 1), (22, [12, 9, 11], [1], 0), (90, [12], [], 0), (91, [12], [], 5), (22, [11, 10, 7], [1], 0), (90, [11], [], 0), (91, [11], [], 1007), (20, [10, 3], [1], 83), (0, [10], [], 344), (20, [9, 3], [1], 24), (0, [9], [], 298), (42, [7, 8], [], 0), (20, [8, 3], [1], 82), (90, [8], [], 0), (91, [8], [], 40), (5000, [0, 1, 2, 3, 4, 5, 6, 7], [0, 1], 5), (0, [0], [], 285), (90, [1], [], 0), (91, [1], [], 2), (90, [2], [], 0), (91, [2], [], 240), (0, [3], [], 285), (90, [4], [], 0), (91, [4], [], 2), (90, [5], [], 0), (91, [5], [], 240), (90, [6], [], -1), (91, [6], [], 39), (90, [7], [], 0), (91, [7], [], 40)], (4000, [3, 4, 5, 6, 21], [2], 5)),
  ([(10, [21, 7], [], 1), (45, [20, 5], [], 0), (3, [20, 18, 19], [], 0), (90, [19], [], -10999), (91, [19], [], 10999), (0, [18], [], 4), (40, [17, 4], [], 0), (22, [17, 14, 16], [1], 0), (90, [17], [], -1), (91, [17], [], 9999), (22, [16, 15, 7], [1], 0), (90, [16], [], 0), (91, [16], [], 1007), (20, [15, 3], [1], 83), (0, [15], [], 344), (20, [14, 3], [1], 26), (0, [14], [], 300), (40, [12, 13], [], 0), (0, [13], [], 1), (22, [12, 9, 11], [1], 0), (90, [12], [], 0), (91, [12], [], 5), (22, [11, 10, 7], [1], 0), (90, [11], [], 0), (91, [11], [], 1007), (20, [10, 3], [1], 83), (0, [10], [], 344), (20, [9, 3], [1], 24), (0, [9], [], 298), (42, [7, 8], [], 0), (20, [8, 3], [1], 82), (90, [8], [], 0), (91, [8], [], 40), (5000, [0, 1, 2, 3, 4, 5, 6, 7], [0, 1], 5), (0, [0], [], 285), (90, [1], [], 0), (91, [1], [], 2), (90, [2], [], 0), (91, [2], [], 240), (0, [3], [], 285), (90, [4], [], 0), (91, [4], [], 2), (90, [5], [], 0), (91, [5], [], 240), (90, [6], [], -1), (91, [6], [], 39), (90, [7], [], 0), (91, [7], [], 40)], (91, [7], [], 39)),
  ([(10, [21, 7], [], 1), (45, [20, 5], [], 0), (3, [20, 18, 19], [], 0), (90, [19], [], -10999), (91, [19], [], 10999), (0, [18], [], 4), (40, [17, 4], [], 0), (22, [17, 14, 16], [1], 0), (90, [17], [], -1), (91, [17], [], 9999), (22, [16, 15, 7], [1], 0), (90, [16], [], 0), (91, [16], [], 1007), (20, [15, 3], [1], 83), (0, [15], [], 344), (20, [14, 3], [1], 26), (0, [14], [], 300), (40, [12, 13], [], 0), (0, [13], [], 1), (22, [12, 9, 11], [1], 0), (90, [12], [], 0), (91, [12], [], 5), (22, [11, 10, 7], [1], 0), (90, [11], [], 0), (91, [11], [], 1007), (20, [10, 3], [1], 83), (0, [10], [], 344), (20, [9, 3], [1], 24), (0, [9], [], 298), (42, [7, 8], [], 0), (20, [8, 3], [1], 82), (90, [8], [], 0), (91, [8], [], 40), (5000, [0, 1, 2, 3, 4, 5, 6, 7], [0, 1], 5), (0, [0], [], 285), (90, [1], [], 0), (91, [1], [], 2), (90, [2], [], 0), (91, [2], [], 240), (0, [3], [], 285), (90, [4], [], 0), (91, [4], [], 2), (90, [5], [], 0), (91, [5], [], 240), (90, [6], [], -1), (91, [6], [], 39), (90, [7], [], 0), (91, [7], [], 40)], (90, [21], [], 0)),
  ([(10, [21, 7], [], 1), (45, [20, 5], [], 0), (3, [20, 18, 19], [], 0), (90, [19], [], -10999), (91, [19], [], 10999), (0, [18], [], 4), (40, [17, 4], [], 0), (22, [17, 14, 16], [1], 0), (90, [17], [], -1), (91, [17], [], 9999), (22, [16, 15, 7], [1], 0), (90, [16], [], 0), (91, [16], [], 1007), (20, [15, 3], [1], 83), (0, [15], [], 344), (20, [14, 3], [1], 26), (0, [14], [], 300), (40, [12, 13], [], 0), (0, [13], [], 1), (22, [12, 9, 11], [1], 0), (90, [12], [], 0), (91, [12], [], 5), (22, [11, 10, 7], [1], 0), (90, [11], [], 0), (91, [11], [], 1007), (20, [10, 3], [1], 83), (0, [10], [], 344), (20, [9, 3], [1], 24), (0, [9], [], 298), (42, [7, 8], [], 0), (20, [8, 3], [1], 82), (90, [8], [], 0), (91, [8], [], 40), (5000, [0, 1, 2, 3, 4, 5, 6, 7], [0, 1], 5), (0, [0], [], 285), (90, [1], [], 0), (91, [1], [], 2), (90, [2], [], 0), (91, [2], [], 240), (0, [3], [], 285), (90, [4], [], 0), (91, [4], [], 2), (90, [5], [], 0), (91, [5], [], 240), (90, [6], [], -1), (91, [6], [], 39), (90, [7], [], 0), (91, [7], [], 40)], (91, [21], [], 40)),
  ([(10, [21, 7], [], 1), (45, [20, 5], [], 0), (3, [20, 18, 19], [], 0), (1271, [19, 3, 7], [1, 2], 0), (90, [19], [], -10999), (91, [19], [], 10999), (0, [18], [], 4), (40, [17, 4], [], 0), (22, [17, 14, 16], [1], 0), (90, [17], [], -1), (91, [17], [], 9999), (22, [16, 15, 7], [1], 0), (90, [16], [], 0), (91, [16], [], 1007), (20, [15, 3], [1], 83), (0, [15], [], 344), (20, [14, 3], [1], 26), (0, [14], [], 300), (40, [12, 13], [], 0), (0, [13], [], 1), (22, [12, 9, 11], [1], 0), (90, [12], [], 0), (91, [12], [], 5), (22, [11, 10, 7], [1], 0), (90, [11], [], 0), (91, [11], [], 1007), (20, [10, 3], [1], 83), (0, [10], [], 344), (20, [9, 3], [1], 24), (0, [9], [], 298), (42, [7, 8], [], 0), (20, [8, 3], [1], 82), (90, [8], [], 0), (91, [8], [], 40), (5000, [0, 1, 2, 3, 4, 5, 6, 7], [0, 1], 5), (0, [0], [], 285), (90, [1], [], 0), (91, [1], [], 2), (90, [2], [], 0), (91, [2], [], 240), (0, [3], [], 285), (90, [4], [], 0), (91, [4], [], 2), (90, [5], [], 0), (91, [5], [], 240), (90, [6], [], -1), (91, [6], [], 39), (90, [7], [], 0), (91, [7], [], 40)], (4000, [3, 4, 5, 7, 21], [2], 5))]
theorem r_275_5 : vCovO true (eRc e_275 L_275 cs_275 2000 (5, [(0, (3, 12, 285, 0)), (1, (0, 0, 2, 0)), (2, (0, 0, 240, 0)), (3, (0, -1, 39, 0)), (4, (0, 0, 40, 0))])) p_275_5 = true := by decide +kernel
theorem m_275 (d : Nat) : eC e_275 (d + 3) := eC_ok (e := e_275) (L := L_275) (cs := cs_275) (n := 2000) (d := d + 2) (A := A_275) (μ := mu_275) (tp := true) (p0 := p_275_s) rfl ⟨m_271 d, ⟨m_272 d, trivial⟩⟩ rfl (.inl rfl) (by decide +kernel) (fun _ => post0_ok) r_275_s (allC c_275_s_0 allN) (allC (.inl ⟨p_275_5, r_275_5, fun q0 => (allC c_275_5_0 (allC c_275_5_1 (allC c_275_5_2 (allC c_275_5_3 (allC c_275_5_4 (allC c_275_5_5 (allC c_275_5_6 (allC c_275_5_7 (allC c_275_5_8 (allC c_275_5_9 (allC c_275_5_10 (allC c_275_5_11 (allC c_275_5_12 (allC c_275_5_13 (allC c_275_5_14 (allC c_275_5_15 (allC c_275_5_16 (allC c_275_5_17 (allC c_275_5_18 (allC c_275_5_19 (allC c_275_5_20 (allC c_275_5_21 (allC c_275_5_22 (allC c_275_5_23 (allC c_275_5_24 (allC c_275_5_25 allN))))))))))))))))))))))))))⟩) allN)
/- MixStageModel.dips (I)V -/
noncomputable def s_276 : vM := ([(3, 12, 285, 0), (0, 0, 1007, 0)], (9, 0, 0, 0), 1, 0, [(621, 0)])
def preb_276 (a0 a1 : Int) (h : gH) : Prop := 0 ≤ hV h 300 ((a1).toNat) ∧ hV h 300 ((a1).toNat) ≤ 2 ∧ 0 ≤ hV h 305 ((6 * a1).toNat) ∧ hV h 305 ((6 * a1).toNat) ≤ 2
def pre_276 : List Int → gH → Prop := fun xs h => match xs with
  | [a0, a1] => preb_276 a0 a1 h
  | _ => False
noncomputable def e_276 : vE := (276, s_276, pre_276, post0)
noncomputable def L_276 : List vE := []
def cs_276 : List vC := [(62, [(0, (3, 12, 285, 0)), (1, (0, 0, 1007, 0)), (2, (0, 0, 2, 0)), (3, (0, 0, 2, 0)), (4, (0, -2147483648, 2147483647, 0)), (5, (0, -2147483648, 2147483647, 0)), (6, (0, -2147483648, 2147483647, 0)), (7, (0, 0, 240, 0))])]
def Ab_276_62 (a0 a1 x0 x1 x2 x3 x4 x5 x6 x7 : Int) (h0 h : gH) : Prop := x1 = a1
def mub_276_62 (a0 a1 x0 x1 x2 x3 x4 x5 x6 x7 : Int) (h0 h : gH) : Nat := (2147483648 - x7).toNat
def A_276 : Int → List Int → gH → gH → Prop := fun c xs h0 h => match c.toNat with
  | 62 => (match xs with
    | [a0, a1, x0, x1, x2, x3, x4, x5, x6, x7] => Ab_276_62 a0 a1 x0 x1 x2 x3 x4 x5 x6 x7 h0 h
    | _ => False)
  | _ => True
def mu_276 : Int → List Int → gH → gH → Nat := fun c xs h0 h => match c.toNat with
  | 62 => (match xs with
    | [a0, a1, x0, x1, x2, x3, x4, x5, x6, x7] => mub_276_62 a0 a1 x0 x1 x2 x3 x4 x5 x6 x7 h0 h
    | _ => 0)
  | _ => 0
theorem q_276_0 {n0 n1 n2 n3 n4 n5 : Int} {H0 : gH} (f0 : n0 ≤ 1007) (f1 : 0 ≤ n0) (f2 : n1 = 285) (f3 : hWt T0 H0 ∧ preb_276 n1 n0 H0) (f4 : n2 = 300) (f5 : n2 = hV H0 (n1).toNat 26) (f6 : n3 ≤ 9999) (f7 : (-1) ≤ n3) (f8 : n3 = hV H0 (n2).toNat (n0).toNat) (f9 : n4 = 6) (f10 : n5 = w32 (n4 * n0)) : 0 ≤ n5 ∧ n5 < 6048 := by
  unfold preb_276 at f3
  have e0 : n3 = hV H0 300 (n0).toNat := (by rw [f4] at f8; exact f8 : n3 = hV H0 300 (n0).toNat)
  have p0 := f3.2.1
  have p1 := f3.2.2.1
  have p2 := f3.2.2.2.1
  have p3 := f3.2.2.2.2
  clear f5 f8
  subst e0
  rw [f9] at f10
  first
  | (have ix0 : n5 = 6 * n0 := Eq.trans f10 (w32_iv (Iml 6 rfl (Iat f1 f0)) (by decide)); subst ix0; clear f10)
  | (have ix0 : n5 = 6 * n0 := Eq.trans f10 (w32_id (by omega) (by omega)); subst ix0; clear f10)
  | (unfold w32 at f10; have ix0 : n5 = 6 * n0 := (by omega); subst ix0)
  | skip
  try unfold w32 at f10
  omega
theorem c_276_s_0 : vOkm T0 (eP e_276 L_276 A_276 mu_276 none) 2 ([(3, [6, 5, 1], [], 0), (0, [5], [], 6), (22, [3, 2, 1], [0], 0), (90, [3], [], -1), (91, [3], [], 9999), (20, [2, 0], [0], 26), (0, [2], [], 300), (6000, [0, 1], [0], 0), (0, [0], [], 285), (90, [1], [], 0), (91, [1], [], 1007)], (70, [6], [], 6048)) := vOk_inI fun ρ η f0 f1 f2 f3 f4 f5 f6 f7 f8 f9 f10 => q_276_0 (n0 := ρ 1) (n1 := ρ 0) (n2 := ρ 2) (n3 := ρ 3) (n4 := ρ 5) (n5 := ρ 6) (H0 := η 0) f10 f9 f8 f7 f6 f5 f4 f3 f2 f1 f0
theorem q_276_1 {n0 n1 n2 n3 n4 n5 n6 n7 n8 n9 n10 n11 n12 : Int} {H0 : gH} (f0 : n0 ≤ 1007) (f1 : 0 ≤ n0) (f2 : n1 = 285) (f3 : hWt T0 H0 ∧ preb_276 n1 n0 H0) (f4 : n2 = 300) (f5 : n2 = hV H0 (n1).toNat 26) (f6 : n3 ≤ 9999) (f7 : (-1) ≤ n3) (f8 : n3 = hV H0 (n2).toNat (n0).toNat) (f9 : n4 = 305) (f10 : n4 = hV H0 (n1).toNat 31) (f11 : n5 = 6) (f12 : n6 = w32 (n5 * n0)) (f13 : n7 ≤ 9999) (f14 : (-1) ≤ n7) (f15 : n7 = hV H0 (n4).toNat (n6).toNat) (f16 : n8 = 305) (f17 : n8 = hV H0 (n1).toNat 31) (f18 : n9 = 6) (f19 : n10 = w32 (n9 * n0)) (f20 : n11 = 1) (f21 : n12 = w32 (n10 + n11)) : 0 ≤ n12 ∧ n12 < 6048 := by
  unfold preb_276 at f3
  have e0 : n3 = hV H0 300 (n0).toNat := (by rw [f4] at f8; exact f8 : n3 = hV H0 300 (n0).toNat)
  have e1 : n7 = hV H0 305 (n6).toNat := (by rw [f9] at f15; exact f15 : n7 = hV H0 305 (n6).toNat)
  have p0 := f3.2.1
  have p1 := f3.2.2.1
  have p2 := f3.2.2.2.1
  have p3 := f3.2.2.2.2
  clear f5 f8 f10 f15 f17
  subst e0
  subst e1
  rw [f11] at f12
  rw [f18] at f19
  first
  | (have ix0 : n6 = 6 * n0 := Eq.trans f12 (w32_iv (Iml 6 rfl (Iat f1 f0)) (by decide)); subst ix0; clear f12)
  | (have ix0 : n6 = 6 * n0 := Eq.trans f12 (w32_id (by omega) (by omega)); subst ix0; clear f12)
  | (unfold w32 at f12; have ix0 : n6 = 6 * n0 := (by omega); subst ix0)
  | skip
  first
  | (have ix1 : n10 = 6 * n0 := Eq.trans f19 (w32_iv (Iml 6 rfl (Iat f1 f0)) (by decide)); subst ix1; clear f19)
  | (have ix1 : n10 = 6 * n0 := Eq.trans f19 (w32_id (by omega) (by omega)); subst ix1; clear f19)
  | (unfold w32 at f19; have ix1 : n10 = 6 * n0 := (by omega); subst ix1)
  | skip
  first
  | (have ix2 : n12 = (6 * n0) + 1 := Eq.trans f21 (w32_iv (Iad (Iml 6 rfl (Iat f1 f0)) (IC 1)) (by decide)); subst ix2; clear f21)
  | (have ix2 : n12 = (6 * n0) + 1 := Eq.trans f21 (w32_id (by omega) (by omega)); subst ix2; clear f21)
  | (unfold w32 at f21; have ix2 : n12 = (6 * n0) + 1 := (by omega); subst ix2)
  | skip
  try unfold w32 at f12
  try unfold w32 at f19
  try unfold w32 at f21
  omega
theorem c_276_s_1 : vOkm T0 (eP e_276 L_276 A_276 mu_276 none) 2 ([(1, [13, 11, 12], [], 0), (0, [12], [], 1), (3, [11, 10, 1], [], 0), (0, [10], [], 6), (20, [9, 0], [0], 31), (0, [9], [], 305), (22, [7, 4, 6], [0], 0), (90, [7], [], -1), (91, [7], [], 9999), (3, [6, 5, 1], [], 0), (0, [5], [], 6), (20, [4, 0], [0], 31), (0, [4], [], 305), (22, [3, 2, 1], [0], 0), (90, [3], [], -1), (91, [3], [], 9999), (20, [2, 0], [0], 26), (0, [2], [], 300), (6000, [0, 1], [0], 0), (0, [0], [], 285), (90, [1], [], 0), (91, [1], [], 1007)], (70, [13], [], 6048)) := vOk_inI fun ρ η f0 f1 f2 f3 f4 f5 f6 f7 f8 f9 f10 f11 f12 f13 f14 f15 f16 f17 f18 f19 f20 f21 => q_276_1 (n0 := ρ 1) (n1 := ρ 0) (n2 := ρ 2) (n3 := ρ 3) (n4 := ρ 4) (n5 := ρ 5) (n6 := ρ 6) (n7 := ρ 7) (n8 := ρ 9) (n9 := ρ 10) (n10 := ρ 11) (n11 := ρ 12) (n12 := ρ 13) (H0 := η 0) f21 f20 f19 f18 f17 f16 f15 f14 f13 f12 f11 f10 f9 f8 f7 f6 f5 f4 f3 f2 f1 f0
theorem q_276_2 {n0 n1 n2 n3 n4 n5 n6 n7 n8 n9 n10 n11 n12 n13 n14 n15 n16 n17 n18 n19 n20 : Int} {H0 : gH} (f0 : n0 ≤ 1007) (f1 : 0 ≤ n0) (f2 : n1 = 285) (f3 : hWt T0 H0 ∧ preb_276 n1 n0 H0) (f4 : n2 = 300) (f5 : n2 = hV H0 (n1).toNat 26) (f6 : n3 ≤ 9999) (f7 : (-1) ≤ n3) (f8 : n3 = hV H0 (n2).toNat (n0).toNat) (f9 : n4 = 305) (f10 : n4 = hV H0 (n1).toNat 31) (f11 : n5 = 6) (f12 : n6 = w32 (n5 * n0)) (f13 : n7 ≤ 9999) (f14 : (-1) ≤ n7) (f15 : n7 = hV H0 (n4).toNat (n6).toNat) (f16 : n8 = 100) (f17 : n9 = 305) (f18 : n9 = hV H0 (n1).toNat 31) (f19 : n10 = 6) (f20 : n11 = w32 (n10 * n0)) (f21 : n12 = 1) (f22 : n13 = w32 (n11 + n12)) (f23 : n14 ≤ 9999) (f24 : (-1) ≤ n14) (f25 : n14 = hV H0 (n9).toNat (n13).toNat) (f26 : n15 = w32 (n8 - n14)) (f27 : 0 ≤ n15) (f28 : n16 = 305) (f29 : n16 = hV H0 (n1).toNat 31) (f30 : n17 = 6) (f31 : n18 = w32 (n17 * n0)) (f32 : n19 = 2) (f33 : n20 = w32 (n18 + n19)) : 0 ≤ n20 ∧ n20 < 6048 := by
  unfold preb_276 at f3
  have e0 : n3 = hV H0 300 (n0).toNat := (by rw [f4] at f8; exact f8 : n3 = hV H0 300 (n0).toNat)
  have e1 : n7 = hV H0 305 (n6).toNat := (by rw [f9] at f15; exact f15 : n7 = hV H0 305 (n6).toNat)
  have e2 : n14 = hV H0 305 (n13).toNat := (by rw [f17] at f25; exact f25 : n14 = hV H0 305 (n13).toNat)
  have p0 := f3.2.1
  have p1 := f3.2.2.1
  have p2 := f3.2.2.2.1
  have p3 := f3.2.2.2.2
  clear f5 f8 f10 f15 f18 f25 f29
  subst e0
  subst e1
  subst e2
  rw [f11] at f12
  rw [f19] at f20
  rw [f30] at f31
  first
  | (have ix0 : n6 = 6 * n0 := Eq.trans f12 (w32_iv (Iml 6 rfl (Iat f1 f0)) (by decide)); subst ix0; clear f12)
  | (have ix0 : n6 = 6 * n0 := Eq.trans f12 (w32_id (by omega) (by omega)); subst ix0; clear f12)
  | (unfold w32 at f12; have ix0 : n6 = 6 * n0 := (by omega); subst ix0)
  | skip
  first
  | (have ix1 : n11 = 6 * n0 := Eq.trans f20 (w32_iv (Iml 6 rfl (Iat f1 f0)) (by decide)); subst ix1; clear f20)
  | (have ix1 : n11 = 6 * n0 := Eq.trans f20 (w32_id (by omega) (by omega)); subst ix1; clear f20)
  | (unfold w32 at f20; have ix1 : n11 = 6 * n0 := (by omega); subst ix1)
  | skip
  first
  | (have ix2 : n13 = (6 * n0) + 1 := Eq.trans f22 (w32_iv (Iad (Iml 6 rfl (Iat f1 f0)) (IC 1)) (by decide)); subst ix2; clear f22)
  | (have ix2 : n13 = (6 * n0) + 1 := Eq.trans f22 (w32_id (by omega) (by omega)); subst ix2; clear f22)
  | (unfold w32 at f22; have ix2 : n13 = (6 * n0) + 1 := (by omega); subst ix2)
  | skip
  first
  | (have ix3 : n18 = 6 * n0 := Eq.trans f31 (w32_iv (Iml 6 rfl (Iat f1 f0)) (by decide)); subst ix3; clear f31)
  | (have ix3 : n18 = 6 * n0 := Eq.trans f31 (w32_id (by omega) (by omega)); subst ix3; clear f31)
  | (unfold w32 at f31; have ix3 : n18 = 6 * n0 := (by omega); subst ix3)
  | skip
  first
  | (have ix4 : n20 = (6 * n0) + 2 := Eq.trans f33 (w32_iv (Iad (Iml 6 rfl (Iat f1 f0)) (IC 2)) (by decide)); subst ix4; clear f33)
  | (have ix4 : n20 = (6 * n0) + 2 := Eq.trans f33 (w32_id (by omega) (by omega)); subst ix4; clear f33)
  | (unfold w32 at f33; have ix4 : n20 = (6 * n0) + 2 := (by omega); subst ix4)
  | skip
  try unfold w32 at f12
  try unfold w32 at f20
  try unfold w32 at f22
  try unfold w32 at f26
  try unfold w32 at f31
  try unfold w32 at f33
  omega
theorem c_276_s_2 : vOkm T0 (eP e_276 L_276 A_276 mu_276 none) 2 ([(1, [21, 19, 20], [], 0), (0, [20], [], 2), (3, [19, 18, 1], [], 0), (0, [18], [], 6), (20, [17, 0], [0], 31), (0, [17], [], 305), (33, [15], [], 0), (2, [15, 8, 14], [], 0), (22, [14, 9, 13], [0], 0), (90, [14], [], -1), (91, [14], [], 9999), (1, [13, 11, 12], [], 0), (0, [12], [], 1), (3, [11, 10, 1], [], 0), (0, [10], [], 6), (20, [9, 0], [0], 31), (0, [9], [], 305), (0, [8], [], 100), (22, [7, 4, 6], [0], 0), (90, [7], [], -1), (91, [7], [], 9999), (3, [6, 5, 1], [], 0), (0, [5], [], 6), (20, [4, 0], [0], 31), (0, [4], [], 305), (22, [3, 2, 1], [0], 0), (90, [3], [], -1), (91, [3], [], 9999), (20, [2, 0], [0], 26), (0, [2], [], 300), (6000, [0, 1], [0], 0), (0, [0], [], 285), (90, [1], [], 0), (91, [1], [], 1007)], (70, [21], [], 6048)) := vOk_inI fun ρ η f0 f1 f2 f3 f4 f5 f6 f7 f8 f9 f10 f11 f12 f13 f14 f15 f16 f17 f18 f19 f20 f21 f22 f23 f24 f25 f26 f27 f28 f29 f30 f31 f32 f33 => q_276_2 (n0 := ρ 1) (n1 := ρ 0) (n2 := ρ 2) (n3 := ρ 3) (n4 := ρ 4) (n5 := ρ 5) (n6 := ρ 6) (n7 := ρ 7) (n8 := ρ 8) (n9 := ρ 9) (n10 := ρ 10) (n11 := ρ 11) (n12 := ρ 12) (n13 := ρ 13) (n14 := ρ 14) (n15 := ρ 15) (n16 := ρ 17) (n17 := ρ 18) (n18 := ρ 19) (n19 := ρ 20) (n20 := ρ 21) (H0 := η 0) f33 f32 f31 f30 f29 f28 f27 f26 f25 f24 f23 f22 f21 f20 f19 f18 f17 f16 f15 f14 f13 f12 f11 f10 f9 f8 f7 f6 f5 f4 f3 f2 f1 f0
theorem q_276_3 {n0 n1 n2 n3 n4 n5 n6 n7 n8 n9 n10 n11 n12 n13 n14 n15 n16 n17 n18 n19 n20 n21 n22 n23 : Int} {H0 : gH} (f0 : n0 ≤ 1007) (f1 : 0 ≤ n0) (f2 : n1 = 285) (f3 : hWt T0 H0 ∧ preb_276 n1 n0 H0) (f4 : n2 = 300) (f5 : n2 = hV H0 (n1).toNat 26) (f6 : n3 ≤ 9999) (f7 : (-1) ≤ n3) (f8 : n3 = hV H0 (n2).toNat (n0).toNat) (f9 : n4 = 305) (f10 : n4 = hV H0 (n1).toNat 31) (f11 : n5 = 6) (f12 : n6 = w32 (n5 * n0)) (f13 : n7 ≤ 9999) (f14 : (-1) ≤ n7) (f15 : n7 = hV H0 (n4).toNat (n6).toNat) (f16 : n8 = 100) (f17 : n9 = 305) (f18 : n9 = hV H0 (n1).toNat 31) (f19 : n10 = 6) (f20 : n11 = w32 (n10 * n0)) (f21 : n12 = 1) (f22 : n13 = w32 (n11 + n12)) (f23 : n14 ≤ 9999) (f24 : (-1) ≤ n14) (f25 : n14 = hV H0 (n9).toNat (n13).toNat) (f26 : n15 = w32 (n8 - n14)) (f27 : 0 ≤ n15) (f28 : n16 = 4) (f29 : n17 = 305) (f30 : n17 = hV H0 (n1).toNat 31) (f31 : n18 = 6) (f32 : n19 = w32 (n18 * n0)) (f33 : n20 = 2) (f34 : n21 = w32 (n19 + n20)) (f35 : n22 ≤ 9999) (f36 : (-1) ≤ n22) (f37 : n22 = hV H0 (n17).toNat (n21).toNat) (f38 : n23 = w32 (n16 * n22)) : 0 ≤ n3 := by
  unfold preb_276 at f3
  have e0 : n3 = hV H0 300 (n0).toNat := (by rw [f4] at f8; exact f8 : n3 = hV H0 300 (n0).toNat)
  have e1 : n7 = hV H0 305 (n6).toNat := (by rw [f9] at f15; exact f15 : n7 = hV H0 305 (n6).toNat)
  have e2 : n14 = hV H0 305 (n13).toNat := (by rw [f17] at f25; exact f25 : n14 = hV H0 305 (n13).toNat)
  have e3 : n22 = hV H0 305 (n21).toNat := (by rw [f29] at f37; exact f37 : n22 = hV H0 305 (n21).toNat)
  have p0 := f3.2.1
  have p1 := f3.2.2.1
  have p2 := f3.2.2.2.1
  have p3 := f3.2.2.2.2
  clear f5 f8 f10 f15 f18 f25 f30 f37
  subst e0
  subst e1
  subst e2
  subst e3
  rw [f11] at f12
  rw [f19] at f20
  rw [f31] at f32
  rw [f28] at f38
  first
  | (have ix0 : n6 = 6 * n0 := Eq.trans f12 (w32_iv (Iml 6 rfl (Iat f1 f0)) (by decide)); subst ix0; clear f12)
  | (have ix0 : n6 = 6 * n0 := Eq.trans f12 (w32_id (by omega) (by omega)); subst ix0; clear f12)
  | (unfold w32 at f12; have ix0 : n6 = 6 * n0 := (by omega); subst ix0)
  | skip
  first
  | (have ix1 : n11 = 6 * n0 := Eq.trans f20 (w32_iv (Iml 6 rfl (Iat f1 f0)) (by decide)); subst ix1; clear f20)
  | (have ix1 : n11 = 6 * n0 := Eq.trans f20 (w32_id (by omega) (by omega)); subst ix1; clear f20)
  | (unfold w32 at f20; have ix1 : n11 = 6 * n0 := (by omega); subst ix1)
  | skip
  first
  | (have ix2 : n13 = (6 * n0) + 1 := Eq.trans f22 (w32_iv (Iad (Iml 6 rfl (Iat f1 f0)) (IC 1)) (by decide)); subst ix2; clear f22)
  | (have ix2 : n13 = (6 * n0) + 1 := Eq.trans f22 (w32_id (by omega) (by omega)); subst ix2; clear f22)
  | (unfold w32 at f22; have ix2 : n13 = (6 * n0) + 1 := (by omega); subst ix2)
  | skip
  first
  | (have ix3 : n19 = 6 * n0 := Eq.trans f32 (w32_iv (Iml 6 rfl (Iat f1 f0)) (by decide)); subst ix3; clear f32)
  | (have ix3 : n19 = 6 * n0 := Eq.trans f32 (w32_id (by omega) (by omega)); subst ix3; clear f32)
  | (unfold w32 at f32; have ix3 : n19 = 6 * n0 := (by omega); subst ix3)
  | skip
  first
  | (have ix4 : n21 = (6 * n0) + 2 := Eq.trans f34 (w32_iv (Iad (Iml 6 rfl (Iat f1 f0)) (IC 2)) (by decide)); subst ix4; clear f34)
  | (have ix4 : n21 = (6 * n0) + 2 := Eq.trans f34 (w32_id (by omega) (by omega)); subst ix4; clear f34)
  | (unfold w32 at f34; have ix4 : n21 = (6 * n0) + 2 := (by omega); subst ix4)
  | skip
  try unfold w32 at f12
  try unfold w32 at f20
  try unfold w32 at f22
  try unfold w32 at f26
  try unfold w32 at f32
  try unfold w32 at f34
  try unfold w32 at f38
  omega
theorem c_276_s_3 : vOkm T0 (eP e_276 L_276 A_276 mu_276 none) 2 ([(3, [23, 16, 22], [], 0), (22, [22, 17, 21], [0], 0), (90, [22], [], -1), (91, [22], [], 9999), (1, [21, 19, 20], [], 0), (0, [20], [], 2), (3, [19, 18, 1], [], 0), (0, [18], [], 6), (20, [17, 0], [0], 31), (0, [17], [], 305), (0, [16], [], 4), (33, [15], [], 0), (2, [15, 8, 14], [], 0), (22, [14, 9, 13], [0], 0), (90, [14], [], -1), (91, [14], [], 9999), (1, [13, 11, 12], [], 0), (0, [12], [], 1), (3, [11, 10, 1], [], 0), (0, [10], [], 6), (20, [9, 0], [0], 31), (0, [9], [], 305), (0, [8], [], 100), (22, [7, 4, 6], [0], 0), (90, [7], [], -1), (91, [7], [], 9999), (3, [6, 5, 1], [], 0), (0, [5], [], 6), (20, [4, 0], [0], 31), (0, [4], [], 305), (22, [3, 2, 1], [0], 0), (90, [3], [], -1), (91, [3], [], 9999), (20, [2, 0], [0], 26), (0, [2], [], 300), (6000, [0, 1], [0], 0), (0, [0], [], 285), (90, [1], [], 0), (91, [1], [], 1007)], (90, [3], [], 0)) := vOk_inI fun ρ η f0 f1 f2 f3 f4 f5 f6 f7 f8 f9 f10 f11 f12 f13 f14 f15 f16 f17 f18 f19 f20 f21 f22 f23 f24 f25 f26 f27 f28 f29 f30 f31 f32 f33 f34 f35 f36 f37 f38 => q_276_3 (n0 := ρ 1) (n1 := ρ 0) (n2 := ρ 2) (n3 := ρ 3) (n4 := ρ 4) (n5 := ρ 5) (n6 := ρ 6) (n7 := ρ 7) (n8 := ρ 8) (n9 := ρ 9) (n10 := ρ 10) (n11 := ρ 11) (n12 := ρ 12) (n13 := ρ 13) (n14 := ρ 14) (n15 := ρ 15) (n16 := ρ 16) (n17 := ρ 17) (n18 := ρ 18) (n19 := ρ 19) (n20 := ρ 20) (n21 := ρ 21) (n22 := ρ 22) (n23 := ρ 23) (H0 := η 0) f38 f37 f36 f35 f34 f33 f32 f31 f30 f29 f28 f27 f26 f25 f24 f23 f22 f21 f20 f19 f18 f17 f16 f15 f14 f13 f12 f11 f10 f9 f8 f7 f6 f5 f4 f3 f2 f1 f0
theorem q_276_4 {n0 n1 n2 n3 n4 n5 n6 n7 n8 n9 n10 n11 n12 n13 n14 n15 n16 n17 n18 n19 n20 n21 n22 n23 : Int} {H0 : gH} (f0 : n0 ≤ 1007) (f1 : 0 ≤ n0) (f2 : n1 = 285) (f3 : hWt T0 H0 ∧ preb_276 n1 n0 H0) (f4 : n2 = 300) (f5 : n2 = hV H0 (n1).toNat 26) (f6 : n3 ≤ 9999) (f7 : (-1) ≤ n3) (f8 : n3 = hV H0 (n2).toNat (n0).toNat) (f9 : n4 = 305) (f10 : n4 = hV H0 (n1).toNat 31) (f11 : n5 = 6) (f12 : n6 = w32 (n5 * n0)) (f13 : n7 ≤ 9999) (f14 : (-1) ≤ n7) (f15 : n7 = hV H0 (n4).toNat (n6).toNat) (f16 : n8 = 100) (f17 : n9 = 305) (f18 : n9 = hV H0 (n1).toNat 31) (f19 : n10 = 6) (f20 : n11 = w32 (n10 * n0)) (f21 : n12 = 1) (f22 : n13 = w32 (n11 + n12)) (f23 : n14 ≤ 9999) (f24 : (-1) ≤ n14) (f25 : n14 = hV H0 (n9).toNat (n13).toNat) (f26 : n15 = w32 (n8 - n14)) (f27 : 0 ≤ n15) (f28 : n16 = 4) (f29 : n17 = 305) (f30 : n17 = hV H0 (n1).toNat 31) (f31 : n18 = 6) (f32 : n19 = w32 (n18 * n0)) (f33 : n20 = 2) (f34 : n21 = w32 (n19 + n20)) (f35 : n22 ≤ 9999) (f36 : (-1) ≤ n22) (f37 : n22 = hV H0 (n17).toNat (n21).toNat) (f38 : n23 = w32 (n16 * n22)) : n3 ≤ 2 := by
  unfold preb_276 at f3
  have e0 : n3 = hV H0 300 (n0).toNat := (by rw [f4] at f8; exact f8 : n3 = hV H0 300 (n0).toNat)
  have e1 : n7 = hV H0 305 (n6).toNat := (by rw [f9] at f15; exact f15 : n7 = hV H0 305 (n6).toNat)
  have e2 : n14 = hV H0 305 (n13).toNat := (by rw [f17] at f25; exact f25 : n14 = hV H0 305 (n13).toNat)
  have e3 : n22 = hV H0 305 (n21).toNat := (by rw [f29] at f37; exact f37 : n22 = hV H0 305 (n21).toNat)
  have p0 := f3.2.1
  have p1 := f3.2.2.1
  have p2 := f3.2.2.2.1
  have p3 := f3.2.2.2.2
  clear f5 f8 f10 f15 f18 f25 f30 f37
  subst e0
  subst e1
  subst e2
  subst e3
  rw [f11] at f12
  rw [f19] at f20
  rw [f31] at f32
  rw [f28] at f38
  first
  | (have ix0 : n6 = 6 * n0 := Eq.trans f12 (w32_iv (Iml 6 rfl (Iat f1 f0)) (by decide)); subst ix0; clear f12)
  | (have ix0 : n6 = 6 * n0 := Eq.trans f12 (w32_id (by omega) (by omega)); subst ix0; clear f12)
  | (unfold w32 at f12; have ix0 : n6 = 6 * n0 := (by omega); subst ix0)
  | skip
  first
  | (have ix1 : n11 = 6 * n0 := Eq.trans f20 (w32_iv (Iml 6 rfl (Iat f1 f0)) (by decide)); subst ix1; clear f20)
  | (have ix1 : n11 = 6 * n0 := Eq.trans f20 (w32_id (by omega) (by omega)); subst ix1; clear f20)
  | (unfold w32 at f20; have ix1 : n11 = 6 * n0 := (by omega); subst ix1)
  | skip
  first
  | (have ix2 : n13 = (6 * n0) + 1 := Eq.trans f22 (w32_iv (Iad (Iml 6 rfl (Iat f1 f0)) (IC 1)) (by decide)); subst ix2; clear f22)
  | (have ix2 : n13 = (6 * n0) + 1 := Eq.trans f22 (w32_id (by omega) (by omega)); subst ix2; clear f22)
  | (unfold w32 at f22; have ix2 : n13 = (6 * n0) + 1 := (by omega); subst ix2)
  | skip
  first
  | (have ix3 : n19 = 6 * n0 := Eq.trans f32 (w32_iv (Iml 6 rfl (Iat f1 f0)) (by decide)); subst ix3; clear f32)
  | (have ix3 : n19 = 6 * n0 := Eq.trans f32 (w32_id (by omega) (by omega)); subst ix3; clear f32)
  | (unfold w32 at f32; have ix3 : n19 = 6 * n0 := (by omega); subst ix3)
  | skip
  first
  | (have ix4 : n21 = (6 * n0) + 2 := Eq.trans f34 (w32_iv (Iad (Iml 6 rfl (Iat f1 f0)) (IC 2)) (by decide)); subst ix4; clear f34)
  | (have ix4 : n21 = (6 * n0) + 2 := Eq.trans f34 (w32_id (by omega) (by omega)); subst ix4; clear f34)
  | (unfold w32 at f34; have ix4 : n21 = (6 * n0) + 2 := (by omega); subst ix4)
  | skip
  try unfold w32 at f12
  try unfold w32 at f20
  try unfold w32 at f22
  try unfold w32 at f26
  try unfold w32 at f32
  try unfold w32 at f34
  try unfold w32 at f38
  omega
theorem c_276_s_4 : vOkm T0 (eP e_276 L_276 A_276 mu_276 none) 2 ([(3, [23, 16, 22], [], 0), (22, [22, 17, 21], [0], 0), (90, [22], [], -1), (91, [22], [], 9999), (1, [21, 19, 20], [], 0), (0, [20], [], 2), (3, [19, 18, 1], [], 0), (0, [18], [], 6), (20, [17, 0], [0], 31), (0, [17], [], 305), (0, [16], [], 4), (33, [15], [], 0), (2, [15, 8, 14], [], 0), (22, [14, 9, 13], [0], 0), (90, [14], [], -1), (91, [14], [], 9999), (1, [13, 11, 12], [], 0), (0, [12], [], 1), (3, [11, 10, 1], [], 0), (0, [10], [], 6), (20, [9, 0], [0], 31), (0, [9], [], 305), (0, [8], [], 100), (22, [7, 4, 6], [0], 0), (90, [7], [], -1), (91, [7], [], 9999), (3, [6, 5, 1], [], 0), (0, [5], [], 6), (20, [4, 0], [0], 31), (0, [4], [], 305), (22, [3, 2, 1], [0], 0), (90, [3], [], -1), (91, [3], [], 9999), (20, [2, 0], [0], 26), (0, [2], [], 300), (6000, [0, 1], [0], 0), (0, [0], [], 285), (90, [1], [], 0), (91, [1], [], 1007)], (91, [3], [], 2)) := vOk_inI fun ρ η f0 f1 f2 f3 f4 f5 f6 f7 f8 f9 f10 f11 f12 f13 f14 f15 f16 f17 f18 f19 f20 f21 f22 f23 f24 f25 f26 f27 f28 f29 f30 f31 f32 f33 f34 f35 f36 f37 f38 => q_276_4 (n0 := ρ 1) (n1 := ρ 0) (n2 := ρ 2) (n3 := ρ 3) (n4 := ρ 4) (n5 := ρ 5) (n6 := ρ 6) (n7 := ρ 7) (n8 := ρ 8) (n9 := ρ 9) (n10 := ρ 10) (n11 := ρ 11) (n12 := ρ 12) (n13 := ρ 13) (n14 := ρ 14) (n15 := ρ 15) (n16 := ρ 16) (n17 := ρ 17) (n18 := ρ 18) (n19 := ρ 19) (n20 := ρ 20) (n21 := ρ 21) (n22 := ρ 22) (n23 := ρ 23) (H0 := η 0) f38 f37 f36 f35 f34 f33 f32 f31 f30 f29 f28 f27 f26 f25 f24 f23 f22 f21 f20 f19 f18 f17 f16 f15 f14 f13 f12 f11 f10 f9 f8 f7 f6 f5 f4 f3 f2 f1 f0
theorem q_276_5 {n0 n1 n2 n3 n4 n5 n6 n7 n8 n9 n10 n11 n12 n13 n14 n15 n16 n17 n18 n19 n20 n21 n22 n23 : Int} {H0 : gH} (f0 : n0 ≤ 1007) (f1 : 0 ≤ n0) (f2 : n1 = 285) (f3 : hWt T0 H0 ∧ preb_276 n1 n0 H0) (f4 : n2 = 300) (f5 : n2 = hV H0 (n1).toNat 26) (f6 : n3 ≤ 9999) (f7 : (-1) ≤ n3) (f8 : n3 = hV H0 (n2).toNat (n0).toNat) (f9 : n4 = 305) (f10 : n4 = hV H0 (n1).toNat 31) (f11 : n5 = 6) (f12 : n6 = w32 (n5 * n0)) (f13 : n7 ≤ 9999) (f14 : (-1) ≤ n7) (f15 : n7 = hV H0 (n4).toNat (n6).toNat) (f16 : n8 = 100) (f17 : n9 = 305) (f18 : n9 = hV H0 (n1).toNat 31) (f19 : n10 = 6) (f20 : n11 = w32 (n10 * n0)) (f21 : n12 = 1) (f22 : n13 = w32 (n11 + n12)) (f23 : n14 ≤ 9999) (f24 : (-1) ≤ n14) (f25 : n14 = hV H0 (n9).toNat (n13).toNat) (f26 : n15 = w32 (n8 - n14)) (f27 : 0 ≤ n15) (f28 : n16 = 4) (f29 : n17 = 305) (f30 : n17 = hV H0 (n1).toNat 31) (f31 : n18 = 6) (f32 : n19 = w32 (n18 * n0)) (f33 : n20 = 2) (f34 : n21 = w32 (n19 + n20)) (f35 : n22 ≤ 9999) (f36 : (-1) ≤ n22) (f37 : n22 = hV H0 (n17).toNat (n21).toNat) (f38 : n23 = w32 (n16 * n22)) : 0 ≤ n7 := by
  unfold preb_276 at f3
  have e0 : n3 = hV H0 300 (n0).toNat := (by rw [f4] at f8; exact f8 : n3 = hV H0 300 (n0).toNat)
  have e1 : n7 = hV H0 305 (n6).toNat := (by rw [f9] at f15; exact f15 : n7 = hV H0 305 (n6).toNat)
  have e2 : n14 = hV H0 305 (n13).toNat := (by rw [f17] at f25; exact f25 : n14 = hV H0 305 (n13).toNat)
  have e3 : n22 = hV H0 305 (n21).toNat := (by rw [f29] at f37; exact f37 : n22 = hV H0 305 (n21).toNat)
  have p0 := f3.2.1
  have p1 := f3.2.2.1
  have p2 := f3.2.2.2.1
  have p3 := f3.2.2.2.2
  clear f5 f8 f10 f15 f18 f25 f30 f37
  subst e0
  subst e1
  subst e2
  subst e3
  rw [f11] at f12
  rw [f19] at f20
  rw [f31] at f32
  rw [f28] at f38
  first
  | (have ix0 : n6 = 6 * n0 := Eq.trans f12 (w32_iv (Iml 6 rfl (Iat f1 f0)) (by decide)); subst ix0; clear f12)
  | (have ix0 : n6 = 6 * n0 := Eq.trans f12 (w32_id (by omega) (by omega)); subst ix0; clear f12)
  | (unfold w32 at f12; have ix0 : n6 = 6 * n0 := (by omega); subst ix0)
  | skip
  first
  | (have ix1 : n11 = 6 * n0 := Eq.trans f20 (w32_iv (Iml 6 rfl (Iat f1 f0)) (by decide)); subst ix1; clear f20)
  | (have ix1 : n11 = 6 * n0 := Eq.trans f20 (w32_id (by omega) (by omega)); subst ix1; clear f20)
  | (unfold w32 at f20; have ix1 : n11 = 6 * n0 := (by omega); subst ix1)
  | skip
  first
  | (have ix2 : n13 = (6 * n0) + 1 := Eq.trans f22 (w32_iv (Iad (Iml 6 rfl (Iat f1 f0)) (IC 1)) (by decide)); subst ix2; clear f22)
  | (have ix2 : n13 = (6 * n0) + 1 := Eq.trans f22 (w32_id (by omega) (by omega)); subst ix2; clear f22)
  | (unfold w32 at f22; have ix2 : n13 = (6 * n0) + 1 := (by omega); subst ix2)
  | skip
  first
  | (have ix3 : n19 = 6 * n0 := Eq.trans f32 (w32_iv (Iml 6 rfl (Iat f1 f0)) (by decide)); subst ix3; clear f32)
  | (have ix3 : n19 = 6 * n0 := Eq.trans f32 (w32_id (by omega) (by omega)); subst ix3; clear f32)
  | (unfold w32 at f32; have ix3 : n19 = 6 * n0 := (by omega); subst ix3)
  | skip
  first
  | (have ix4 : n21 = (6 * n0) + 2 := Eq.trans f34 (w32_iv (Iad (Iml 6 rfl (Iat f1 f0)) (IC 2)) (by decide)); subst ix4; clear f34)
  | (have ix4 : n21 = (6 * n0) + 2 := Eq.trans f34 (w32_id (by omega) (by omega)); subst ix4; clear f34)
  | (unfold w32 at f34; have ix4 : n21 = (6 * n0) + 2 := (by omega); subst ix4)
  | skip
  try unfold w32 at f12
  try unfold w32 at f20
  try unfold w32 at f22
  try unfold w32 at f26
  try unfold w32 at f32
  try unfold w32 at f34
  try unfold w32 at f38
  omega
theorem c_276_s_5 : vOkm T0 (eP e_276 L_276 A_276 mu_276 none) 2 ([(3, [23, 16, 22], [], 0), (22, [22, 17, 21], [0], 0), (90, [22], [], -1), (91, [22], [], 9999), (1, [21, 19, 20], [], 0), (0, [20], [], 2), (3, [19, 18, 1], [], 0), (0, [18], [], 6), (20, [17, 0], [0], 31), (0, [17], [], 305), (0, [16], [], 4), (33, [15], [], 0), (2, [15, 8, 14], [], 0), (22, [14, 9, 13], [0], 0), (90, [14], [], -1), (91, [14], [], 9999), (1, [13, 11, 12], [], 0), (0, [12], [], 1), (3, [11, 10, 1], [], 0), (0, [10], [], 6), (20, [9, 0], [0], 31), (0, [9], [], 305), (0, [8], [], 100), (22, [7, 4, 6], [0], 0), (90, [7], [], -1), (91, [7], [], 9999), (3, [6, 5, 1], [], 0), (0, [5], [], 6), (20, [4, 0], [0], 31), (0, [4], [], 305), (22, [3, 2, 1], [0], 0), (90, [3], [], -1), (91, [3], [], 9999), (20, [2, 0], [0], 26), (0, [2], [], 300), (6000, [0, 1], [0], 0), (0, [0], [], 285), (90, [1], [], 0), (91, [1], [], 1007)], (90, [7], [], 0)) := vOk_inI fun ρ η f0 f1 f2 f3 f4 f5 f6 f7 f8 f9 f10 f11 f12 f13 f14 f15 f16 f17 f18 f19 f20 f21 f22 f23 f24 f25 f26 f27 f28 f29 f30 f31 f32 f33 f34 f35 f36 f37 f38 => q_276_5 (n0 := ρ 1) (n1 := ρ 0) (n2 := ρ 2) (n3 := ρ 3) (n4 := ρ 4) (n5 := ρ 5) (n6 := ρ 6) (n7 := ρ 7) (n8 := ρ 8) (n9 := ρ 9) (n10 := ρ 10) (n11 := ρ 11) (n12 := ρ 12) (n13 := ρ 13) (n14 := ρ 14) (n15 := ρ 15) (n16 := ρ 16) (n17 := ρ 17) (n18 := ρ 18) (n19 := ρ 19) (n20 := ρ 20) (n21 := ρ 21) (n22 := ρ 22) (n23 := ρ 23) (H0 := η 0) f38 f37 f36 f35 f34 f33 f32 f31 f30 f29 f28 f27 f26 f25 f24 f23 f22 f21 f20 f19 f18 f17 f16 f15 f14 f13 f12 f11 f10 f9 f8 f7 f6 f5 f4 f3 f2 f1 f0
theorem q_276_6 {n0 n1 n2 n3 n4 n5 n6 n7 n8 n9 n10 n11 n12 n13 n14 n15 n16 n17 n18 n19 n20 n21 n22 n23 : Int} {H0 : gH} (f0 : n0 ≤ 1007) (f1 : 0 ≤ n0) (f2 : n1 = 285) (f3 : hWt T0 H0 ∧ preb_276 n1 n0 H0) (f4 : n2 = 300) (f5 : n2 = hV H0 (n1).toNat 26) (f6 : n3 ≤ 9999) (f7 : (-1) ≤ n3) (f8 : n3 = hV H0 (n2).toNat (n0).toNat) (f9 : n4 = 305) (f10 : n4 = hV H0 (n1).toNat 31) (f11 : n5 = 6) (f12 : n6 = w32 (n5 * n0)) (f13 : n7 ≤ 9999) (f14 : (-1) ≤ n7) (f15 : n7 = hV H0 (n4).toNat (n6).toNat) (f16 : n8 = 100) (f17 : n9 = 305) (f18 : n9 = hV H0 (n1).toNat 31) (f19 : n10 = 6) (f20 : n11 = w32 (n10 * n0)) (f21 : n12 = 1) (f22 : n13 = w32 (n11 + n12)) (f23 : n14 ≤ 9999) (f24 : (-1) ≤ n14) (f25 : n14 = hV H0 (n9).toNat (n13).toNat) (f26 : n15 = w32 (n8 - n14)) (f27 : 0 ≤ n15) (f28 : n16 = 4) (f29 : n17 = 305) (f30 : n17 = hV H0 (n1).toNat 31) (f31 : n18 = 6) (f32 : n19 = w32 (n18 * n0)) (f33 : n20 = 2) (f34 : n21 = w32 (n19 + n20)) (f35 : n22 ≤ 9999) (f36 : (-1) ≤ n22) (f37 : n22 = hV H0 (n17).toNat (n21).toNat) (f38 : n23 = w32 (n16 * n22)) : n7 ≤ 2 := by
  unfold preb_276 at f3
  have e0 : n3 = hV H0 300 (n0).toNat := (by rw [f4] at f8; exact f8 : n3 = hV H0 300 (n0).toNat)
  have e1 : n7 = hV H0 305 (n6).toNat := (by rw [f9] at f15; exact f15 : n7 = hV H0 305 (n6).toNat)
  have e2 : n14 = hV H0 305 (n13).toNat := (by rw [f17] at f25; exact f25 : n14 = hV H0 305 (n13).toNat)
  have e3 : n22 = hV H0 305 (n21).toNat := (by rw [f29] at f37; exact f37 : n22 = hV H0 305 (n21).toNat)
  have p0 := f3.2.1
  have p1 := f3.2.2.1
  have p2 := f3.2.2.2.1
  have p3 := f3.2.2.2.2
  clear f5 f8 f10 f15 f18 f25 f30 f37
  subst e0
  subst e1
  subst e2
  subst e3
  rw [f11] at f12
  rw [f19] at f20
  rw [f31] at f32
  rw [f28] at f38
  first
  | (have ix0 : n6 = 6 * n0 := Eq.trans f12 (w32_iv (Iml 6 rfl (Iat f1 f0)) (by decide)); subst ix0; clear f12)
  | (have ix0 : n6 = 6 * n0 := Eq.trans f12 (w32_id (by omega) (by omega)); subst ix0; clear f12)
  | (unfold w32 at f12; have ix0 : n6 = 6 * n0 := (by omega); subst ix0)
  | skip
  first
  | (have ix1 : n11 = 6 * n0 := Eq.trans f20 (w32_iv (Iml 6 rfl (Iat f1 f0)) (by decide)); subst ix1; clear f20)
  | (have ix1 : n11 = 6 * n0 := Eq.trans f20 (w32_id (by omega) (by omega)); subst ix1; clear f20)
  | (unfold w32 at f20; have ix1 : n11 = 6 * n0 := (by omega); subst ix1)
  | skip
  first
  | (have ix2 : n13 = (6 * n0) + 1 := Eq.trans f22 (w32_iv (Iad (Iml 6 rfl (Iat f1 f0)) (IC 1)) (by decide)); subst ix2; clear f22)
  | (have ix2 : n13 = (6 * n0) + 1 := Eq.trans f22 (w32_id (by omega) (by omega)); subst ix2; clear f22)
  | (unfold w32 at f22; have ix2 : n13 = (6 * n0) + 1 := (by omega); subst ix2)
  | skip
  first
  | (have ix3 : n19 = 6 * n0 := Eq.trans f32 (w32_iv (Iml 6 rfl (Iat f1 f0)) (by decide)); subst ix3; clear f32)
  | (have ix3 : n19 = 6 * n0 := Eq.trans f32 (w32_id (by omega) (by omega)); subst ix3; clear f32)
  | (unfold w32 at f32; have ix3 : n19 = 6 * n0 := (by omega); subst ix3)
  | skip
  first
  | (have ix4 : n21 = (6 * n0) + 2 := Eq.trans f34 (w32_iv (Iad (Iml 6 rfl (Iat f1 f0)) (IC 2)) (by decide)); subst ix4; clear f34)
  | (have ix4 : n21 = (6 * n0) + 2 := Eq.trans f34 (w32_id (by omega) (by omega)); subst ix4; clear f34)
  | (unfold w32 at f34; have ix4 : n21 = (6 * n0) + 2 := (by omega); subst ix4)
  | skip
  try unfold w32 at f12
  try unfold w32 at f20
  try unfold w32 at f22
  try unfold w32 at f26
  try unfold w32 at f32
  try unfold w32 at f34
  try unfold w32 at f38
  omega
theorem c_276_s_6 : vOkm T0 (eP e_276 L_276 A_276 mu_276 none) 2 ([(3, [23, 16, 22], [], 0), (22, [22, 17, 21], [0], 0), (90, [22], [], -1), (91, [22], [], 9999), (1, [21, 19, 20], [], 0), (0, [20], [], 2), (3, [19, 18, 1], [], 0), (0, [18], [], 6), (20, [17, 0], [0], 31), (0, [17], [], 305), (0, [16], [], 4), (33, [15], [], 0), (2, [15, 8, 14], [], 0), (22, [14, 9, 13], [0], 0), (90, [14], [], -1), (91, [14], [], 9999), (1, [13, 11, 12], [], 0), (0, [12], [], 1), (3, [11, 10, 1], [], 0), (0, [10], [], 6), (20, [9, 0], [0], 31), (0, [9], [], 305), (0, [8], [], 100), (22, [7, 4, 6], [0], 0), (90, [7], [], -1), (91, [7], [], 9999), (3, [6, 5, 1], [], 0), (0, [5], [], 6), (20, [4, 0], [0], 31), (0, [4], [], 305), (22, [3, 2, 1], [0], 0), (90, [3], [], -1), (91, [3], [], 9999), (20, [2, 0], [0], 26), (0, [2], [], 300), (6000, [0, 1], [0], 0), (0, [0], [], 285), (90, [1], [], 0), (91, [1], [], 1007)], (91, [7], [], 2)) := vOk_inI fun ρ η f0 f1 f2 f3 f4 f5 f6 f7 f8 f9 f10 f11 f12 f13 f14 f15 f16 f17 f18 f19 f20 f21 f22 f23 f24 f25 f26 f27 f28 f29 f30 f31 f32 f33 f34 f35 f36 f37 f38 => q_276_6 (n0 := ρ 1) (n1 := ρ 0) (n2 := ρ 2) (n3 := ρ 3) (n4 := ρ 4) (n5 := ρ 5) (n6 := ρ 6) (n7 := ρ 7) (n8 := ρ 8) (n9 := ρ 9) (n10 := ρ 10) (n11 := ρ 11) (n12 := ρ 12) (n13 := ρ 13) (n14 := ρ 14) (n15 := ρ 15) (n16 := ρ 16) (n17 := ρ 17) (n18 := ρ 18) (n19 := ρ 19) (n20 := ρ 20) (n21 := ρ 21) (n22 := ρ 22) (n23 := ρ 23) (H0 := η 0) f38 f37 f36 f35 f34 f33 f32 f31 f30 f29 f28 f27 f26 f25 f24 f23 f22 f21 f20 f19 f18 f17 f16 f15 f14 f13 f12 f11 f10 f9 f8 f7 f6 f5 f4 f3 f2 f1 f0
theorem q_276_7 {n0 n1 n2 n3 n4 n5 n6 n7 n8 n9 n10 n11 n12 n13 n14 n15 n16 n17 n18 n19 n20 n21 n22 n23 n24 n25 : Int} {H0 : gH} (f0 : n0 ≤ 1007) (f1 : 0 ≤ n0) (f2 : n1 = 285) (f3 : hWt T0 H0 ∧ preb_276 n1 n0 H0) (f4 : n2 = 300) (f5 : n2 = hV H0 (n1).toNat 26) (f6 : n3 ≤ 9999) (f7 : (-1) ≤ n3) (f8 : n3 = hV H0 (n2).toNat (n0).toNat) (f9 : n4 = 305) (f10 : n4 = hV H0 (n1).toNat 31) (f11 : n5 = 6) (f12 : n6 = w32 (n5 * n0)) (f13 : n7 ≤ 9999) (f14 : (-1) ≤ n7) (f15 : n7 = hV H0 (n4).toNat (n6).toNat) (f16 : n8 = 100) (f17 : n9 = 305) (f18 : n9 = hV H0 (n1).toNat 31) (f19 : n10 = 6) (f20 : n11 = w32 (n10 * n0)) (f21 : n12 = 1) (f22 : n13 = w32 (n11 + n12)) (f23 : n14 ≤ 9999) (f24 : (-1) ≤ n14) (f25 : n14 = hV H0 (n9).toNat (n13).toNat) (f26 : n15 = w32 (n8 - n14)) (f27 : 0 ≤ n15) (f28 : n16 = 4) (f29 : n17 = 305) (f30 : n17 = hV H0 (n1).toNat 31) (f31 : n18 = 6) (f32 : n19 = w32 (n18 * n0)) (f33 : n20 = 2) (f34 : n21 = w32 (n19 + n20)) (f35 : n22 ≤ 9999) (f36 : (-1) ≤ n22) (f37 : n22 = hV H0 (n17).toNat (n21).toNat) (f38 : n23 = w32 (n16 * n22)) (f39 : n24 = (-1)) (f40 : n25 = 0) : Ab_276_62 n1 n0 n1 n0 n3 n7 n15 n23 n24 n25 H0 H0 ∧ ∀ q, none = some q → mub_276_62 n1 n0 n1 n0 n3 n7 n15 n23 n24 n25 H0 H0 < q := by
  unfold preb_276 at f3
  unfold Ab_276_62
  have e0 : n3 = hV H0 300 (n0).toNat := (by rw [f4] at f8; exact f8 : n3 = hV H0 300 (n0).toNat)
  have e1 : n7 = hV H0 305 (n6).toNat := (by rw [f9] at f15; exact f15 : n7 = hV H0 305 (n6).toNat)
  have e2 : n14 = hV H0 305 (n13).toNat := (by rw [f17] at f25; exact f25 : n14 = hV H0 305 (n13).toNat)
  have e3 : n22 = hV H0 305 (n21).toNat := (by rw [f29] at f37; exact f37 : n22 = hV H0 305 (n21).toNat)
  have p0 := f3.2.1
  have p1 := f3.2.2.1
  have p2 := f3.2.2.2.1
  have p3 := f3.2.2.2.2
  clear f5 f8 f10 f15 f18 f25 f30 f37
  subst e0
  subst e1
  subst e2
  subst e3
  rw [f11] at f12
  rw [f19] at f20
  rw [f31] at f32
  rw [f28] at f38
  first
  | (have ix0 : n6 = 6 * n0 := Eq.trans f12 (w32_iv (Iml 6 rfl (Iat f1 f0)) (by decide)); subst ix0; clear f12)
  | (have ix0 : n6 = 6 * n0 := Eq.trans f12 (w32_id (by omega) (by omega)); subst ix0; clear f12)
  | (unfold w32 at f12; have ix0 : n6 = 6 * n0 := (by omega); subst ix0)
  | skip
  first
  | (have ix1 : n11 = 6 * n0 := Eq.trans f20 (w32_iv (Iml 6 rfl (Iat f1 f0)) (by decide)); subst ix1; clear f20)
  | (have ix1 : n11 = 6 * n0 := Eq.trans f20 (w32_id (by omega) (by omega)); subst ix1; clear f20)
  | (unfold w32 at f20; have ix1 : n11 = 6 * n0 := (by omega); subst ix1)
  | skip
  first
  | (have ix2 : n13 = (6 * n0) + 1 := Eq.trans f22 (w32_iv (Iad (Iml 6 rfl (Iat f1 f0)) (IC 1)) (by decide)); subst ix2; clear f22)
  | (have ix2 : n13 = (6 * n0) + 1 := Eq.trans f22 (w32_id (by omega) (by omega)); subst ix2; clear f22)
  | (unfold w32 at f22; have ix2 : n13 = (6 * n0) + 1 := (by omega); subst ix2)
  | skip
  first
  | (have ix3 : n15 = 100 - (hV H0 305 (((6 * n0) + 1)).toNat) := Eq.trans f26 (w32_iv (Isu (IC 100) (Iat f24 f23)) (by decide)); subst ix3; clear f26)
  | (have ix3 : n15 = 100 - (hV H0 305 (((6 * n0) + 1)).toNat) := Eq.trans f26 (w32_id (by omega) (by omega)); subst ix3; clear f26)
  | (unfold w32 at f26; have ix3 : n15 = 100 - (hV H0 305 (((6 * n0) + 1)).toNat) := (by omega); subst ix3)
  | skip
  first
  | (have ix4 : n19 = 6 * n0 := Eq.trans f32 (w32_iv (Iml 6 rfl (Iat f1 f0)) (by decide)); subst ix4; clear f32)
  | (have ix4 : n19 = 6 * n0 := Eq.trans f32 (w32_id (by omega) (by omega)); subst ix4; clear f32)
  | (unfold w32 at f32; have ix4 : n19 = 6 * n0 := (by omega); subst ix4)
  | skip
  first
  | (have ix5 : n21 = (6 * n0) + 2 := Eq.trans f34 (w32_iv (Iad (Iml 6 rfl (Iat f1 f0)) (IC 2)) (by decide)); subst ix5; clear f34)
  | (have ix5 : n21 = (6 * n0) + 2 := Eq.trans f34 (w32_id (by omega) (by omega)); subst ix5; clear f34)
  | (unfold w32 at f34; have ix5 : n21 = (6 * n0) + 2 := (by omega); subst ix5)
  | skip
  first
  | (have ix6 : n23 = 4 * (hV H0 305 (((6 * n0) + 2)).toNat) := Eq.trans f38 (w32_iv (Iml 4 rfl (Iat f36 f35)) (by decide)); subst ix6; clear f38)
  | (have ix6 : n23 = 4 * (hV H0 305 (((6 * n0) + 2)).toNat) := Eq.trans f38 (w32_id (by omega) (by omega)); subst ix6; clear f38)
  | (unfold w32 at f38; have ix6 : n23 = 4 * (hV H0 305 (((6 * n0) + 2)).toNat) := (by omega); subst ix6)
  | skip
  try unfold w32 at f12
  try unfold w32 at f20
  try unfold w32 at f22
  try unfold w32 at f26
  try unfold w32 at f32
  try unfold w32 at f34
  try unfold w32 at f38
  refine ⟨?_, fun q hq => ?_⟩
  · first | assumption | omega | trivial
  · exact nomatch hq
theorem c_276_s_7 : vOkm T0 (eP e_276 L_276 A_276 mu_276 none) 2 ([(0, [25], [], 0), (0, [24], [], -1), (3, [23, 16, 22], [], 0), (22, [22, 17, 21], [0], 0), (90, [22], [], -1), (91, [22], [], 9999), (1, [21, 19, 20], [], 0), (0, [20], [], 2), (3, [19, 18, 1], [], 0), (0, [18], [], 6), (20, [17, 0], [0], 31), (0, [17], [], 305), (0, [16], [], 4), (33, [15], [], 0), (2, [15, 8, 14], [], 0), (22, [14, 9, 13], [0], 0), (90, [14], [], -1), (91, [14], [], 9999), (1, [13, 11, 12], [], 0), (0, [12], [], 1), (3, [11, 10, 1], [], 0), (0, [10], [], 6), (20, [9, 0], [0], 31), (0, [9], [], 305), (0, [8], [], 100), (22, [7, 4, 6], [0], 0), (90, [7], [], -1), (91, [7], [], 9999), (3, [6, 5, 1], [], 0), (0, [5], [], 6), (20, [4, 0], [0], 31), (0, [4], [], 305), (22, [3, 2, 1], [0], 0), (90, [3], [], -1), (91, [3], [], 9999), (20, [2, 0], [0], 26), (0, [2], [], 300), (6000, [0, 1], [0], 0), (0, [0], [], 285), (90, [1], [], 0), (91, [1], [], 1007)], (4000, [0, 1, 3, 7, 15, 23, 24, 25], [0], 62)) := vOk_inI fun ρ η f0 f1 f2 f3 f4 f5 f6 f7 f8 f9 f10 f11 f12 f13 f14 f15 f16 f17 f18 f19 f20 f21 f22 f23 f24 f25 f26 f27 f28 f29 f30 f31 f32 f33 f34 f35 f36 f37 f38 f39 f40 => q_276_7 (n0 := ρ 1) (n1 := ρ 0) (n2 := ρ 2) (n3 := ρ 3) (n4 := ρ 4) (n5 := ρ 5) (n6 := ρ 6) (n7 := ρ 7) (n8 := ρ 8) (n9 := ρ 9) (n10 := ρ 10) (n11 := ρ 11) (n12 := ρ 12) (n13 := ρ 13) (n14 := ρ 14) (n15 := ρ 15) (n16 := ρ 16) (n17 := ρ 17) (n18 := ρ 18) (n19 := ρ 19) (n20 := ρ 20) (n21 := ρ 21) (n22 := ρ 22) (n23 := ρ 23) (n24 := ρ 24) (n25 := ρ 25) (H0 := η 0) f40 f39 f38 f37 f36 f35 f34 f33 f32 f31 f30 f29 f28 f27 f26 f25 f24 f23 f22 f21 f20 f19 f18 f17 f16 f15 f14 f13 f12 f11 f10 f9 f8 f7 f6 f5 f4 f3 f2 f1 f0
theorem q_276_8 {n0 n1 n2 n3 n4 n5 n6 n7 n8 n9 n10 n11 n12 n13 n14 n15 n16 n17 n18 n19 n20 : Int} {H0 : gH} (f0 : n0 ≤ 1007) (f1 : 0 ≤ n0) (f2 : n1 = 285) (f3 : hWt T0 H0 ∧ preb_276 n1 n0 H0) (f4 : n2 = 300) (f5 : n2 = hV H0 (n1).toNat 26) (f6 : n3 ≤ 9999) (f7 : (-1) ≤ n3) (f8 : n3 = hV H0 (n2).toNat (n0).toNat) (f9 : n4 = 305) (f10 : n4 = hV H0 (n1).toNat 31) (f11 : n5 = 6) (f12 : n6 = w32 (n5 * n0)) (f13 : n7 ≤ 9999) (f14 : (-1) ≤ n7) (f15 : n7 = hV H0 (n4).toNat (n6).toNat) (f16 : n8 = 100) (f17 : n9 = 305) (f18 : n9 = hV H0 (n1).toNat 31) (f19 : n10 = 6) (f20 : n11 = w32 (n10 * n0)) (f21 : n12 = 1) (f22 : n13 = w32 (n11 + n12)) (f23 : n14 ≤ 9999) (f24 : (-1) ≤ n14) (f25 : n14 = hV H0 (n9).toNat (n13).toNat) (f26 : n15 = w32 (n8 - n14)) (f27 : n15 < 0) (f28 : n16 = 305) (f29 : n16 = hV H0 (n1).toNat 31) (f30 : n17 = 6) (f31 : n18 = w32 (n17 * n0)) (f32 : n19 = 2) (f33 : n20 = w32 (n18 + n19)) : 0 ≤ n20 ∧ n20 < 6048 := by
  unfold preb_276 at f3
  have e0 : n3 = hV H0 300 (n0).toNat := (by rw [f4] at f8; exact f8 : n3 = hV H0 300 (n0).toNat)
  have e1 : n7 = hV H0 305 (n6).toNat := (by rw [f9] at f15; exact f15 : n7 = hV H0 305 (n6).toNat)
  have e2 : n14 = hV H0 305 (n13).toNat := (by rw [f17] at f25; exact f25 : n14 = hV H0 305 (n13).toNat)
  have p0 := f3.2.1
  have p1 := f3.2.2.1
  have p2 := f3.2.2.2.1
  have p3 := f3.2.2.2.2
  clear f5 f8 f10 f15 f18 f25 f29
  subst e0
  subst e1
  subst e2
  rw [f11] at f12
  rw [f19] at f20
  rw [f30] at f31
  first
  | (have ix0 : n6 = 6 * n0 := Eq.trans f12 (w32_iv (Iml 6 rfl (Iat f1 f0)) (by decide)); subst ix0; clear f12)
  | (have ix0 : n6 = 6 * n0 := Eq.trans f12 (w32_id (by omega) (by omega)); subst ix0; clear f12)
  | (unfold w32 at f12; have ix0 : n6 = 6 * n0 := (by omega); subst ix0)
  | skip
  first
  | (have ix1 : n11 = 6 * n0 := Eq.trans f20 (w32_iv (Iml 6 rfl (Iat f1 f0)) (by decide)); subst ix1; clear f20)
  | (have ix1 : n11 = 6 * n0 := Eq.trans f20 (w32_id (by omega) (by omega)); subst ix1; clear f20)
  | (unfold w32 at f20; have ix1 : n11 = 6 * n0 := (by omega); subst ix1)
  | skip
  first
  | (have ix2 : n13 = (6 * n0) + 1 := Eq.trans f22 (w32_iv (Iad (Iml 6 rfl (Iat f1 f0)) (IC 1)) (by decide)); subst ix2; clear f22)
  | (have ix2 : n13 = (6 * n0) + 1 := Eq.trans f22 (w32_id (by omega) (by omega)); subst ix2; clear f22)
  | (unfold w32 at f22; have ix2 : n13 = (6 * n0) + 1 := (by omega); subst ix2)
  | skip
  first
  | (have ix3 : n18 = 6 * n0 := Eq.trans f31 (w32_iv (Iml 6 rfl (Iat f1 f0)) (by decide)); subst ix3; clear f31)
  | (have ix3 : n18 = 6 * n0 := Eq.trans f31 (w32_id (by omega) (by omega)); subst ix3; clear f31)
  | (unfold w32 at f31; have ix3 : n18 = 6 * n0 := (by omega); subst ix3)
  | skip
  first
  | (have ix4 : n20 = (6 * n0) + 2 := Eq.trans f33 (w32_iv (Iad (Iml 6 rfl (Iat f1 f0)) (IC 2)) (by decide)); subst ix4; clear f33)
  | (have ix4 : n20 = (6 * n0) + 2 := Eq.trans f33 (w32_id (by omega) (by omega)); subst ix4; clear f33)
  | (unfold w32 at f33; have ix4 : n20 = (6 * n0) + 2 := (by omega); subst ix4)
  | skip
  try unfold w32 at f12
  try unfold w32 at f20
  try unfold w32 at f22
  try unfold w32 at f26
  try unfold w32 at f31
  try unfold w32 at f33
  omega
theorem c_276_s_8 : vOkm T0 (eP e_276 L_276 A_276 mu_276 none) 2 ([(1, [22, 20, 21], [], 0), (0, [21], [], 2), (3, [20, 19, 1], [], 0), (0, [19], [], 6), (20, [18, 0], [0], 31), (0, [18], [], 305), (32, [15], [], 0), (2, [15, 8, 14], [], 0), (22, [14, 9, 13], [0], 0), (90, [14], [], -1), (91, [14], [], 9999), (1, [13, 11, 12], [], 0), (0, [12], [], 1), (3, [11, 10, 1], [], 0), (0, [10], [], 6), (20, [9, 0], [0], 31), (0, [9], [], 305), (0, [8], [], 100), (22, [7, 4, 6], [0], 0), (90, [7], [], -1), (91, [7], [], 9999), (3, [6, 5, 1], [], 0), (0, [5], [], 6), (20, [4, 0], [0], 31), (0, [4], [], 305), (22, [3, 2, 1], [0], 0), (90, [3], [], -1), (91, [3], [], 9999), (20, [2, 0], [0], 26), (0, [2], [], 300), (6000, [0, 1], [0], 0), (0, [0], [], 285), (90, [1], [], 0), (91, [1], [], 1007)], (70, [22], [], 6048)) := vOk_inI fun ρ η f0 f1 f2 f3 f4 f5 f6 f7 f8 f9 f10 f11 f12 f13 f14 f15 f16 f17 f18 f19 f20 f21 f22 f23 f24 f25 f26 f27 f28 f29 f30 f31 f32 f33 => q_276_8 (n0 := ρ 1) (n1 := ρ 0) (n2 := ρ 2) (n3 := ρ 3) (n4 := ρ 4) (n5 := ρ 5) (n6 := ρ 6) (n7 := ρ 7) (n8 := ρ 8) (n9 := ρ 9) (n10 := ρ 10) (n11 := ρ 11) (n12 := ρ 12) (n13 := ρ 13) (n14 := ρ 14) (n15 := ρ 15) (n16 := ρ 18) (n17 := ρ 19) (n18 := ρ 20) (n19 := ρ 21) (n20 := ρ 22) (H0 := η 0) f33 f32 f31 f30 f29 f28 f27 f26 f25 f24 f23 f22 f21 f20 f19 f18 f17 f16 f15 f14 f13 f12 f11 f10 f9 f8 f7 f6 f5 f4 f3 f2 f1 f0
theorem q_276_9 {n0 n1 n2 n3 n4 n5 n6 n7 n8 n9 n10 n11 n12 n13 n14 n15 n16 n17 n18 n19 n20 n21 n22 n23 : Int} {H0 : gH} (f0 : n0 ≤ 1007) (f1 : 0 ≤ n0) (f2 : n1 = 285) (f3 : hWt T0 H0 ∧ preb_276 n1 n0 H0) (f4 : n2 = 300) (f5 : n2 = hV H0 (n1).toNat 26) (f6 : n3 ≤ 9999) (f7 : (-1) ≤ n3) (f8 : n3 = hV H0 (n2).toNat (n0).toNat) (f9 : n4 = 305) (f10 : n4 = hV H0 (n1).toNat 31) (f11 : n5 = 6) (f12 : n6 = w32 (n5 * n0)) (f13 : n7 ≤ 9999) (f14 : (-1) ≤ n7) (f15 : n7 = hV H0 (n4).toNat (n6).toNat) (f16 : n8 = 100) (f17 : n9 = 305) (f18 : n9 = hV H0 (n1).toNat 31) (f19 : n10 = 6) (f20 : n11 = w32 (n10 * n0)) (f21 : n12 = 1) (f22 : n13 = w32 (n11 + n12)) (f23 : n14 ≤ 9999) (f24 : (-1) ≤ n14) (f25 : n14 = hV H0 (n9).toNat (n13).toNat) (f26 : n15 = w32 (n8 - n14)) (f27 : n15 < 0) (f28 : n16 = 4) (f29 : n17 = 305) (f30 : n17 = hV H0 (n1).toNat 31) (f31 : n18 = 6) (f32 : n19 = w32 (n18 * n0)) (f33 : n20 = 2) (f34 : n21 = w32 (n19 + n20)) (f35 : n22 ≤ 9999) (f36 : (-1) ≤ n22) (f37 : n22 = hV H0 (n17).toNat (n21).toNat) (f38 : n23 = w32 (n16 * n22)) : 0 ≤ n3 := by
  unfold preb_276 at f3
  have e0 : n3 = hV H0 300 (n0).toNat := (by rw [f4] at f8; exact f8 : n3 = hV H0 300 (n0).toNat)
  have e1 : n7 = hV H0 305 (n6).toNat := (by rw [f9] at f15; exact f15 : n7 = hV H0 305 (n6).toNat)
  have e2 : n14 = hV H0 305 (n13).toNat := (by rw [f17] at f25; exact f25 : n14 = hV H0 305 (n13).toNat)
  have e3 : n22 = hV H0 305 (n21).toNat := (by rw [f29] at f37; exact f37 : n22 = hV H0 305 (n21).toNat)
  have p0 := f3.2.1
  have p1 := f3.2.2.1
  have p2 := f3.2.2.2.1
  have p3 := f3.2.2.2.2
  clear f5 f8 f10 f15 f18 f25 f30 f37
  subst e0
  subst e1
  subst e2
  subst e3
  rw [f11] at f12
  rw [f19] at f20
  rw [f31] at f32
  rw [f28] at f38
  first
  | (have ix0 : n6 = 6 * n0 := Eq.trans f12 (w32_iv (Iml 6 rfl (Iat f1 f0)) (by decide)); subst ix0; clear f12)
  | (have ix0 : n6 = 6 * n0 := Eq.trans f12 (w32_id (by omega) (by omega)); subst ix0; clear f12)
  | (unfold w32 at f12; have ix0 : n6 = 6 * n0 := (by omega); subst ix0)
  | skip
  first
  | (have ix1 : n11 = 6 * n0 := Eq.trans f20 (w32_iv (Iml 6 rfl (Iat f1 f0)) (by decide)); subst ix1; clear f20)
  | (have ix1 : n11 = 6 * n0 := Eq.trans f20 (w32_id (by omega) (by omega)); subst ix1; clear f20)
  | (unfold w32 at f20; have ix1 : n11 = 6 * n0 := (by omega); subst ix1)
  | skip
  first
  | (have ix2 : n13 = (6 * n0) + 1 := Eq.trans f22 (w32_iv (Iad (Iml 6 rfl (Iat f1 f0)) (IC 1)) (by decide)); subst ix2; clear f22)
  | (have ix2 : n13 = (6 * n0) + 1 := Eq.trans f22 (w32_id (by omega) (by omega)); subst ix2; clear f22)
  | (unfold w32 at f22; have ix2 : n13 = (6 * n0) + 1 := (by omega); subst ix2)
  | skip
  first
  | (have ix3 : n19 = 6 * n0 := Eq.trans f32 (w32_iv (Iml 6 rfl (Iat f1 f0)) (by decide)); subst ix3; clear f32)
  | (have ix3 : n19 = 6 * n0 := Eq.trans f32 (w32_id (by omega) (by omega)); subst ix3; clear f32)
  | (unfold w32 at f32; have ix3 : n19 = 6 * n0 := (by omega); subst ix3)
  | skip
  first
  | (have ix4 : n21 = (6 * n0) + 2 := Eq.trans f34 (w32_iv (Iad (Iml 6 rfl (Iat f1 f0)) (IC 2)) (by decide)); subst ix4; clear f34)
  | (have ix4 : n21 = (6 * n0) + 2 := Eq.trans f34 (w32_id (by omega) (by omega)); subst ix4; clear f34)
  | (unfold w32 at f34; have ix4 : n21 = (6 * n0) + 2 := (by omega); subst ix4)
  | skip
  try unfold w32 at f12
  try unfold w32 at f20
  try unfold w32 at f22
  try unfold w32 at f26
  try unfold w32 at f32
  try unfold w32 at f34
  try unfold w32 at f38
  omega
theorem c_276_s_9 : vOkm T0 (eP e_276 L_276 A_276 mu_276 none) 2 ([(3, [24, 17, 23], [], 0), (22, [23, 18, 22], [0], 0), (90, [23], [], -1), (91, [23], [], 9999), (1, [22, 20, 21], [], 0), (0, [21], [], 2), (3, [20, 19, 1], [], 0), (0, [19], [], 6), (20, [18, 0], [0], 31), (0, [18], [], 305), (0, [17], [], 4), (32, [15], [], 0), (2, [15, 8, 14], [], 0), (22, [14, 9, 13], [0], 0), (90, [14], [], -1), (91, [14], [], 9999), (1, [13, 11, 12], [], 0), (0, [12], [], 1), (3, [11, 10, 1], [], 0), (0, [10], [], 6), (20, [9, 0], [0], 31), (0, [9], [], 305), (0, [8], [], 100), (22, [7, 4, 6], [0], 0), (90, [7], [], -1), (91, [7], [], 9999), (3, [6, 5, 1], [], 0), (0, [5], [], 6), (20, [4, 0], [0], 31), (0, [4], [], 305), (22, [3, 2, 1], [0], 0), (90, [3], [], -1), (91, [3], [], 9999), (20, [2, 0], [0], 26), (0, [2], [], 300), (6000, [0, 1], [0], 0), (0, [0], [], 285), (90, [1], [], 0), (91, [1], [], 1007)], (90, [3], [], 0)) := vOk_inI fun ρ η f0 f1 f2 f3 f4 f5 f6 f7 f8 f9 f10 f11 f12 f13 f14 f15 f16 f17 f18 f19 f20 f21 f22 f23 f24 f25 f26 f27 f28 f29 f30 f31 f32 f33 f34 f35 f36 f37 f38 => q_276_9 (n0 := ρ 1) (n1 := ρ 0) (n2 := ρ 2) (n3 := ρ 3) (n4 := ρ 4) (n5 := ρ 5) (n6 := ρ 6) (n7 := ρ 7) (n8 := ρ 8) (n9 := ρ 9) (n10 := ρ 10) (n11 := ρ 11) (n12 := ρ 12) (n13 := ρ 13) (n14 := ρ 14) (n15 := ρ 15) (n16 := ρ 17) (n17 := ρ 18) (n18 := ρ 19) (n19 := ρ 20) (n20 := ρ 21) (n21 := ρ 22) (n22 := ρ 23) (n23 := ρ 24) (H0 := η 0) f38 f37 f36 f35 f34 f33 f32 f31 f30 f29 f28 f27 f26 f25 f24 f23 f22 f21 f20 f19 f18 f17 f16 f15 f14 f13 f12 f11 f10 f9 f8 f7 f6 f5 f4 f3 f2 f1 f0
theorem q_276_10 {n0 n1 n2 n3 n4 n5 n6 n7 n8 n9 n10 n11 n12 n13 n14 n15 n16 n17 n18 n19 n20 n21 n22 n23 : Int} {H0 : gH} (f0 : n0 ≤ 1007) (f1 : 0 ≤ n0) (f2 : n1 = 285) (f3 : hWt T0 H0 ∧ preb_276 n1 n0 H0) (f4 : n2 = 300) (f5 : n2 = hV H0 (n1).toNat 26) (f6 : n3 ≤ 9999) (f7 : (-1) ≤ n3) (f8 : n3 = hV H0 (n2).toNat (n0).toNat) (f9 : n4 = 305) (f10 : n4 = hV H0 (n1).toNat 31) (f11 : n5 = 6) (f12 : n6 = w32 (n5 * n0)) (f13 : n7 ≤ 9999) (f14 : (-1) ≤ n7) (f15 : n7 = hV H0 (n4).toNat (n6).toNat) (f16 : n8 = 100) (f17 : n9 = 305) (f18 : n9 = hV H0 (n1).toNat 31) (f19 : n10 = 6) (f20 : n11 = w32 (n10 * n0)) (f21 : n12 = 1) (f22 : n13 = w32 (n11 + n12)) (f23 : n14 ≤ 9999) (f24 : (-1) ≤ n14) (f25 : n14 = hV H0 (n9).toNat (n13).toNat) (f26 : n15 = w32 (n8 - n14)) (f27 : n15 < 0) (f28 : n16 = 4) (f29 : n17 = 305) (f30 : n17 = hV H0 (n1).toNat 31) (f31 : n18 = 6) (f32 : n19 = w32 (n18 * n0)) (f33 : n20 = 2) (f34 : n21 = w32 (n19 + n20)) (f35 : n22 ≤ 9999) (f36 : (-1) ≤ n22) (f37 : n22 = hV H0 (n17).toNat (n21).toNat) (f38 : n23 = w32 (n16 * n22)) : n3 ≤ 2 := by
  unfold preb_276 at f3
  have e0 : n3 = hV H0 300 (n0).toNat := (by rw [f4] at f8; exact f8 : n3 = hV H0 300 (n0).toNat)
  have e1 : n7 = hV H0 305 (n6).toNat := (by rw [f9] at f15; exact f15 : n7 = hV H0 305 (n6).toNat)
  have e2 : n14 = hV H0 305 (n13).toNat := (by rw [f17] at f25; exact f25 : n14 = hV H0 305 (n13).toNat)
  have e3 : n22 = hV H0 305 (n21).toNat := (by rw [f29] at f37; exact f37 : n22 = hV H0 305 (n21).toNat)
  have p0 := f3.2.1
  have p1 := f3.2.2.1
  have p2 := f3.2.2.2.1
  have p3 := f3.2.2.2.2
  clear f5 f8 f10 f15 f18 f25 f30 f37
  subst e0
  subst e1
  subst e2
  subst e3
  rw [f11] at f12
  rw [f19] at f20
  rw [f31] at f32
  rw [f28] at f38
  first
  | (have ix0 : n6 = 6 * n0 := Eq.trans f12 (w32_iv (Iml 6 rfl (Iat f1 f0)) (by decide)); subst ix0; clear f12)
  | (have ix0 : n6 = 6 * n0 := Eq.trans f12 (w32_id (by omega) (by omega)); subst ix0; clear f12)
  | (unfold w32 at f12; have ix0 : n6 = 6 * n0 := (by omega); subst ix0)
  | skip
  first
  | (have ix1 : n11 = 6 * n0 := Eq.trans f20 (w32_iv (Iml 6 rfl (Iat f1 f0)) (by decide)); subst ix1; clear f20)
  | (have ix1 : n11 = 6 * n0 := Eq.trans f20 (w32_id (by omega) (by omega)); subst ix1; clear f20)
  | (unfold w32 at f20; have ix1 : n11 = 6 * n0 := (by omega); subst ix1)
  | skip
  first
  | (have ix2 : n13 = (6 * n0) + 1 := Eq.trans f22 (w32_iv (Iad (Iml 6 rfl (Iat f1 f0)) (IC 1)) (by decide)); subst ix2; clear f22)
  | (have ix2 : n13 = (6 * n0) + 1 := Eq.trans f22 (w32_id (by omega) (by omega)); subst ix2; clear f22)
  | (unfold w32 at f22; have ix2 : n13 = (6 * n0) + 1 := (by omega); subst ix2)
  | skip
  first
  | (have ix3 : n19 = 6 * n0 := Eq.trans f32 (w32_iv (Iml 6 rfl (Iat f1 f0)) (by decide)); subst ix3; clear f32)
  | (have ix3 : n19 = 6 * n0 := Eq.trans f32 (w32_id (by omega) (by omega)); subst ix3; clear f32)
  | (unfold w32 at f32; have ix3 : n19 = 6 * n0 := (by omega); subst ix3)
  | skip
  first
  | (have ix4 : n21 = (6 * n0) + 2 := Eq.trans f34 (w32_iv (Iad (Iml 6 rfl (Iat f1 f0)) (IC 2)) (by decide)); subst ix4; clear f34)
  | (have ix4 : n21 = (6 * n0) + 2 := Eq.trans f34 (w32_id (by omega) (by omega)); subst ix4; clear f34)
  | (unfold w32 at f34; have ix4 : n21 = (6 * n0) + 2 := (by omega); subst ix4)
  | skip
  try unfold w32 at f12
  try unfold w32 at f20
  try unfold w32 at f22
  try unfold w32 at f26
  try unfold w32 at f32
  try unfold w32 at f34
  try unfold w32 at f38
  omega
theorem c_276_s_10 : vOkm T0 (eP e_276 L_276 A_276 mu_276 none) 2 ([(3, [24, 17, 23], [], 0), (22, [23, 18, 22], [0], 0), (90, [23], [], -1), (91, [23], [], 9999), (1, [22, 20, 21], [], 0), (0, [21], [], 2), (3, [20, 19, 1], [], 0), (0, [19], [], 6), (20, [18, 0], [0], 31), (0, [18], [], 305), (0, [17], [], 4), (32, [15], [], 0), (2, [15, 8, 14], [], 0), (22, [14, 9, 13], [0], 0), (90, [14], [], -1), (91, [14], [], 9999), (1, [13, 11, 12], [], 0), (0, [12], [], 1), (3, [11, 10, 1], [], 0), (0, [10], [], 6), (20, [9, 0], [0], 31), (0, [9], [], 305), (0, [8], [], 100), (22, [7, 4, 6], [0], 0), (90, [7], [], -1), (91, [7], [], 9999), (3, [6, 5, 1], [], 0), (0, [5], [], 6), (20, [4, 0], [0], 31), (0, [4], [], 305), (22, [3, 2, 1], [0], 0), (90, [3], [], -1), (91, [3], [], 9999), (20, [2, 0], [0], 26), (0, [2], [], 300), (6000, [0, 1], [0], 0), (0, [0], [], 285), (90, [1], [], 0), (91, [1], [], 1007)], (91, [3], [], 2)) := vOk_inI fun ρ η f0 f1 f2 f3 f4 f5 f6 f7 f8 f9 f10 f11 f12 f13 f14 f15 f16 f17 f18 f19 f20 f21 f22 f23 f24 f25 f26 f27 f28 f29 f30 f31 f32 f33 f34 f35 f36 f37 f38 => q_276_10 (n0 := ρ 1) (n1 := ρ 0) (n2 := ρ 2) (n3 := ρ 3) (n4 := ρ 4) (n5 := ρ 5) (n6 := ρ 6) (n7 := ρ 7) (n8 := ρ 8) (n9 := ρ 9) (n10 := ρ 10) (n11 := ρ 11) (n12 := ρ 12) (n13 := ρ 13) (n14 := ρ 14) (n15 := ρ 15) (n16 := ρ 17) (n17 := ρ 18) (n18 := ρ 19) (n19 := ρ 20) (n20 := ρ 21) (n21 := ρ 22) (n22 := ρ 23) (n23 := ρ 24) (H0 := η 0) f38 f37 f36 f35 f34 f33 f32 f31 f30 f29 f28 f27 f26 f25 f24 f23 f22 f21 f20 f19 f18 f17 f16 f15 f14 f13 f12 f11 f10 f9 f8 f7 f6 f5 f4 f3 f2 f1 f0
theorem q_276_11 {n0 n1 n2 n3 n4 n5 n6 n7 n8 n9 n10 n11 n12 n13 n14 n15 n16 n17 n18 n19 n20 n21 n22 n23 : Int} {H0 : gH} (f0 : n0 ≤ 1007) (f1 : 0 ≤ n0) (f2 : n1 = 285) (f3 : hWt T0 H0 ∧ preb_276 n1 n0 H0) (f4 : n2 = 300) (f5 : n2 = hV H0 (n1).toNat 26) (f6 : n3 ≤ 9999) (f7 : (-1) ≤ n3) (f8 : n3 = hV H0 (n2).toNat (n0).toNat) (f9 : n4 = 305) (f10 : n4 = hV H0 (n1).toNat 31) (f11 : n5 = 6) (f12 : n6 = w32 (n5 * n0)) (f13 : n7 ≤ 9999) (f14 : (-1) ≤ n7) (f15 : n7 = hV H0 (n4).toNat (n6).toNat) (f16 : n8 = 100) (f17 : n9 = 305) (f18 : n9 = hV H0 (n1).toNat 31) (f19 : n10 = 6) (f20 : n11 = w32 (n10 * n0)) (f21 : n12 = 1) (f22 : n13 = w32 (n11 + n12)) (f23 : n14 ≤ 9999) (f24 : (-1) ≤ n14) (f25 : n14 = hV H0 (n9).toNat (n13).toNat) (f26 : n15 = w32 (n8 - n14)) (f27 : n15 < 0) (f28 : n16 = 4) (f29 : n17 = 305) (f30 : n17 = hV H0 (n1).toNat 31) (f31 : n18 = 6) (f32 : n19 = w32 (n18 * n0)) (f33 : n20 = 2) (f34 : n21 = w32 (n19 + n20)) (f35 : n22 ≤ 9999) (f36 : (-1) ≤ n22) (f37 : n22 = hV H0 (n17).toNat (n21).toNat) (f38 : n23 = w32 (n16 * n22)) : 0 ≤ n7 := by
  unfold preb_276 at f3
  have e0 : n3 = hV H0 300 (n0).toNat := (by rw [f4] at f8; exact f8 : n3 = hV H0 300 (n0).toNat)
  have e1 : n7 = hV H0 305 (n6).toNat := (by rw [f9] at f15; exact f15 : n7 = hV H0 305 (n6).toNat)
  have e2 : n14 = hV H0 305 (n13).toNat := (by rw [f17] at f25; exact f25 : n14 = hV H0 305 (n13).toNat)
  have e3 : n22 = hV H0 305 (n21).toNat := (by rw [f29] at f37; exact f37 : n22 = hV H0 305 (n21).toNat)
  have p0 := f3.2.1
  have p1 := f3.2.2.1
  have p2 := f3.2.2.2.1
  have p3 := f3.2.2.2.2
  clear f5 f8 f10 f15 f18 f25 f30 f37
  subst e0
  subst e1
  subst e2
  subst e3
  rw [f11] at f12
  rw [f19] at f20
  rw [f31] at f32
  rw [f28] at f38
  first
  | (have ix0 : n6 = 6 * n0 := Eq.trans f12 (w32_iv (Iml 6 rfl (Iat f1 f0)) (by decide)); subst ix0; clear f12)
  | (have ix0 : n6 = 6 * n0 := Eq.trans f12 (w32_id (by omega) (by omega)); subst ix0; clear f12)
  | (unfold w32 at f12; have ix0 : n6 = 6 * n0 := (by omega); subst ix0)
  | skip
  first
  | (have ix1 : n11 = 6 * n0 := Eq.trans f20 (w32_iv (Iml 6 rfl (Iat f1 f0)) (by decide)); subst ix1; clear f20)
  | (have ix1 : n11 = 6 * n0 := Eq.trans f20 (w32_id (by omega) (by omega)); subst ix1; clear f20)
  | (unfold w32 at f20; have ix1 : n11 = 6 * n0 := (by omega); subst ix1)
  | skip
  first
  | (have ix2 : n13 = (6 * n0) + 1 := Eq.trans f22 (w32_iv (Iad (Iml 6 rfl (Iat f1 f0)) (IC 1)) (by decide)); subst ix2; clear f22)
  | (have ix2 : n13 = (6 * n0) + 1 := Eq.trans f22 (w32_id (by omega) (by omega)); subst ix2; clear f22)
  | (unfold w32 at f22; have ix2 : n13 = (6 * n0) + 1 := (by omega); subst ix2)
  | skip
  first
  | (have ix3 : n19 = 6 * n0 := Eq.trans f32 (w32_iv (Iml 6 rfl (Iat f1 f0)) (by decide)); subst ix3; clear f32)
  | (have ix3 : n19 = 6 * n0 := Eq.trans f32 (w32_id (by omega) (by omega)); subst ix3; clear f32)
  | (unfold w32 at f32; have ix3 : n19 = 6 * n0 := (by omega); subst ix3)
  | skip
  first
  | (have ix4 : n21 = (6 * n0) + 2 := Eq.trans f34 (w32_iv (Iad (Iml 6 rfl (Iat f1 f0)) (IC 2)) (by decide)); subst ix4; clear f34)
  | (have ix4 : n21 = (6 * n0) + 2 := Eq.trans f34 (w32_id (by omega) (by omega)); subst ix4; clear f34)
  | (unfold w32 at f34; have ix4 : n21 = (6 * n0) + 2 := (by omega); subst ix4)
  | skip
  try unfold w32 at f12
  try unfold w32 at f20
  try unfold w32 at f22
  try unfold w32 at f26
  try unfold w32 at f32
  try unfold w32 at f34
  try unfold w32 at f38
  omega
theorem c_276_s_11 : vOkm T0 (eP e_276 L_276 A_276 mu_276 none) 2 ([(3, [24, 17, 23], [], 0), (22, [23, 18, 22], [0], 0), (90, [23], [], -1), (91, [23], [], 9999), (1, [22, 20, 21], [], 0), (0, [21], [], 2), (3, [20, 19, 1], [], 0), (0, [19], [], 6), (20, [18, 0], [0], 31), (0, [18], [], 305), (0, [17], [], 4), (32, [15], [], 0), (2, [15, 8, 14], [], 0), (22, [14, 9, 13], [0], 0), (90, [14], [], -1), (91, [14], [], 9999), (1, [13, 11, 12], [], 0), (0, [12], [], 1), (3, [11, 10, 1], [], 0), (0, [10], [], 6), (20, [9, 0], [0], 31), (0, [9], [], 305), (0, [8], [], 100), (22, [7, 4, 6], [0], 0), (90, [7], [], -1), (91, [7], [], 9999), (3, [6, 5, 1], [], 0), (0, [5], [], 6), (20, [4, 0], [0], 31), (0, [4], [], 305), (22, [3, 2, 1], [0], 0), (90, [3], [], -1), (91, [3], [], 9999), (20, [2, 0], [0], 26), (0, [2], [], 300), (6000, [0, 1], [0], 0), (0, [0], [], 285), (90, [1], [], 0), (91, [1], [], 1007)], (90, [7], [], 0)) := vOk_inI fun ρ η f0 f1 f2 f3 f4 f5 f6 f7 f8 f9 f10 f11 f12 f13 f14 f15 f16 f17 f18 f19 f20 f21 f22 f23 f24 f25 f26 f27 f28 f29 f30 f31 f32 f33 f34 f35 f36 f37 f38 => q_276_11 (n0 := ρ 1) (n1 := ρ 0) (n2 := ρ 2) (n3 := ρ 3) (n4 := ρ 4) (n5 := ρ 5) (n6 := ρ 6) (n7 := ρ 7) (n8 := ρ 8) (n9 := ρ 9) (n10 := ρ 10) (n11 := ρ 11) (n12 := ρ 12) (n13 := ρ 13) (n14 := ρ 14) (n15 := ρ 15) (n16 := ρ 17) (n17 := ρ 18) (n18 := ρ 19) (n19 := ρ 20) (n20 := ρ 21) (n21 := ρ 22) (n22 := ρ 23) (n23 := ρ 24) (H0 := η 0) f38 f37 f36 f35 f34 f33 f32 f31 f30 f29 f28 f27 f26 f25 f24 f23 f22 f21 f20 f19 f18 f17 f16 f15 f14 f13 f12 f11 f10 f9 f8 f7 f6 f5 f4 f3 f2 f1 f0
theorem q_276_12 {n0 n1 n2 n3 n4 n5 n6 n7 n8 n9 n10 n11 n12 n13 n14 n15 n16 n17 n18 n19 n20 n21 n22 n23 : Int} {H0 : gH} (f0 : n0 ≤ 1007) (f1 : 0 ≤ n0) (f2 : n1 = 285) (f3 : hWt T0 H0 ∧ preb_276 n1 n0 H0) (f4 : n2 = 300) (f5 : n2 = hV H0 (n1).toNat 26) (f6 : n3 ≤ 9999) (f7 : (-1) ≤ n3) (f8 : n3 = hV H0 (n2).toNat (n0).toNat) (f9 : n4 = 305) (f10 : n4 = hV H0 (n1).toNat 31) (f11 : n5 = 6) (f12 : n6 = w32 (n5 * n0)) (f13 : n7 ≤ 9999) (f14 : (-1) ≤ n7) (f15 : n7 = hV H0 (n4).toNat (n6).toNat) (f16 : n8 = 100) (f17 : n9 = 305) (f18 : n9 = hV H0 (n1).toNat 31) (f19 : n10 = 6) (f20 : n11 = w32 (n10 * n0)) (f21 : n12 = 1) (f22 : n13 = w32 (n11 + n12)) (f23 : n14 ≤ 9999) (f24 : (-1) ≤ n14) (f25 : n14 = hV H0 (n9).toNat (n13).toNat) (f26 : n15 = w32 (n8 - n14)) (f27 : n15 < 0) (f28 : n16 = 4) (f29 : n17 = 305) (f30 : n17 = hV H0 (n1).toNat 31) (f31 : n18 = 6) (f32 : n19 = w32 (n18 * n0)) (f33 : n20 = 2) (f34 : n21 = w32 (n19 + n20)) (f35 : n22 ≤ 9999) (f36 : (-1) ≤ n22) (f37 : n22 = hV H0 (n17).toNat (n21).toNat) (f38 : n23 = w32 (n16 * n22)) : n7 ≤ 2 := by
  unfold preb_276 at f3
  have e0 : n3 = hV H0 300 (n0).toNat := (by rw [f4] at f8; exact f8 : n3 = hV H0 300 (n0).toNat)
  have e1 : n7 = hV H0 305 (n6).toNat := (by rw [f9] at f15; exact f15 : n7 = hV H0 305 (n6).toNat)
  have e2 : n14 = hV H0 305 (n13).toNat := (by rw [f17] at f25; exact f25 : n14 = hV H0 305 (n13).toNat)
  have e3 : n22 = hV H0 305 (n21).toNat := (by rw [f29] at f37; exact f37 : n22 = hV H0 305 (n21).toNat)
  have p0 := f3.2.1
  have p1 := f3.2.2.1
  have p2 := f3.2.2.2.1
  have p3 := f3.2.2.2.2
  clear f5 f8 f10 f15 f18 f25 f30 f37
  subst e0
  subst e1
  subst e2
  subst e3
  rw [f11] at f12
  rw [f19] at f20
  rw [f31] at f32
  rw [f28] at f38
  first
  | (have ix0 : n6 = 6 * n0 := Eq.trans f12 (w32_iv (Iml 6 rfl (Iat f1 f0)) (by decide)); subst ix0; clear f12)
  | (have ix0 : n6 = 6 * n0 := Eq.trans f12 (w32_id (by omega) (by omega)); subst ix0; clear f12)
  | (unfold w32 at f12; have ix0 : n6 = 6 * n0 := (by omega); subst ix0)
  | skip
  first
  | (have ix1 : n11 = 6 * n0 := Eq.trans f20 (w32_iv (Iml 6 rfl (Iat f1 f0)) (by decide)); subst ix1; clear f20)
  | (have ix1 : n11 = 6 * n0 := Eq.trans f20 (w32_id (by omega) (by omega)); subst ix1; clear f20)
  | (unfold w32 at f20; have ix1 : n11 = 6 * n0 := (by omega); subst ix1)
  | skip
  first
  | (have ix2 : n13 = (6 * n0) + 1 := Eq.trans f22 (w32_iv (Iad (Iml 6 rfl (Iat f1 f0)) (IC 1)) (by decide)); subst ix2; clear f22)
  | (have ix2 : n13 = (6 * n0) + 1 := Eq.trans f22 (w32_id (by omega) (by omega)); subst ix2; clear f22)
  | (unfold w32 at f22; have ix2 : n13 = (6 * n0) + 1 := (by omega); subst ix2)
  | skip
  first
  | (have ix3 : n19 = 6 * n0 := Eq.trans f32 (w32_iv (Iml 6 rfl (Iat f1 f0)) (by decide)); subst ix3; clear f32)
  | (have ix3 : n19 = 6 * n0 := Eq.trans f32 (w32_id (by omega) (by omega)); subst ix3; clear f32)
  | (unfold w32 at f32; have ix3 : n19 = 6 * n0 := (by omega); subst ix3)
  | skip
  first
  | (have ix4 : n21 = (6 * n0) + 2 := Eq.trans f34 (w32_iv (Iad (Iml 6 rfl (Iat f1 f0)) (IC 2)) (by decide)); subst ix4; clear f34)
  | (have ix4 : n21 = (6 * n0) + 2 := Eq.trans f34 (w32_id (by omega) (by omega)); subst ix4; clear f34)
  | (unfold w32 at f34; have ix4 : n21 = (6 * n0) + 2 := (by omega); subst ix4)
  | skip
  try unfold w32 at f12
  try unfold w32 at f20
  try unfold w32 at f22
  try unfold w32 at f26
  try unfold w32 at f32
  try unfold w32 at f34
  try unfold w32 at f38
  omega
theorem c_276_s_12 : vOkm T0 (eP e_276 L_276 A_276 mu_276 none) 2 ([(3, [24, 17, 23], [], 0), (22, [23, 18, 22], [0], 0), (90, [23], [], -1), (91, [23], [], 9999), (1, [22, 20, 21], [], 0), (0, [21], [], 2), (3, [20, 19, 1], [], 0), (0, [19], [], 6), (20, [18, 0], [0], 31), (0, [18], [], 305), (0, [17], [], 4), (32, [15], [], 0), (2, [15, 8, 14], [], 0), (22, [14, 9, 13], [0], 0), (90, [14], [], -1), (91, [14], [], 9999), (1, [13, 11, 12], [], 0), (0, [12], [], 1), (3, [11, 10, 1], [], 0), (0, [10], [], 6), (20, [9, 0], [0], 31), (0, [9], [], 305), (0, [8], [], 100), (22, [7, 4, 6], [0], 0), (90, [7], [], -1), (91, [7], [], 9999), (3, [6, 5, 1], [], 0), (0, [5], [], 6), (20, [4, 0], [0], 31), (0, [4], [], 305), (22, [3, 2, 1], [0], 0), (90, [3], [], -1), (91, [3], [], 9999), (20, [2, 0], [0], 26), (0, [2], [], 300), (6000, [0, 1], [0], 0), (0, [0], [], 285), (90, [1], [], 0), (91, [1], [], 1007)], (91, [7], [], 2)) := vOk_inI fun ρ η f0 f1 f2 f3 f4 f5 f6 f7 f8 f9 f10 f11 f12 f13 f14 f15 f16 f17 f18 f19 f20 f21 f22 f23 f24 f25 f26 f27 f28 f29 f30 f31 f32 f33 f34 f35 f36 f37 f38 => q_276_12 (n0 := ρ 1) (n1 := ρ 0) (n2 := ρ 2) (n3 := ρ 3) (n4 := ρ 4) (n5 := ρ 5) (n6 := ρ 6) (n7 := ρ 7) (n8 := ρ 8) (n9 := ρ 9) (n10 := ρ 10) (n11 := ρ 11) (n12 := ρ 12) (n13 := ρ 13) (n14 := ρ 14) (n15 := ρ 15) (n16 := ρ 17) (n17 := ρ 18) (n18 := ρ 19) (n19 := ρ 20) (n20 := ρ 21) (n21 := ρ 22) (n22 := ρ 23) (n23 := ρ 24) (H0 := η 0) f38 f37 f36 f35 f34 f33 f32 f31 f30 f29 f28 f27 f26 f25 f24 f23 f22 f21 f20 f19 f18 f17 f16 f15 f14 f13 f12 f11 f10 f9 f8 f7 f6 f5 f4 f3 f2 f1 f0
theorem q_276_13 {n0 n1 n2 n3 n4 n5 n6 n7 n8 n9 n10 n11 n12 n13 n14 n15 n16 n17 n18 n19 n20 n21 n22 n23 n24 n25 n26 : Int} {H0 : gH} (f0 : n0 ≤ 1007) (f1 : 0 ≤ n0) (f2 : n1 = 285) (f3 : hWt T0 H0 ∧ preb_276 n1 n0 H0) (f4 : n2 = 300) (f5 : n2 = hV H0 (n1).toNat 26) (f6 : n3 ≤ 9999) (f7 : (-1) ≤ n3) (f8 : n3 = hV H0 (n2).toNat (n0).toNat) (f9 : n4 = 305) (f10 : n4 = hV H0 (n1).toNat 31) (f11 : n5 = 6) (f12 : n6 = w32 (n5 * n0)) (f13 : n7 ≤ 9999) (f14 : (-1) ≤ n7) (f15 : n7 = hV H0 (n4).toNat (n6).toNat) (f16 : n8 = 100) (f17 : n9 = 305) (f18 : n9 = hV H0 (n1).toNat 31) (f19 : n10 = 6) (f20 : n11 = w32 (n10 * n0)) (f21 : n12 = 1) (f22 : n13 = w32 (n11 + n12)) (f23 : n14 ≤ 9999) (f24 : (-1) ≤ n14) (f25 : n14 = hV H0 (n9).toNat (n13).toNat) (f26 : n15 = w32 (n8 - n14)) (f27 : n15 < 0) (f28 : n16 = 0) (f29 : n17 = 4) (f30 : n18 = 305) (f31 : n18 = hV H0 (n1).toNat 31) (f32 : n19 = 6) (f33 : n20 = w32 (n19 * n0)) (f34 : n21 = 2) (f35 : n22 = w32 (n20 + n21)) (f36 : n23 ≤ 9999) (f37 : (-1) ≤ n23) (f38 : n23 = hV H0 (n18).toNat (n22).toNat) (f39 : n24 = w32 (n17 * n23)) (f40 : n25 = (-1)) (f41 : n26 = 0) : Ab_276_62 n1 n0 n1 n0 n3 n7 n16 n24 n25 n26 H0 H0 ∧ ∀ q, none = some q → mub_276_62 n1 n0 n1 n0 n3 n7 n16 n24 n25 n26 H0 H0 < q := by
  unfold preb_276 at f3
  unfold Ab_276_62
  have e0 : n3 = hV H0 300 (n0).toNat := (by rw [f4] at f8; exact f8 : n3 = hV H0 300 (n0).toNat)
  have e1 : n7 = hV H0 305 (n6).toNat := (by rw [f9] at f15; exact f15 : n7 = hV H0 305 (n6).toNat)
  have e2 : n14 = hV H0 305 (n13).toNat := (by rw [f17] at f25; exact f25 : n14 = hV H0 305 (n13).toNat)
  have e3 : n23 = hV H0 305 (n22).toNat := (by rw [f30] at f38; exact f38 : n23 = hV H0 305 (n22).toNat)
  have p0 := f3.2.1
  have p1 := f3.2.2.1
  have p2 := f3.2.2.2.1
  have p3 := f3.2.2.2.2
  clear f5 f8 f10 f15 f18 f25 f31 f38
  subst e0
  subst e1
  subst e2
  subst e3
  rw [f11] at f12
  rw [f19] at f20
  rw [f32] at f33
  rw [f29] at f39
  first
  | (have ix0 : n6 = 6 * n0 := Eq.trans f12 (w32_iv (Iml 6 rfl (Iat f1 f0)) (by decide)); subst ix0; clear f12)
  | (have ix0 : n6 = 6 * n0 := Eq.trans f12 (w32_id (by omega) (by omega)); subst ix0; clear f12)
  | (unfold w32 at f12; have ix0 : n6 = 6 * n0 := (by omega); subst ix0)
  | skip
  first
  | (have ix1 : n11 = 6 * n0 := Eq.trans f20 (w32_iv (Iml 6 rfl (Iat f1 f0)) (by decide)); subst ix1; clear f20)
  | (have ix1 : n11 = 6 * n0 := Eq.trans f20 (w32_id (by omega) (by omega)); subst ix1; clear f20)
  | (unfold w32 at f20; have ix1 : n11 = 6 * n0 := (by omega); subst ix1)
  | skip
  first
  | (have ix2 : n13 = (6 * n0) + 1 := Eq.trans f22 (w32_iv (Iad (Iml 6 rfl (Iat f1 f0)) (IC 1)) (by decide)); subst ix2; clear f22)
  | (have ix2 : n13 = (6 * n0) + 1 := Eq.trans f22 (w32_id (by omega) (by omega)); subst ix2; clear f22)
  | (unfold w32 at f22; have ix2 : n13 = (6 * n0) + 1 := (by omega); subst ix2)
  | skip
  first
  | (have ix3 : n20 = 6 * n0 := Eq.trans f33 (w32_iv (Iml 6 rfl (Iat f1 f0)) (by decide)); subst ix3; clear f33)
  | (have ix3 : n20 = 6 * n0 := Eq.trans f33 (w32_id (by omega) (by omega)); subst ix3; clear f33)
  | (unfold w32 at f33; have ix3 : n20 = 6 * n0 := (by omega); subst ix3)
  | skip
  first
  | (have ix4 : n22 = (6 * n0) + 2 := Eq.trans f35 (w32_iv (Iad (Iml 6 rfl (Iat f1 f0)) (IC 2)) (by decide)); subst ix4; clear f35)
  | (have ix4 : n22 = (6 * n0) + 2 := Eq.trans f35 (w32_id (by omega) (by omega)); subst ix4; clear f35)
  | (unfold w32 at f35; have ix4 : n22 = (6 * n0) + 2 := (by omega); subst ix4)
  | skip
  first
  | (have ix5 : n24 = 4 * (hV H0 305 (((6 * n0) + 2)).toNat) := Eq.trans f39 (w32_iv (Iml 4 rfl (Iat f37 f36)) (by decide)); subst ix5; clear f39)
  | (have ix5 : n24 = 4 * (hV H0 305 (((6 * n0) + 2)).toNat) := Eq.trans f39 (w32_id (by omega) (by omega)); subst ix5; clear f39)
  | (unfold w32 at f39; have ix5 : n24 = 4 * (hV H0 305 (((6 * n0) + 2)).toNat) := (by omega); subst ix5)
  | skip
  try unfold w32 at f12
  try unfold w32 at f20
  try unfold w32 at f22
  try unfold w32 at f26
  try unfold w32 at f33
  try unfold w32 at f35
  try unfold w32 at f39
  refine ⟨?_, fun q hq => ?_⟩
  · first | assumption | omega | trivial
  · exact nomatch hq
theorem c_276_s_13 : vOkm T0 (eP e_276 L_276 A_276 mu_276 none) 2 ([(0, [26], [], 0), (0, [25], [], -1), (3, [24, 17, 23], [], 0), (22, [23, 18, 22], [0], 0), (90, [23], [], -1), (91, [23], [], 9999), (1, [22, 20, 21], [], 0), (0, [21], [], 2), (3, [20, 19, 1], [], 0), (0, [19], [], 6), (20, [18, 0], [0], 31), (0, [18], [], 305), (0, [17], [], 4), (0, [16], [], 0), (32, [15], [], 0), (2, [15, 8, 14], [], 0), (22, [14, 9, 13], [0], 0), (90, [14], [], -1), (91, [14], [], 9999), (1, [13, 11, 12], [], 0), (0, [12], [], 1), (3, [11, 10, 1], [], 0), (0, [10], [], 6), (20, [9, 0], [0], 31), (0, [9], [], 305), (0, [8], [], 100), (22, [7, 4, 6], [0], 0), (90, [7], [], -1), (91, [7], [], 9999), (3, [6, 5, 1], [], 0), (0, [5], [], 6), (20, [4, 0], [0], 31), (0, [4], [], 305), (22, [3, 2, 1], [0], 0), (90, [3], [], -1), (91, [3], [], 9999), (20, [2, 0], [0], 26), (0, [2], [], 300), (6000, [0, 1], [0], 0), (0, [0], [], 285), (90, [1], [], 0), (91, [1], [], 1007)], (4000, [0, 1, 3, 7, 16, 24, 25, 26], [0], 62)) := vOk_inI fun ρ η f0 f1 f2 f3 f4 f5 f6 f7 f8 f9 f10 f11 f12 f13 f14 f15 f16 f17 f18 f19 f20 f21 f22 f23 f24 f25 f26 f27 f28 f29 f30 f31 f32 f33 f34 f35 f36 f37 f38 f39 f40 f41 => q_276_13 (n0 := ρ 1) (n1 := ρ 0) (n2 := ρ 2) (n3 := ρ 3) (n4 := ρ 4) (n5 := ρ 5) (n6 := ρ 6) (n7 := ρ 7) (n8 := ρ 8) (n9 := ρ 9) (n10 := ρ 10) (n11 := ρ 11) (n12 := ρ 12) (n13 := ρ 13) (n14 := ρ 14) (n15 := ρ 15) (n16 := ρ 16) (n17 := ρ 17) (n18 := ρ 18) (n19 := ρ 19) (n20 := ρ 20) (n21 := ρ 21) (n22 := ρ 22) (n23 := ρ 23) (n24 := ρ 24) (n25 := ρ 25) (n26 := ρ 26) (H0 := η 0) f41 f40 f39 f38 f37 f36 f35 f34 f33 f32 f31 f30 f29 f28 f27 f26 f25 f24 f23 f22 f21 f20 f19 f18 f17 f16 f15 f14 f13 f12 f11 f10 f9 f8 f7 f6 f5 f4 f3 f2 f1 f0
def p_276_s : List vG := [([(3, [6, 5, 1], [], 0), (0, [5], [], 6), (22, [3, 2, 1], [0], 0), (90, [3], [], -1), (91, [3], [], 9999), (20, [2, 0], [0], 26), (0, [2], [], 300), (6000, [0, 1], [0], 0), (0, [0], [], 285), (90, [1], [], 0), (91, [1], [], 1007)], (70, [6], [], 6048)),
  ([(1, [13, 11, 12], [], 0), (0, [12], [], 1), (3, [11, 10, 1], [], 0), (0, [10], [], 6), (20, [9, 0], [0], 31), (0, [9], [], 305), (22, [7, 4, 6], [0], 0), (90, [7], [], -1), (91, [7], [], 9999), (3, [6, 5, 1], [], 0), (0, [5], [], 6), (20, [4, 0], [0], 31), (0, [4], [], 305), (22, [3, 2, 1], [0], 0), (90, [3], [], -1), (91, [3], [], 9999), (20, [2, 0], [0], 26), (0, [2], [], 300), (6000, [0, 1], [0], 0), (0, [0], [], 285), (90, [1], [], 0), (91, [1], [], 1007)], (70, [13], [], 6048)),
  ([(1, [21, 19, 20], [], 0), (0, [20], [], 2), (3, [19, 18, 1], [], 0), (0, [18], [], 6), (20, [17, 0], [0], 31), (0, [17], [], 305), (33, [15], [], 0), (2, [15, 8, 14], [], 0), (22, [14, 9, 13], [0], 0), (90, [14], [], -1), (91, [14], [], 9999), (1, [13, 11, 12], [], 0), (0, [12], [], 1), (3, [11, 10, 1], [], 0), (0, [10], [], 6), (20, [9, 0], [0], 31), (0, [9], [], 305), (0, [8], [], 100), (22, [7, 4, 6], [0], 0), (90, [7], [], -1), (91, [7], [], 9999), (3, [6, 5, 1], [], 0), (0, [5], [], 6), (20, [4, 0], [0], 31), (0, [4], [], 305), (22, [3, 2, 1], [0], 0), (90, [3], [], -1), (91, [3], [], 9999), (20, [2, 0], [0], 26), (0, [2], [], 300), (6000, [0, 1], [0], 0), (0, [0], [], 285), (90, [1], [], 0), (91, [1], [], 1007)], (70, [21], [], 6048)),
  ([(3, [23, 16, 22], [], 0), (22, [22, 17, 21], [0], 0), (90, [22], [], -1), (91, [22], [], 9999), (1, [21, 19, 20], [], 0), (0, [20], [], 2), (3, [19, 18, 1], [], 0), (0, [18], [], 6), (20, [17, 0], [0], 31), (0, [17], [], 305), (0, [16], [], 4), (33, [15], [], 0), (2, [15, 8, 14], [], 0), (22, [14, 9, 13], [0], 0), (90, [14], [], -1), (91, [14], [], 9999), (1, [13, 11, 12], [], 0), (0, [12], [], 1), (3, [11, 10, 1], [], 0), (0, [10], [], 6), (20, [9, 0], [0], 31), (0, [9], [], 305), (0, [8], [], 100), (22, [7, 4, 6], [0], 0), (90, [7], [], -1), (91, [7], [], 9999), (3, [6, 5, 1], [], 0), (0, [5], [], 6), (20, [4, 0], [0], 31), (0, [4], [], 305), (22, [3, 2, 1], [0], 0), (90, [3], [], -1), (91, [3], [], 9999), (20, [2, 0], [0], 26), (0, [2], [], 300), (6000, [0, 1], [0], 0), (0, [0], [], 285), (90, [1], [], 0), (91, [1], [], 1007)], (90, [3], [], 0)),
  ([(3, [23, 16, 22], [], 0), (22, [22, 17, 21], [0], 0), (90, [22], [], -1), (91, [22], [], 9999), (1, [21, 19, 20], [], 0), (0, [20], [], 2), (3, [19, 18, 1], [], 0), (0, [18], [], 6), (20, [17, 0], [0], 31), (0, [17], [], 305), (0, [16], [], 4), (33, [15], [], 0), (2, [15, 8, 14], [], 0), (22, [14, 9, 13], [0], 0), (90, [14], [], -1), (91, [14], [], 9999), (1, [13, 11, 12], [], 0), (0, [12], [], 1), (3, [11, 10, 1], [], 0), (0, [10], [], 6), (20, [9, 0], [0], 31), (0, [9], [], 305), (0, [8], [], 100), (22, [7, 4, 6], [0], 0), (90, [7], [], -1), (91, [7], [], 9999), (3, [6, 5, 1], [], 0), (0, [5], [], 6), (20, [4, 0], [0], 31), (0, [4], [], 305), (22, [3, 2, 1], [0], 0), (90, [3], [], -1), (91, [3], [], 9999), (20, [2, 0], [0], 26), (0, [2], [], 300), (6000, [0, 1], [0], 0), (0, [0], [], 285), (90, [1], [], 0), (91, [1], [], 1007)], (91, [3], [], 2)),
  ([(3, [23, 16, 22], [], 0), (22, [22, 17, 21], [0], 0), (90, [22], [], -1), (91, [22], [], 9999), (1, [21, 19, 20], [], 0), (0, [20], [], 2), (3, [19, 18, 1], [], 0), (0, [18], [], 6), (20, [17, 0], [0], 31), (0, [17], [], 305), (0, [16], [], 4), (33, [15], [], 0), (2, [15, 8, 14], [], 0), (22, [14, 9, 13], [0], 0), (90, [14], [], -1), (91, [14], [], 9999), (1, [13, 11, 12], [], 0), (0, [12], [], 1), (3, [11, 10, 1], [], 0), (0, [10], [], 6), (20, [9, 0], [0], 31), (0, [9], [], 305), (0, [8], [], 100), (22, [7, 4, 6], [0], 0), (90, [7], [], -1), (91, [7], [], 9999), (3, [6, 5, 1], [], 0), (0, [5], [], 6), (20, [4, 0], [0], 31), (0, [4], [], 305), (22, [3, 2, 1], [0], 0), (90, [3], [], -1), (91, [3], [], 9999), (20, [2, 0], [0], 26), (0, [2], [], 300), (6000, [0, 1], [0], 0), (0, [0], [], 285), (90, [1], [], 0), (91, [1], [], 1007)], (90, [7], [], 0)),
  ([(3, [23, 16, 22], [], 0), (22, [22, 17, 21], [0], 0), (90, [22], [], -1), (91, [22], [], 9999), (1, [21, 19, 20], [], 0), (0, [20], [], 2), (3, [19, 18, 1], [], 0), (0, [18], [], 6), (20, [17, 0], [0], 31), (0, [17], [], 305), (0, [16], [], 4), (33, [15], [], 0), (2, [15, 8, 14], [], 0), (22, [14, 9, 13], [0], 0), (90, [14], [], -1), (91, [14], [], 9999), (1, [13, 11, 12], [], 0), (0, [12], [], 1), (3, [11, 10, 1], [], 0), (0, [10], [], 6), (20, [9, 0], [0], 31), (0, [9], [], 305), (0, [8], [], 100), (22, [7, 4, 6], [0], 0), (90, [7], [], -1), (91, [7], [], 9999), (3, [6, 5, 1], [], 0), (0, [5], [], 6), (20, [4, 0], [0], 31), (0, [4], [], 305), (22, [3, 2, 1], [0], 0), (90, [3], [], -1), (91, [3], [], 9999), (20, [2, 0], [0], 26), (0, [2], [], 300), (6000, [0, 1], [0], 0), (0, [0], [], 285), (90, [1], [], 0), (91, [1], [], 1007)], (91, [7], [], 2)),
  ([(0, [25], [], 0), (0, [24], [], -1), (3, [23, 16, 22], [], 0), (22, [22, 17, 21], [0], 0), (90, [22], [], -1), (91, [22], [], 9999), (1, [21, 19, 20], [], 0), (0, [20], [], 2), (3, [19, 18, 1], [], 0), (0, [18], [], 6), (20, [17, 0], [0], 31), (0, [17], [], 305), (0, [16], [], 4), (33, [15], [], 0), (2, [15, 8, 14], [], 0), (22, [14, 9, 13], [0], 0), (90, [14], [], -1), (91, [14], [], 9999), (1, [13, 11, 12], [], 0), (0, [12], [], 1), (3, [11, 10, 1], [], 0), (0, [10], [], 6), (20, [9, 0], [0], 31), (0, [9], [], 305), (0, [8], [], 100), (22, [7, 4, 6], [0], 0), (90, [7], [], -1), (91, [7], [], 9999), (3, [6, 5, 1], [], 0), (0, [5], [], 6), (20, [4, 0], [0], 31), (0, [4], [], 305), (22, [3, 2, 1], [0], 0), (90, [3], [], -1), (91, [3], [], 9999), (20, [2, 0], [0], 26), (0, [2], [], 300), (6000, [0, 1], [0], 0), (0, [0], [], 285), (90, [1], [], 0), (91, [1], [], 1007)], (4000, [0, 1, 3, 7, 15, 23, 24, 25], [0], 62)),
  ([(1, [22, 20, 21], [], 0), (0, [21], [], 2), (3, [20, 19, 1], [], 0), (0, [19], [], 6), (20, [18, 0], [0], 31), (0, [18], [], 305), (32, [15], [], 0), (2, [15, 8, 14], [], 0), (22, [14, 9, 13], [0], 0), (90, [14], [], -1), (91, [14], [], 9999), (1, [13, 11, 12], [], 0), (0, [12], [], 1), (3, [11, 10, 1], [], 0), (0, [10], [], 6), (20, [9, 0], [0], 31), (0, [9], [], 305), (0, [8], [], 100), (22, [7, 4, 6], [0], 0), (90, [7], [], -1), (91, [7], [], 9999), (3, [6, 5, 1], [], 0), (0, [5], [], 6), (20, [4, 0], [0], 31), (0, [4], [], 305), (22, [3, 2, 1], [0], 0), (90, [3], [], -1), (91, [3], [], 9999), (20, [2, 0], [0], 26), (0, [2], [], 300), (6000, [0, 1], [0], 0), (0, [0], [], 285), (90, [1], [], 0), (91, [1], [], 1007)], (70, [22], [], 6048)),
  ([(3, [24, 17, 23], [], 0), (22, [23, 18, 22], [0], 0), (90, [23], [], -1), (91, [23], [], 9999), (1, [22, 20, 21], [], 0), (0, [21], [], 2), (3, [20, 19, 1], [], 0), (0, [19], [], 6), (20, [18, 0], [0], 31), (0, [18], [], 305), (0, [17], [], 4), (32, [15], [], 0), (2, [15, 8, 14], [], 0), (22, [14, 9, 13], [0], 0), (90, [14], [], -1), (91, [14], [], 9999), (1, [13, 11, 12], [], 0), (0, [12], [], 1), (3, [11, 10, 1], [], 0), (0, [10], [], 6), (20, [9, 0], [0], 31), (0, [9], [], 305), (0, [8], [], 100), (22, [7, 4, 6], [0], 0), (90, [7], [], -1), (91, [7], [], 9999), (3, [6, 5, 1], [], 0), (0, [5], [], 6), (20, [4, 0], [0], 31), (0, [4], [], 305), (22, [3, 2, 1], [0], 0), (90, [3], [], -1), (91, [3], [], 9999), (20, [2, 0], [0], 26), (0, [2], [], 300), (6000, [0, 1], [0], 0), (0, [0], [], 285), (90, [1], [], 0), (91, [1], [], 1007)], (90, [3], [], 0)),
  ([(3, [24, 17, 23], [], 0), (22, [23, 18, 22], [0], 0), (90, [23], [], -1), (91, [23], [], 9999), (1, [22, 20, 21], [], 0), (0, [21], [], 2), (3, [20, 19, 1], [], 0), (0, [19], [], 6), (20, [18, 0], [0], 31), (0, [18], [], 305), (0, [17], [], 4), (32, [15], [], 0), (2, [15, 8, 14], [], 0), (22, [14, 9, 13], [0], 0), (90, [14], [], -1), (91, [14], [], 9999), (1, [13, 11, 12], [], 0), (0, [12], [], 1), (3, [11, 10, 1], [], 0), (0, [10], [], 6), (20, [9, 0], [0], 31), (0, [9], [], 305), (0, [8], [], 100), (22, [7, 4, 6], [0], 0), (90, [7], [], -1), (91, [7], [], 9999), (3, [6, 5, 1], [], 0), (0, [5], [], 6), (20, [4, 0], [0], 31), (0, [4], [], 305), (22, [3, 2, 1], [0], 0), (90, [3], [], -1), (91, [3], [], 9999), (20, [2, 0], [0], 26), (0, [2], [], 300), (6000, [0, 1], [0], 0), (0, [0], [], 285), (90, [1], [], 0), (91, [1], [], 1007)], (91, [3], [], 2)),
  ([(3, [24, 17, 23], [], 0), (22, [23, 18, 22], [0], 0), (90, [23], [], -1), (91, [23], [], 9999), (1, [22, 20, 21], [], 0), (0, [21], [], 2), (3, [20, 19, 1], [], 0), (0, [19], [], 6), (20, [18, 0], [0], 31), (0, [18], [], 305), (0, [17], [], 4), (32, [15], [], 0), (2, [15, 8, 14], [], 0), (22, [14, 9, 13], [0], 0), (90, [14], [], -1), (91, [14], [], 9999), (1, [13, 11, 12], [], 0), (0, [12], [], 1), (3, [11, 10, 1], [], 0), (0, [10], [], 6), (20, [9, 0], [0], 31), (0, [9], [], 305), (0, [8], [], 100), (22, [7, 4, 6], [0], 0), (90, [7], [], -1), (91, [7], [], 9999), (3, [6, 5, 1], [], 0), (0, [5], [], 6), (20, [4, 0], [0], 31), (0, [4], [], 305), (22, [3, 2, 1], [0], 0), (90, [3], [], -1), (91, [3], [], 9999), (20, [2, 0], [0], 26), (0, [2], [], 300), (6000, [0, 1], [0], 0), (0, [0], [], 285), (90, [1], [], 0), (91, [1], [], 1007)], (90, [7], [], 0)),
  ([(3, [24, 17, 23], [], 0), (22, [23, 18, 22], [0], 0), (90, [23], [], -1), (91, [23], [], 9999), (1, [22, 20, 21], [], 0), (0, [21], [], 2), (3, [20, 19, 1], [], 0), (0, [19], [], 6), (20, [18, 0], [0], 31), (0, [18], [], 305), (0, [17], [], 4), (32, [15], [], 0), (2, [15, 8, 14], [], 0), (22, [14, 9, 13], [0], 0), (90, [14], [], -1), (91, [14], [], 9999), (1, [13, 11, 12], [], 0), (0, [12], [], 1), (3, [11, 10, 1], [], 0), (0, [10], [], 6), (20, [9, 0], [0], 31), (0, [9], [], 305), (0, [8], [], 100), (22, [7, 4, 6], [0], 0), (90, [7], [], -1), (91, [7], [], 9999), (3, [6, 5, 1], [], 0), (0, [5], [], 6), (20, [4, 0], [0], 31), (0, [4], [], 305), (22, [3, 2, 1], [0], 0), (90, [3], [], -1), (91, [3], [], 9999), (20, [2, 0], [0], 26), (0, [2], [], 300), (6000, [0, 1], [0], 0), (0, [0], [], 285), (90, [1], [], 0), (91, [1], [], 1007)], (91, [7], [], 2)),
  ([(0, [26], [], 0), (0, [25], [], -1), (3, [24, 17, 23], [], 0), (22, [23, 18, 22], [0], 0), (90, [23], [], -1), (91, [23], [], 9999), (1, [22, 20, 21], [], 0), (0, [21], [], 2), (3, [20, 19, 1], [], 0), (0, [19], [], 6), (20, [18, 0], [0], 31), (0, [18], [], 305), (0, [17], [], 4), (0, [16], [], 0), (32, [15], [], 0), (2, [15, 8, 14], [], 0), (22, [14, 9, 13], [0], 0), (90, [14], [], -1), (91, [14], [], 9999), (1, [13, 11, 12], [], 0), (0, [12], [], 1), (3, [11, 10, 1], [], 0), (0, [10], [], 6), (20, [9, 0], [0], 31), (0, [9], [], 305), (0, [8], [], 100), (22, [7, 4, 6], [0], 0), (90, [7], [], -1), (91, [7], [], 9999), (3, [6, 5, 1], [], 0), (0, [5], [], 6), (20, [4, 0], [0], 31), (0, [4], [], 305), (22, [3, 2, 1], [0], 0), (90, [3], [], -1), (91, [3], [], 9999), (20, [2, 0], [0], 26), (0, [2], [], 300), (6000, [0, 1], [0], 0), (0, [0], [], 285), (90, [1], [], 0), (91, [1], [], 1007)], (4000, [0, 1, 3, 7, 16, 24, 25, 26], [0], 62))]
theorem r_276_s : vCovO true (eR0 e_276 L_276 cs_276 2000) p_276_s = true := by decide +kernel
theorem kF_276_285_93 : vFree s_276.2.2.2.2 285 93 = true := by decide +kernel
theorem q_276_14 {q0 : Nat} {n0 n1 n2 n3 n4 n5 n6 n7 n8 n9 n10 n11 n12 n13 : Int} {H0 H1 : gH} (f0 : n0 ≤ 240) (f1 : 0 ≤ n0) (f2 : n1 ≤ 2147483647) (f3 : (-2147483648) ≤ n1) (f4 : n2 ≤ 2147483647) (f5 : (-2147483648) ≤ n2) (f6 : n3 ≤ 2147483647) (f7 : (-2147483648) ≤ n3) (f8 : n4 ≤ 2) (f9 : 0 ≤ n4) (f10 : n5 ≤ 2) (f11 : 0 ≤ n5) (f12 : n6 ≤ 1007) (f13 : 0 ≤ n6) (f14 : n7 = 285) (f15 : n8 ≤ 1007) (f16 : 0 ≤ n8) (f17 : n9 = 285) (f18 : (hLe T0 H0 H1 ∧ hFr s_276.2.2.2.2 H0 H1 ∧ hWt T0 H1) ∧ (Ab_276_62 n9 n8 n7 n6 n5 n4 n3 n2 n1 n0 H0 H1 ∧ preb_276 n9 n8 H0) ∧ some q0 = some (mub_276_62 n9 n8 n7 n6 n5 n4 n3 n2 n1 n0 H0 H1)) (f19 : n10 ≤ 240) (f20 : 0 ≤ n10) (f21 : n10 = hV H1 (n7).toNat 93) (f22 : n0 < n10) (f23 : n11 = 240) (f24 : n12 = w32 (n11 * n4)) (f25 : n13 = w32 (n12 + n0)) : 0 ≤ n13 ∧ n13 < 720 := by
  have g4 := f18.2.1.1
  unfold Ab_276_62 at g4
  have g3 := f18.2.1.2
  unfold preb_276 at g3
  have e1 : n10 = hV H0 285 93 := (by rw [f14] at f21; exact f21 : n10 = hV H1 285 93).trans ((f18.1.2.1.1 285 93 kF_276_285_93))
  have k0 := g4
  have p0 := g3.1
  have p1 := g3.2.1
  have p2 := g3.2.2.1
  have p3 := g3.2.2.2
  clear g3
  clear g4
  clear f21
  subst e1
  rw [f23] at f24
  first
  | (have ix0 : n12 = 240 * n4 := Eq.trans f24 (w32_iv (Iml 240 rfl (Iat f9 f8)) (by decide)); subst ix0; clear f24)
  | (have ix0 : n12 = 240 * n4 := Eq.trans f24 (w32_id (by omega) (by omega)); subst ix0; clear f24)
  | (unfold w32 at f24; have ix0 : n12 = 240 * n4 := (by omega); subst ix0)
  | skip
  first
  | (have ix1 : n13 = (240 * n4) + n0 := Eq.trans f25 (w32_iv (Iad (Iml 240 rfl (Iat f9 f8)) (Iat f1 f0)) (by decide)); subst ix1; clear f25)
  | (have ix1 : n13 = (240 * n4) + n0 := Eq.trans f25 (w32_id (by omega) (by omega)); subst ix1; clear f25)
  | (unfold w32 at f25; have ix1 : n13 = (240 * n4) + n0 := (by omega); subst ix1)
  | skip
  try unfold w32 at f24
  try unfold w32 at f25
  try subst k0
  omega
theorem c_276_62_0 {q0 : Nat} : vOkm T0 (eP e_276 L_276 A_276 mu_276 (some q0)) 2 ([(1, [14, 13, 9], [], 0), (3, [13, 12, 5], [], 0), (0, [12], [], 240), (42, [9, 10], [], 0), (20, [10, 2], [1], 93), (90, [10], [], 0), (91, [10], [], 240), (5000, [0, 1, 2, 3, 4, 5, 6, 7, 8, 9], [0, 1], 62), (0, [0], [], 285), (90, [1], [], 0), (91, [1], [], 1007), (0, [2], [], 285), (90, [3], [], 0), (91, [3], [], 1007), (90, [4], [], 0), (91, [4], [], 2), (90, [5], [], 0), (91, [5], [], 2), (90, [6], [], -2147483648), (91, [6], [], 2147483647), (90, [7], [], -2147483648), (91, [7], [], 2147483647), (90, [8], [], -2147483648), (91, [8], [], 2147483647), (90, [9], [], 0), (91, [9], [], 240)], (70, [14], [], 720)) := vOk_inI fun ρ η f0 f1 f2 f3 f4 f5 f6 f7 f8 f9 f10 f11 f12 f13 f14 f15 f16 f17 f18 f19 f20 f21 f22 f23 f24 f25 => q_276_14 (q0 := q0) (n0 := ρ 9) (n1 := ρ 8) (n2 := ρ 7) (n3 := ρ 6) (n4 := ρ 5) (n5 := ρ 4) (n6 := ρ 3) (n7 := ρ 2) (n8 := ρ 1) (n9 := ρ 0) (n10 := ρ 10) (n11 := ρ 12) (n12 := ρ 13) (n13 := ρ 14) (H0 := η 0) (H1 := η 1) f25 f24 f23 f22 f21 f20 f19 f18 f17 f16 f15 f14 f13 f12 f11 f10 f9 f8 f7 f6 f5 f4 f3 f2 f1 f0
theorem q_276_15 {q0 : Nat} {n0 n1 n2 n3 n4 n5 n6 n7 n8 n9 n10 n11 n12 n13 n14 n15 : Int} {H0 H1 : gH} (f0 : n0 ≤ 240) (f1 : 0 ≤ n0) (f2 : n1 ≤ 2147483647) (f3 : (-2147483648) ≤ n1) (f4 : n2 ≤ 2147483647) (f5 : (-2147483648) ≤ n2) (f6 : n3 ≤ 2147483647) (f7 : (-2147483648) ≤ n3) (f8 : n4 ≤ 2) (f9 : 0 ≤ n4) (f10 : n5 ≤ 2) (f11 : 0 ≤ n5) (f12 : n6 ≤ 1007) (f13 : 0 ≤ n6) (f14 : n7 = 285) (f15 : n8 ≤ 1007) (f16 : 0 ≤ n8) (f17 : n9 = 285) (f18 : (hLe T0 H0 H1 ∧ hFr s_276.2.2.2.2 H0 H1 ∧ hWt T0 H1) ∧ (Ab_276_62 n9 n8 n7 n6 n5 n4 n3 n2 n1 n0 H0 H1 ∧ preb_276 n9 n8 H0) ∧ some q0 = some (mub_276_62 n9 n8 n7 n6 n5 n4 n3 n2 n1 n0 H0 H1)) (f19 : n10 ≤ 240) (f20 : 0 ≤ n10) (f21 : n10 = hV H1 (n7).toNat 93) (f22 : n0 < n10) (f23 : n11 = 240) (f24 : n12 = w32 (n11 * n4)) (f25 : n13 = w32 (n12 + n0)) (f26 : n14 = (-1)) (f27 : n1 = n14) (f28 : n15 = w32 (n0 + 1)) : 0 ≤ n15 := by
  have g4 := f18.2.1.1
  unfold Ab_276_62 at g4
  have g3 := f18.2.1.2
  unfold preb_276 at g3
  have e1 : n10 = hV H0 285 93 := (by rw [f14] at f21; exact f21 : n10 = hV H1 285 93).trans ((f18.1.2.1.1 285 93 kF_276_285_93))
  have k0 := g4
  have p0 := g3.1
  have p1 := g3.2.1
  have p2 := g3.2.2.1
  have p3 := g3.2.2.2
  clear g3
  clear g4
  clear f21
  subst e1
  rw [f23] at f24
  first
  | (have ix0 : n15 = n0 + 1 := Eq.trans f28 (w32_iv (Iad (Iat f1 f0) (IC 1)) (by decide)); subst ix0; clear f28)
  | (have ix0 : n15 = n0 + 1 := Eq.trans f28 (w32_id (by omega) (by omega)); subst ix0; clear f28)
  | (unfold w32 at f28; have ix0 : n15 = n0 + 1 := (by omega); subst ix0)
  | skip
  try unfold w32 at f24
  try unfold w32 at f25
  try unfold w32 at f28
  try subst k0
  omega
theorem c_276_62_1 {q0 : Nat} : vOkm T0 (eP e_276 L_276 A_276 mu_276 (some q0)) 2 ([(10, [17, 9], [], 1), (40, [8, 16], [], 0), (0, [16], [], -1), (1, [14, 13, 9], [], 0), (3, [13, 12, 5], [], 0), (0, [12], [], 240), (42, [9, 10], [], 0), (20, [10, 2], [1], 93), (90, [10], [], 0), (91, [10], [], 240), (5000, [0, 1, 2, 3, 4, 5, 6, 7, 8, 9], [0, 1], 62), (0, [0], [], 285), (90, [1], [], 0), (91, [1], [], 1007), (0, [2], [], 285), (90, [3], [], 0), (91, [3], [], 1007), (90, [4], [], 0), (91, [4], [], 2), (90, [5], [], 0), (91, [5], [], 2), (90, [6], [], -2147483648), (91, [6], [], 2147483647), (90, [7], [], -2147483648), (91, [7], [], 2147483647), (90, [8], [], -2147483648), (91, [8], [], 2147483647), (90, [9], [], 0), (91, [9], [], 240)], (90, [17], [], 0)) := vOk_inI fun ρ η f0 f1 f2 f3 f4 f5 f6 f7 f8 f9 f10 f11 f12 f13 f14 f15 f16 f17 f18 f19 f20 f21 f22 f23 f24 f25 f26 f27 f28 => q_276_15 (q0 := q0) (n0 := ρ 9) (n1 := ρ 8) (n2 := ρ 7) (n3 := ρ 6) (n4 := ρ 5) (n5 := ρ 4) (n6 := ρ 3) (n7 := ρ 2) (n8 := ρ 1) (n9 := ρ 0) (n10 := ρ 10) (n11 := ρ 12) (n12 := ρ 13) (n13 := ρ 14) (n14 := ρ 16) (n15 := ρ 17) (H0 := η 0) (H1 := η 1) f28 f27 f26 f25 f24 f23 f22 f21 f20 f19 f18 f17 f16 f15 f14 f13 f12 f11 f10 f9 f8 f7 f6 f5 f4 f3 f2 f1 f0
theorem q_276_16 {q0 : Nat} {n0 n1 n2 n3 n4 n5 n6 n7 n8 n9 n10 n11 n12 n13 n14 n15 : Int} {H0 H1 : gH} (f0 : n0 ≤ 240) (f1 : 0 ≤ n0) (f2 : n1 ≤ 2147483647) (f3 : (-2147483648) ≤ n1) (f4 : n2 ≤ 2147483647) (f5 : (-2147483648) ≤ n2) (f6 : n3 ≤ 2147483647) (f7 : (-2147483648) ≤ n3) (f8 : n4 ≤ 2) (f9 : 0 ≤ n4) (f10 : n5 ≤ 2) (f11 : 0 ≤ n5) (f12 : n6 ≤ 1007) (f13 : 0 ≤ n6) (f14 : n7 = 285) (f15 : n8 ≤ 1007) (f16 : 0 ≤ n8) (f17 : n9 = 285) (f18 : (hLe T0 H0 H1 ∧ hFr s_276.2.2.2.2 H0 H1 ∧ hWt T0 H1) ∧ (Ab_276_62 n9 n8 n7 n6 n5 n4 n3 n2 n1 n0 H0 H1 ∧ preb_276 n9 n8 H0) ∧ some q0 = some (mub_276_62 n9 n8 n7 n6 n5 n4 n3 n2 n1 n0 H0 H1)) (f19 : n10 ≤ 240) (f20 : 0 ≤ n10) (f21 : n10 = hV H1 (n7).toNat 93) (f22 : n0 < n10) (f23 : n11 = 240) (f24 : n12 = w32 (n11 * n4)) (f25 : n13 = w32 (n12 + n0)) (f26 : n14 = (-1)) (f27 : n1 = n14) (f28 : n15 = w32 (n0 + 1)) : n15 ≤ 240 := by
  have g4 := f18.2.1.1
  unfold Ab_276_62 at g4
  have g3 := f18.2.1.2
  unfold preb_276 at g3
  have e1 : n10 = hV H0 285 93 := (by rw [f14] at f21; exact f21 : n10 = hV H1 285 93).trans ((f18.1.2.1.1 285 93 kF_276_285_93))
  have k0 := g4
  have p0 := g3.1
  have p1 := g3.2.1
  have p2 := g3.2.2.1
  have p3 := g3.2.2.2
  clear g3
  clear g4
  clear f21
  subst e1
  rw [f23] at f24
  first
  | (have ix0 : n15 = n0 + 1 := Eq.trans f28 (w32_iv (Iad (Iat f1 f0) (IC 1)) (by decide)); subst ix0; clear f28)
  | (have ix0 : n15 = n0 + 1 := Eq.trans f28 (w32_id (by omega) (by omega)); subst ix0; clear f28)
  | (unfold w32 at f28; have ix0 : n15 = n0 + 1 := (by omega); subst ix0)
  | skip
  try unfold w32 at f24
  try unfold w32 at f25
  try unfold w32 at f28
  try subst k0
  omega
theorem c_276_62_2 {q0 : Nat} : vOkm T0 (eP e_276 L_276 A_276 mu_276 (some q0)) 2 ([(10, [17, 9], [], 1), (40, [8, 16], [], 0), (0, [16], [], -1), (1, [14, 13, 9], [], 0), (3, [13, 12, 5], [], 0), (0, [12], [], 240), (42, [9, 10], [], 0), (20, [10, 2], [1], 93), (90, [10], [], 0), (91, [10], [], 240), (5000, [0, 1, 2, 3, 4, 5, 6, 7, 8, 9], [0, 1], 62), (0, [0], [], 285), (90, [1], [], 0), (91, [1], [], 1007), (0, [2], [], 285), (90, [3], [], 0), (91, [3], [], 1007), (90, [4], [], 0), (91, [4], [], 2), (90, [5], [], 0), (91, [5], [], 2), (90, [6], [], -2147483648), (91, [6], [], 2147483647), (90, [7], [], -2147483648), (91, [7], [], 2147483647), (90, [8], [], -2147483648), (91, [8], [], 2147483647), (90, [9], [], 0), (91, [9], [], 240)], (91, [17], [], 240)) := vOk_inI fun ρ η f0 f1 f2 f3 f4 f5 f6 f7 f8 f9 f10 f11 f12 f13 f14 f15 f16 f17 f18 f19 f20 f21 f22 f23 f24 f25 f26 f27 f28 => q_276_16 (q0 := q0) (n0 := ρ 9) (n1 := ρ 8) (n2 := ρ 7) (n3 := ρ 6) (n4 := ρ 5) (n5 := ρ 4) (n6 := ρ 3) (n7 := ρ 2) (n8 := ρ 1) (n9 := ρ 0) (n10 := ρ 10) (n11 := ρ 12) (n12 := ρ 13) (n13 := ρ 14) (n14 := ρ 16) (n15 := ρ 17) (H0 := η 0) (H1 := η 1) f28 f27 f26 f25 f24 f23 f22 f21 f20 f19 f18 f17 f16 f15 f14 f13 f12 f11 f10 f9 f8 f7 f6 f5 f4 f3 f2 f1 f0
theorem q_276_17 {q0 : Nat} {n0 n1 n2 n3 n4 n5 n6 n7 n8 n9 n10 n11 n12 n13 n14 n15 : Int} {H0 H1 : gH} (f0 : n0 ≤ 240) (f1 : 0 ≤ n0) (f2 : n1 ≤ 2147483647) (f3 : (-2147483648) ≤ n1) (f4 : n2 ≤ 2147483647) (f5 : (-2147483648) ≤ n2) (f6 : n3 ≤ 2147483647) (f7 : (-2147483648) ≤ n3) (f8 : n4 ≤ 2) (f9 : 0 ≤ n4) (f10 : n5 ≤ 2) (f11 : 0 ≤ n5) (f12 : n6 ≤ 1007) (f13 : 0 ≤ n6) (f14 : n7 = 285) (f15 : n8 ≤ 1007) (f16 : 0 ≤ n8) (f17 : n9 = 285) (f18 : (hLe T0 H0 H1 ∧ hFr s_276.2.2.2.2 H0 H1 ∧ hWt T0 H1) ∧ (Ab_276_62 n9 n8 n7 n6 n5 n4 n3 n2 n1 n0 H0 H1 ∧ preb_276 n9 n8 H0) ∧ some q0 = some (mub_276_62 n9 n8 n7 n6 n5 n4 n3 n2 n1 n0 H0 H1)) (f19 : n10 ≤ 240) (f20 : 0 ≤ n10) (f21 : n10 = hV H1 (n7).toNat 93) (f22 : n0 < n10) (f23 : n11 = 240) (f24 : n12 = w32 (n11 * n4)) (f25 : n13 = w32 (n12 + n0)) (f26 : n14 = (-1)) (f27 : n1 = n14) (f28 : n15 = w32 (n0 + 1)) : Ab_276_62 n9 n8 n7 n6 n5 n4 n3 n2 n1 n15 H0 H1 ∧ ∀ q, some q0 = some q → mub_276_62 n9 n8 n7 n6 n5 n4 n3 n2 n1 n15 H0 H1 < q := by
  have g4 := f18.2.1.1
  unfold Ab_276_62 at g4
  have g3 := f18.2.1.2
  unfold preb_276 at g3
  have g5 := Option.some.inj f18.2.2
  unfold mub_276_62 at g5
  unfold Ab_276_62
  unfold mub_276_62
  have e1 : n10 = hV H0 285 93 := (by rw [f14] at f21; exact f21 : n10 = hV H1 285 93).trans ((f18.1.2.1.1 285 93 kF_276_285_93))
  have k0 := g4
  have p0 := g3.1
  have p1 := g3.2.1
  have p2 := g3.2.2.1
  have p3 := g3.2.2.2
  clear g3
  clear g4
  clear f21
  subst e1
  rw [f23] at f24
  first
  | (have ix0 : n15 = n0 + 1 := Eq.trans f28 (w32_iv (Iad (Iat f1 f0) (IC 1)) (by decide)); subst ix0; clear f28)
  | (have ix0 : n15 = n0 + 1 := Eq.trans f28 (w32_id (by omega) (by omega)); subst ix0; clear f28)
  | (unfold w32 at f28; have ix0 : n15 = n0 + 1 := (by omega); subst ix0)
  | skip
  try unfold w32 at f24
  try unfold w32 at f25
  try unfold w32 at f28
  try subst k0
  refine ⟨?_, fun q hq => ?_⟩
  · first | assumption | omega | trivial
  · have g6 := Option.some.inj hq
    subst g6
    omega
theorem c_276_62_3 {q0 : Nat} : vOkm T0 (eP e_276 L_276 A_276 mu_276 (some q0)) 2 ([(10, [17, 9], [], 1), (40, [8, 16], [], 0), (0, [16], [], -1), (1, [14, 13, 9], [], 0), (3, [13, 12, 5], [], 0), (0, [12], [], 240), (42, [9, 10], [], 0), (20, [10, 2], [1], 93), (90, [10], [], 0), (91, [10], [], 240), (5000, [0, 1, 2, 3, 4, 5, 6, 7, 8, 9], [0, 1], 62), (0, [0], [], 285), (90, [1], [], 0), (91, [1], [], 1007), (0, [2], [], 285), (90, [3], [], 0), (91, [3], [], 1007), (90, [4], [], 0), (91, [4], [], 2), (90, [5], [], 0), (91, [5], [], 2), (90, [6], [], -2147483648), (91, [6], [], 2147483647), (90, [7], [], -2147483648), (91, [7], [], 2147483647), (90, [8], [], -2147483648), (91, [8], [], 2147483647), (90, [9], [], 0), (91, [9], [], 240)], (4000, [2, 3, 4, 5, 6, 7, 8, 17], [1], 62)) := vOk_inI fun ρ η f0 f1 f2 f3 f4 f5 f6 f7 f8 f9 f10 f11 f12 f13 f14 f15 f16 f17 f18 f19 f20 f21 f22 f23 f24 f25 f26 f27 f28 => q_276_17 (q0 := q0) (n0 := ρ 9) (n1 := ρ 8) (n2 := ρ 7) (n3 := ρ 6) (n4 := ρ 5) (n5 := ρ 4) (n6 := ρ 3) (n7 := ρ 2) (n8 := ρ 1) (n9 := ρ 0) (n10 := ρ 10) (n11 := ρ 12) (n12 := ρ 13) (n13 := ρ 14) (n14 := ρ 16) (n15 := ρ 17) (H0 := η 0) (H1 := η 1) f28 f27 f26 f25 f24 f23 f22 f21 f20 f19 f18 f17 f16 f15 f14 f13 f12 f11 f10 f9 f8 f7 f6 f5 f4 f3 f2 f1 f0
theorem q_276_18 {q0 : Nat} {n0 n1 n2 n3 n4 n5 n6 n7 n8 n9 n10 n11 n12 n13 n14 n15 n16 : Int} {H0 H1 : gH} (f0 : n0 ≤ 240) (f1 : 0 ≤ n0) (f2 : n1 ≤ 2147483647) (f3 : (-2147483648) ≤ n1) (f4 : n2 ≤ 2147483647) (f5 : (-2147483648) ≤ n2) (f6 : n3 ≤ 2147483647) (f7 : (-2147483648) ≤ n3) (f8 : n4 ≤ 2) (f9 : 0 ≤ n4) (f10 : n5 ≤ 2) (f11 : 0 ≤ n5) (f12 : n6 ≤ 1007) (f13 : 0 ≤ n6) (f14 : n7 = 285) (f15 : n8 ≤ 1007) (f16 : 0 ≤ n8) (f17 : n9 = 285) (f18 : (hLe T0 H0 H1 ∧ hFr s_276.2.2.2.2 H0 H1 ∧ hWt T0 H1) ∧ (Ab_276_62 n9 n8 n7 n6 n5 n4 n3 n2 n1 n0 H0 H1 ∧ preb_276 n9 n8 H0) ∧ some q0 = some (mub_276_62 n9 n8 n7 n6 n5 n4 n3 n2 n1 n0 H0 H1)) (f19 : n10 ≤ 240) (f20 : 0 ≤ n10) (f21 : n10 = hV H1 (n7).toNat 93) (f22 : n0 < n10) (f23 : n11 = 240) (f24 : n12 = w32 (n11 * n4)) (f25 : n13 = w32 (n12 + n0)) (f26 : n14 = (-1)) (f27 : n1 ≠ n14) (f28 : n15 = w32 (n0 - n1)) (f29 : n2 < n15) (f30 : n16 = w32 (n0 + 1)) : 0 ≤ n16 := by
  have g4 := f18.2.1.1
  unfold Ab_276_62 at g4
  have g3 := f18.2.1.2
  unfold preb_276 at g3
  have e1 : n10 = hV H0 285 93 := (by rw [f14] at f21; exact f21 : n10 = hV H1 285 93).trans ((f18.1.2.1.1 285 93 kF_276_285_93))
  have k0 := g4
  have p0 := g3.1
  have p1 := g3.2.1
  have p2 := g3.2.2.1
  have p3 := g3.2.2.2
  clear g3
  clear g4
  clear f21
  subst e1
  rw [f23] at f24
  first
  | (have ix0 : n16 = n0 + 1 := Eq.trans f30 (w32_iv (Iad (Iat f1 f0) (IC 1)) (by decide)); subst ix0; clear f30)
  | (have ix0 : n16 = n0 + 1 := Eq.trans f30 (w32_id (by omega) (by omega)); subst ix0; clear f30)
  | (unfold w32 at f30; have ix0 : n16 = n0 + 1 := (by omega); subst ix0)
  | skip
  try unfold w32 at f24
  try unfold w32 at f25
  try unfold w32 at f28
  try unfold w32 at f30
  try subst k0
  omega
theorem c_276_62_4 {q0 : Nat} : vOkm T0 (eP e_276 L_276 A_276 mu_276 (some q0)) 2 ([(10, [18, 9], [], 1), (44, [17, 7], [], 0), (2, [17, 9, 8], [], 0), (41, [8, 16], [], 0), (0, [16], [], -1), (1, [14, 13, 9], [], 0), (3, [13, 12, 5], [], 0), (0, [12], [], 240), (42, [9, 10], [], 0), (20, [10, 2], [1], 93), (90, [10], [], 0), (91, [10], [], 240), (5000, [0, 1, 2, 3, 4, 5, 6, 7, 8, 9], [0, 1], 62), (0, [0], [], 285), (90, [1], [], 0), (91, [1], [], 1007), (0, [2], [], 285), (90, [3], [], 0), (91, [3], [], 1007), (90, [4], [], 0), (91, [4], [], 2), (90, [5], [], 0), (91, [5], [], 2), (90, [6], [], -2147483648), (91, [6], [], 2147483647), (90, [7], [], -2147483648), (91, [7], [], 2147483647), (90, [8], [], -2147483648), (91, [8], [], 2147483647), (90, [9], [], 0), (91, [9], [], 240)], (90, [18], [], 0)) := vOk_inI fun ρ η f0 f1 f2 f3 f4 f5 f6 f7 f8 f9 f10 f11 f12 f13 f14 f15 f16 f17 f18 f19 f20 f21 f22 f23 f24 f25 f26 f27 f28 f29 f30 => q_276_18 (q0 := q0) (n0 := ρ 9) (n1 := ρ 8) (n2 := ρ 7) (n3 := ρ 6) (n4 := ρ 5) (n5 := ρ 4) (n6 := ρ 3) (n7 := ρ 2) (n8 := ρ 1) (n9 := ρ 0) (n10 := ρ 10) (n11 := ρ 12) (n12 := ρ 13) (n13 := ρ 14) (n14 := ρ 16) (n15 := ρ 17) (n16 := ρ 18) (H0 := η 0) (H1 := η 1) f30 f29 f28 f27 f26 f25 f24 f23 f22 f21 f20 f19 f18 f17 f16 f15 f14 f13 f12 f11 f10 f9 f8 f7 f6 f5 f4 f3 f2 f1 f0
theorem q_276_19 {q0 : Nat} {n0 n1 n2 n3 n4 n5 n6 n7 n8 n9 n10 n11 n12 n13 n14 n15 n16 : Int} {H0 H1 : gH} (f0 : n0 ≤ 240) (f1 : 0 ≤ n0) (f2 : n1 ≤ 2147483647) (f3 : (-2147483648) ≤ n1) (f4 : n2 ≤ 2147483647) (f5 : (-2147483648) ≤ n2) (f6 : n3 ≤ 2147483647) (f7 : (-2147483648) ≤ n3) (f8 : n4 ≤ 2) (f9 : 0 ≤ n4) (f10 : n5 ≤ 2) (f11 : 0 ≤ n5) (f12 : n6 ≤ 1007) (f13 : 0 ≤ n6) (f14 : n7 = 285) (f15 : n8 ≤ 1007) (f16 : 0 ≤ n8) (f17 : n9 = 285) (f18 : (hLe T0 H0 H1 ∧ hFr s_276.2.2.2.2 H0 H1 ∧ hWt T0 H1) ∧ (Ab_276_62 n9 n8 n7 n6 n5 n4 n3 n2 n1 n0 H0 H1 ∧ preb_276 n9 n8 H0) ∧ some q0 = some (mub_276_62 n9 n8 n7 n6 n5 n4 n3 n2 n1 n0 H0 H1)) (f19 : n10 ≤ 240) (f20 : 0 ≤ n10) (f21 : n10 = hV H1 (n7).toNat 93) (f22 : n0 < n10) (f23 : n11 = 240) (f24 : n12 = w32 (n11 * n4)) (f25 : n13 = w32 (n12 + n0)) (f26 : n14 = (-1)) (f27 : n1 ≠ n14) (f28 : n15 = w32 (n0 - n1)) (f29 : n2 < n15) (f30 : n16 = w32 (n0 + 1)) : n16 ≤ 240 := by
  have g4 := f18.2.1.1
  unfold Ab_276_62 at g4
  have g3 := f18.2.1.2
  unfold preb_276 at g3
  have e1 : n10 = hV H0 285 93 := (by rw [f14] at f21; exact f21 : n10 = hV H1 285 93).trans ((f18.1.2.1.1 285 93 kF_276_285_93))
  have k0 := g4
  have p0 := g3.1
  have p1 := g3.2.1
  have p2 := g3.2.2.1
  have p3 := g3.2.2.2
  clear g3
  clear g4
  clear f21
  subst e1
  rw [f23] at f24
  first
  | (have ix0 : n16 = n0 + 1 := Eq.trans f30 (w32_iv (Iad (Iat f1 f0) (IC 1)) (by decide)); subst ix0; clear f30)
  | (have ix0 : n16 = n0 + 1 := Eq.trans f30 (w32_id (by omega) (by omega)); subst ix0; clear f30)
  | (unfold w32 at f30; have ix0 : n16 = n0 + 1 := (by omega); subst ix0)
  | skip
  try unfold w32 at f24
  try unfold w32 at f25
  try unfold w32 at f28
  try unfold w32 at f30
  try subst k0
  omega
theorem c_276_62_5 {q0 : Nat} : vOkm T0 (eP e_276 L_276 A_276 mu_276 (some q0)) 2 ([(10, [18, 9], [], 1), (44, [17, 7], [], 0), (2, [17, 9, 8], [], 0), (41, [8, 16], [], 0), (0, [16], [], -1), (1, [14, 13, 9], [], 0), (3, [13, 12, 5], [], 0), (0, [12], [], 240), (42, [9, 10], [], 0), (20, [10, 2], [1], 93), (90, [10], [], 0), (91, [10], [], 240), (5000, [0, 1, 2, 3, 4, 5, 6, 7, 8, 9], [0, 1], 62), (0, [0], [], 285), (90, [1], [], 0), (91, [1], [], 1007), (0, [2], [], 285), (90, [3], [], 0), (91, [3], [], 1007), (90, [4], [], 0), (91, [4], [], 2), (90, [5], [], 0), (91, [5], [], 2), (90, [6], [], -2147483648), (91, [6], [], 2147483647), (90, [7], [], -2147483648), (91, [7], [], 2147483647), (90, [8], [], -2147483648), (91, [8], [], 2147483647), (90, [9], [], 0), (91, [9], [], 240)], (91, [18], [], 240)) := vOk_inI fun ρ η f0 f1 f2 f3 f4 f5 f6 f7 f8 f9 f10 f11 f12 f13 f14 f15 f16 f17 f18 f19 f20 f21 f22 f23 f24 f25 f26 f27 f28 f29 f30 => q_276_19 (q0 := q0) (n0 := ρ 9) (n1 := ρ 8) (n2 := ρ 7) (n3 := ρ 6) (n4 := ρ 5) (n5 := ρ 4) (n6 := ρ 3) (n7 := ρ 2) (n8 := ρ 1) (n9 := ρ 0) (n10 := ρ 10) (n11 := ρ 12) (n12 := ρ 13) (n13 := ρ 14) (n14 := ρ 16) (n15 := ρ 17) (n16 := ρ 18) (H0 := η 0) (H1 := η 1) f30 f29 f28 f27 f26 f25 f24 f23 f22 f21 f20 f19 f18 f17 f16 f15 f14 f13 f12 f11 f10 f9 f8 f7 f6 f5 f4 f3 f2 f1 f0
theorem q_276_20 {q0 : Nat} {n0 n1 n2 n3 n4 n5 n6 n7 n8 n9 n10 n11 n12 n13 n14 n15 n16 : Int} {H0 H1 : gH} (f0 : n0 ≤ 240) (f1 : 0 ≤ n0) (f2 : n1 ≤ 2147483647) (f3 : (-2147483648) ≤ n1) (f4 : n2 ≤ 2147483647) (f5 : (-2147483648) ≤ n2) (f6 : n3 ≤ 2147483647) (f7 : (-2147483648) ≤ n3) (f8 : n4 ≤ 2) (f9 : 0 ≤ n4) (f10 : n5 ≤ 2) (f11 : 0 ≤ n5) (f12 : n6 ≤ 1007) (f13 : 0 ≤ n6) (f14 : n7 = 285) (f15 : n8 ≤ 1007) (f16 : 0 ≤ n8) (f17 : n9 = 285) (f18 : (hLe T0 H0 H1 ∧ hFr s_276.2.2.2.2 H0 H1 ∧ hWt T0 H1) ∧ (Ab_276_62 n9 n8 n7 n6 n5 n4 n3 n2 n1 n0 H0 H1 ∧ preb_276 n9 n8 H0) ∧ some q0 = some (mub_276_62 n9 n8 n7 n6 n5 n4 n3 n2 n1 n0 H0 H1)) (f19 : n10 ≤ 240) (f20 : 0 ≤ n10) (f21 : n10 = hV H1 (n7).toNat 93) (f22 : n0 < n10) (f23 : n11 = 240) (f24 : n12 = w32 (n11 * n4)) (f25 : n13 = w32 (n12 + n0)) (f26 : n14 = (-1)) (f27 : n1 ≠ n14) (f28 : n15 = w32 (n0 - n1)) (f29 : n2 < n15) (f30 : n16 = w32 (n0 + 1)) : Ab_276_62 n9 n8 n7 n6 n5 n4 n3 n2 n1 n16 H0 H1 ∧ ∀ q, some q0 = some q → mub_276_62 n9 n8 n7 n6 n5 n4 n3 n2 n1 n16 H0 H1 < q := by
  have g4 := f18.2.1.1
  unfold Ab_276_62 at g4
  have g3 := f18.2.1.2
  unfold preb_276 at g3
  have g5 := Option.some.inj f18.2.2
  unfold mub_276_62 at g5
  unfold Ab_276_62
  unfold mub_276_62
  have e1 : n10 = hV H0 285 93 := (by rw [f14] at f21; exact f21 : n10 = hV H1 285 93).trans ((f18.1.2.1.1 285 93 kF_276_285_93))
  have k0 := g4
  have p0 := g3.1
  have p1 := g3.2.1
  have p2 := g3.2.2.1
  have p3 := g3.2.2.2
  clear g3
  clear g4
  clear f21
  subst e1
  rw [f23] at f24
  first
  | (have ix0 : n16 = n0 + 1 := Eq.trans f30 (w32_iv (Iad (Iat f1 f0) (IC 1)) (by decide)); subst ix0; clear f30)
  | (have ix0 : n16 = n0 + 1 := Eq.trans f30 (w32_id (by omega) (by omega)); subst ix0; clear f30)
  | (unfold w32 at f30; have ix0 : n16 = n0 + 1 := (by omega); subst ix0)
  | skip
  try unfold w32 at f24
  try unfold w32 at f25
  try unfold w32 at f28
  try unfold w32 at f30
  try subst k0
  refine ⟨?_, fun q hq => ?_⟩
  · first | assumption | omega | trivial
  · have g6 := Option.some.inj hq
    subst g6
    omega
theorem c_276_62_6 {q0 : Nat} : vOkm T0 (eP e_276 L_276 A_276 mu_276 (some q0)) 2 ([(10, [18, 9], [], 1), (44, [17, 7], [], 0), (2, [17, 9, 8], [], 0), (41, [8, 16], [], 0), (0, [16], [], -1), (1, [14, 13, 9], [], 0), (3, [13, 12, 5], [], 0), (0, [12], [], 240), (42, [9, 10], [], 0), (20, [10, 2], [1], 93), (90, [10], [], 0), (91, [10], [], 240), (5000, [0, 1, 2, 3, 4, 5, 6, 7, 8, 9], [0, 1], 62), (0, [0], [], 285), (90, [1], [], 0), (91, [1], [], 1007), (0, [2], [], 285), (90, [3], [], 0), (91, [3], [], 1007), (90, [4], [], 0), (91, [4], [], 2), (90, [5], [], 0), (91, [5], [], 2), (90, [6], [], -2147483648), (91, [6], [], 2147483647), (90, [7], [], -2147483648), (91, [7], [], 2147483647), (90, [8], [], -2147483648), (91, [8], [], 2147483647), (90, [9], [], 0), (91, [9], [], 240)], (4000, [2, 3, 4, 5, 6, 7, 8, 18], [1], 62)) := vOk_inI fun ρ η f0 f1 f2 f3 f4 f5 f6 f7 f8 f9 f10 f11 f12 f13 f14 f15 f16 f17 f18 f19 f20 f21 f22 f23 f24 f25 f26 f27 f28 f29 f30 => q_276_20 (q0 := q0) (n0 := ρ 9) (n1 := ρ 8) (n2 := ρ 7) (n3 := ρ 6) (n4 := ρ 5) (n5 := ρ 4) (n6 := ρ 3) (n7 := ρ 2) (n8 := ρ 1) (n9 := ρ 0) (n10 := ρ 10) (n11 := ρ 12) (n12 := ρ 13) (n13 := ρ 14) (n14 := ρ 16) (n15 := ρ 17) (n16 := ρ 18) (H0 := η 0) (H1 := η 1) f30 f29 f28 f27 f26 f25 f24 f23 f22 f21 f20 f19 f18 f17 f16 f15 f14 f13 f12 f11 f10 f9 f8 f7 f6 f5 f4 f3 f2 f1 f0
theorem q_276_21 {q0 : Nat} {n0 n1 n2 n3 n4 n5 n6 n7 n8 n9 n10 n11 n12 n13 n14 n15 n16 n17 n18 n19 n20 n21 : Int} {H0 H1 : gH} (f0 : n0 ≤ 240) (f1 : 0 ≤ n0) (f2 : n1 ≤ 2147483647) (f3 : (-2147483648) ≤ n1) (f4 : n2 ≤ 2147483647) (f5 : (-2147483648) ≤ n2) (f6 : n3 ≤ 2147483647) (f7 : (-2147483648) ≤ n3) (f8 : n4 ≤ 2) (f9 : 0 ≤ n4) (f10 : n5 ≤ 2) (f11 : 0 ≤ n5) (f12 : n6 ≤ 1007) (f13 : 0 ≤ n6) (f14 : n7 = 285) (f15 : n8 ≤ 1007) (f16 : 0 ≤ n8) (f17 : n9 = 285) (f18 : (hLe T0 H0 H1 ∧ hFr s_276.2.2.2.2 H0 H1 ∧ hWt T0 H1) ∧ (Ab_276_62 n9 n8 n7 n6 n5 n4 n3 n2 n1 n0 H0 H1 ∧ preb_276 n9 n8 H0) ∧ some q0 = some (mub_276_62 n9 n8 n7 n6 n5 n4 n3 n2 n1 n0 H0 H1)) (f19 : n10 ≤ 240) (f20 : 0 ≤ n10) (f21 : n10 = hV H1 (n7).toNat 93) (f22 : n0 < n10) (f23 : n11 = 240) (f24 : n12 = w32 (n11 * n4)) (f25 : n13 = w32 (n12 + n0)) (f26 : n14 = (-1)) (f27 : n1 ≠ n14) (f28 : n15 = w32 (n0 - n1)) (f29 : n15 ≤ n2) (f30 : n16 = 240) (f31 : n17 = w32 (n16 * n5)) (f32 : n18 = w32 (n17 + n0)) (f33 : n19 = 240) (f34 : n20 = w32 (n19 * n5)) (f35 : n21 = w32 (n20 + n0)) : 0 ≤ n21 ∧ n21 < 720 := by
  have g4 := f18.2.1.1
  unfold Ab_276_62 at g4
  have g3 := f18.2.1.2
  unfold preb_276 at g3
  have e1 : n10 = hV H0 285 93 := (by rw [f14] at f21; exact f21 : n10 = hV H1 285 93).trans ((f18.1.2.1.1 285 93 kF_276_285_93))
  have k0 := g4
  have p0 := g3.1
  have p1 := g3.2.1
  have p2 := g3.2.2.1
  have p3 := g3.2.2.2
  clear g3
  clear g4
  clear f21
  subst e1
  rw [f23] at f24
  rw [f30] at f31
  rw [f33] at f34
  first
  | (have ix0 : n20 = 240 * n5 := Eq.trans f34 (w32_iv (Iml 240 rfl (Iat f11 f10)) (by decide)); subst ix0; clear f34)
  | (have ix0 : n20 = 240 * n5 := Eq.trans f34 (w32_id (by omega) (by omega)); subst ix0; clear f34)
  | (unfold w32 at f34; have ix0 : n20 = 240 * n5 := (by omega); subst ix0)
  | skip
  first
  | (have ix1 : n21 = (240 * n5) + n0 := Eq.trans f35 (w32_iv (Iad (Iml 240 rfl (Iat f11 f10)) (Iat f1 f0)) (by decide)); subst ix1; clear f35)
  | (have ix1 : n21 = (240 * n5) + n0 := Eq.trans f35 (w32_id (by omega) (by omega)); subst ix1; clear f35)
  | (unfold w32 at f35; have ix1 : n21 = (240 * n5) + n0 := (by omega); subst ix1)
  | skip
  try unfold w32 at f24
  try unfold w32 at f25
  try unfold w32 at f28
  try unfold w32 at f31
  try unfold w32 at f32
  try unfold w32 at f34
  try unfold w32 at f35
  try subst k0
  omega
theorem c_276_62_7 {q0 : Nat} : vOkm T0 (eP e_276 L_276 A_276 mu_276 (some q0)) 2 ([(1, [25, 24, 9], [], 0), (3, [24, 23, 4], [], 0), (0, [23], [], 240), (1, [21, 20, 9], [], 0), (3, [20, 19, 4], [], 0), (0, [19], [], 240), (45, [17, 7], [], 0), (2, [17, 9, 8], [], 0), (41, [8, 16], [], 0), (0, [16], [], -1), (1, [14, 13, 9], [], 0), (3, [13, 12, 5], [], 0), (0, [12], [], 240), (42, [9, 10], [], 0), (20, [10, 2], [1], 93), (90, [10], [], 0), (91, [10], [], 240), (5000, [0, 1, 2, 3, 4, 5, 6, 7, 8, 9], [0, 1], 62), (0, [0], [], 285), (90, [1], [], 0), (91, [1], [], 1007), (0, [2], [], 285), (90, [3], [], 0), (91, [3], [], 1007), (90, [4], [], 0), (91, [4], [], 2), (90, [5], [], 0), (91, [5], [], 2), (90, [6], [], -2147483648), (91, [6], [], 2147483647), (90, [7], [], -2147483648), (91, [7], [], 2147483647), (90, [8], [], -2147483648), (91, [8], [], 2147483647), (90, [9], [], 0), (91, [9], [], 240)], (70, [25], [], 720)) := vOk_inI fun ρ η f0 f1 f2 f3 f4 f5 f6 f7 f8 f9 f10 f11 f12 f13 f14 f15 f16 f17 f18 f19 f20 f21 f22 f23 f24 f25 f26 f27 f28 f29 f30 f31 f32 f33 f34 f35 => q_276_21 (q0 := q0) (n0 := ρ 9) (n1 := ρ 8) (n2 := ρ 7) (n3 := ρ 6) (n4 := ρ 5) (n5 := ρ 4) (n6 := ρ 3) (n7 := ρ 2) (n8 := ρ 1) (n9 := ρ 0) (n10 := ρ 10) (n11 := ρ 12) (n12 := ρ 13) (n13 := ρ 14) (n14 := ρ 16) (n15 := ρ 17) (n16 := ρ 19) (n17 := ρ 20) (n18 := ρ 21) (n19 := ρ 23) (n20 := ρ 24) (n21 := ρ 25) (H0 := η 0) (H1 := η 1) f35 f34 f33 f32 f31 f30 f29 f28 f27 f26 f25 f24 f23 f22 f21 f20 f19 f18 f17 f16 f15 f14 f13 f12 f11 f10 f9 f8 f7 f6 f5 f4 f3 f2 f1 f0
theorem q_276_22 {q0 : Nat} {n0 n1 n2 n3 n4 n5 n6 n7 n8 n9 n10 n11 n12 n13 n14 n15 n16 n17 n18 n19 n20 n21 n22 : Int} {H0 H1 : gH} (f0 : n0 ≤ 240) (f1 : 0 ≤ n0) (f2 : n1 ≤ 2147483647) (f3 : (-2147483648) ≤ n1) (f4 : n2 ≤ 2147483647) (f5 : (-2147483648) ≤ n2) (f6 : n3 ≤ 2147483647) (f7 : (-2147483648) ≤ n3) (f8 : n4 ≤ 2) (f9 : 0 ≤ n4) (f10 : n5 ≤ 2) (f11 : 0 ≤ n5) (f12 : n6 ≤ 1007) (f13 : 0 ≤ n6) (f14 : n7 = 285) (f15 : n8 ≤ 1007) (f16 : 0 ≤ n8) (f17 : n9 = 285) (f18 : (hLe T0 H0 H1 ∧ hFr s_276.2.2.2.2 H0 H1 ∧ hWt T0 H1) ∧ (Ab_276_62 n9 n8 n7 n6 n5 n4 n3 n2 n1 n0 H0 H1 ∧ preb_276 n9 n8 H0) ∧ some q0 = some (mub_276_62 n9 n8 n7 n6 n5 n4 n3 n2 n1 n0 H0 H1)) (f19 : n10 ≤ 240) (f20 : 0 ≤ n10) (f21 : n10 = hV H1 (n7).toNat 93) (f22 : n0 < n10) (f23 : n11 = 240) (f24 : n12 = w32 (n11 * n4)) (f25 : n13 = w32 (n12 + n0)) (f26 : n14 = (-1)) (f27 : n1 ≠ n14) (f28 : n15 = w32 (n0 - n1)) (f29 : n15 ≤ n2) (f30 : n16 = 240) (f31 : n17 = w32 (n16 * n5)) (f32 : n18 = w32 (n17 + n0)) (f33 : n19 = 240) (f34 : n20 = w32 (n19 * n5)) (f35 : n21 = w32 (n20 + n0)) (f36 : n22 = n3) : 0 ≤ n18 ∧ n18 < 720 := by
  have g4 := f18.2.1.1
  unfold Ab_276_62 at g4
  have g3 := f18.2.1.2
  unfold preb_276 at g3
  have e1 : n10 = hV H0 285 93 := (by rw [f14] at f21; exact f21 : n10 = hV H1 285 93).trans ((f18.1.2.1.1 285 93 kF_276_285_93))
  have k0 := g4
  have p0 := g3.1
  have p1 := g3.2.1
  have p2 := g3.2.2.1
  have p3 := g3.2.2.2
  clear g3
  clear g4
  clear f21
  subst e1
  rw [f23] at f24
  rw [f30] at f31
  rw [f33] at f34
  first
  | (have ix0 : n17 = 240 * n5 := Eq.trans f31 (w32_iv (Iml 240 rfl (Iat f11 f10)) (by decide)); subst ix0; clear f31)
  | (have ix0 : n17 = 240 * n5 := Eq.trans f31 (w32_id (by omega) (by omega)); subst ix0; clear f31)
  | (unfold w32 at f31; have ix0 : n17 = 240 * n5 := (by omega); subst ix0)
  | skip
  first
  | (have ix1 : n18 = (240 * n5) + n0 := Eq.trans f32 (w32_iv (Iad (Iml 240 rfl (Iat f11 f10)) (Iat f1 f0)) (by decide)); subst ix1; clear f32)
  | (have ix1 : n18 = (240 * n5) + n0 := Eq.trans f32 (w32_id (by omega) (by omega)); subst ix1; clear f32)
  | (unfold w32 at f32; have ix1 : n18 = (240 * n5) + n0 := (by omega); subst ix1)
  | skip
  try unfold w32 at f24
  try unfold w32 at f25
  try unfold w32 at f28
  try unfold w32 at f31
  try unfold w32 at f32
  try unfold w32 at f34
  try unfold w32 at f35
  try subst k0
  omega
theorem c_276_62_8 {q0 : Nat} : vOkm T0 (eP e_276 L_276 A_276 mu_276 (some q0)) 2 ([(17, [27, 6], [], 0), (1, [25, 24, 9], [], 0), (3, [24, 23, 4], [], 0), (0, [23], [], 240), (1, [21, 20, 9], [], 0), (3, [20, 19, 4], [], 0), (0, [19], [], 240), (45, [17, 7], [], 0), (2, [17, 9, 8], [], 0), (41, [8, 16], [], 0), (0, [16], [], -1), (1, [14, 13, 9], [], 0), (3, [13, 12, 5], [], 0), (0, [12], [], 240), (42, [9, 10], [], 0), (20, [10, 2], [1], 93), (90, [10], [], 0), (91, [10], [], 240), (5000, [0, 1, 2, 3, 4, 5, 6, 7, 8, 9], [0, 1], 62), (0, [0], [], 285), (90, [1], [], 0), (91, [1], [], 1007), (0, [2], [], 285), (90, [3], [], 0), (91, [3], [], 1007), (90, [4], [], 0), (91, [4], [], 2), (90, [5], [], 0), (91, [5], [], 2), (90, [6], [], -2147483648), (91, [6], [], 2147483647), (90, [7], [], -2147483648), (91, [7], [], 2147483647), (90, [8], [], -2147483648), (91, [8], [], 2147483647), (90, [9], [], 0), (91, [9], [], 240)], (70, [21], [], 720)) := vOk_inI fun ρ η f0 f1 f2 f3 f4 f5 f6 f7 f8 f9 f10 f11 f12 f13 f14 f15 f16 f17 f18 f19 f20 f21 f22 f23 f24 f25 f26 f27 f28 f29 f30 f31 f32 f33 f34 f35 f36 => q_276_22 (q0 := q0) (n0 := ρ 9) (n1 := ρ 8) (n2 := ρ 7) (n3 := ρ 6) (n4 := ρ 5) (n5 := ρ 4) (n6 := ρ 3) (n7 := ρ 2) (n8 := ρ 1) (n9 := ρ 0) (n10 := ρ 10) (n11 := ρ 12) (n12 := ρ 13) (n13 := ρ 14) (n14 := ρ 16) (n15 := ρ 17) (n16 := ρ 19) (n17 := ρ 20) (n18 := ρ 21) (n19 := ρ 23) (n20 := ρ 24) (n21 := ρ 25) (n22 := ρ 27) (H0 := η 0) (H1 := η 1) f36 f35 f34 f33 f32 f31 f30 f29 f28 f27 f26 f25 f24 f23 f22 f21 f20 f19 f18 f17 f16 f15 f14 f13 f12 f11 f10 f9 f8 f7 f6 f5 f4 f3 f2 f1 f0
theorem q_276_23 {q0 : Nat} {n0 n1 n2 n3 n4 n5 n6 n7 n8 n9 n10 n11 n12 n13 n14 n15 n16 n17 n18 n19 n20 n21 n22 n23 : Int} {H0 H1 : gH} (f0 : n0 ≤ 240) (f1 : 0 ≤ n0) (f2 : n1 ≤ 2147483647) (f3 : (-2147483648) ≤ n1) (f4 : n2 ≤ 2147483647) (f5 : (-2147483648) ≤ n2) (f6 : n3 ≤ 2147483647) (f7 : (-2147483648) ≤ n3) (f8 : n4 ≤ 2) (f9 : 0 ≤ n4) (f10 : n5 ≤ 2) (f11 : 0 ≤ n5) (f12 : n6 ≤ 1007) (f13 : 0 ≤ n6) (f14 : n7 = 285) (f15 : n8 ≤ 1007) (f16 : 0 ≤ n8) (f17 : n9 = 285) (f18 : (hLe T0 H0 H1 ∧ hFr s_276.2.2.2.2 H0 H1 ∧ hWt T0 H1) ∧ (Ab_276_62 n9 n8 n7 n6 n5 n4 n3 n2 n1 n0 H0 H1 ∧ preb_276 n9 n8 H0) ∧ some q0 = some (mub_276_62 n9 n8 n7 n6 n5 n4 n3 n2 n1 n0 H0 H1)) (f19 : n10 ≤ 240) (f20 : 0 ≤ n10) (f21 : n10 = hV H1 (n7).toNat 93) (f22 : n0 < n10) (f23 : n11 = 240) (f24 : n12 = w32 (n11 * n4)) (f25 : n13 = w32 (n12 + n0)) (f26 : n14 = (-1)) (f27 : n1 ≠ n14) (f28 : n15 = w32 (n0 - n1)) (f29 : n15 ≤ n2) (f30 : n16 = 240) (f31 : n17 = w32 (n16 * n5)) (f32 : n18 = w32 (n17 + n0)) (f33 : n19 = 240) (f34 : n20 = w32 (n19 * n5)) (f35 : n21 = w32 (n20 + n0)) (f36 : n22 = n3) (f37 : n23 = w32 (n0 + 1)) : 0 ≤ n23 := by
  have g4 := f18.2.1.1
  unfold Ab_276_62 at g4
  have g3 := f18.2.1.2
  unfold preb_276 at g3
  have e1 : n10 = hV H0 285 93 := (by rw [f14] at f21; exact f21 : n10 = hV H1 285 93).trans ((f18.1.2.1.1 285 93 kF_276_285_93))
  have k0 := g4
  have p0 := g3.1
  have p1 := g3.2.1
  have p2 := g3.2.2.1
  have p3 := g3.2.2.2
  clear g3
  clear g4
  clear f21
  subst e1
  rw [f23] at f24
  rw [f30] at f31
  rw [f33] at f34
  first
  | (have ix0 : n23 = n0 + 1 := Eq.trans f37 (w32_iv (Iad (Iat f1 f0) (IC 1)) (by decide)); subst ix0; clear f37)
  | (have ix0 : n23 = n0 + 1 := Eq.trans f37 (w32_id (by omega) (by omega)); subst ix0; clear f37)
  | (unfold w32 at f37; have ix0 : n23 = n0 + 1 := (by omega); subst ix0)
  | skip
  try unfold w32 at f24
  try unfold w32 at f25
  try unfold w32 at f28
  try unfold w32 at f31
  try unfold w32 at f32
  try unfold w32 at f34
  try unfold w32 at f35
  try unfold w32 at f37
  try subst k0
  omega
theorem c_276_62_9 {q0 : Nat} : vOkm T0 (eP e_276 L_276 A_276 mu_276 (some q0)) 2 ([(10, [31, 9], [], 1), (17, [27, 6], [], 0), (1, [25, 24, 9], [], 0), (3, [24, 23, 4], [], 0), (0, [23], [], 240), (1, [21, 20, 9], [], 0), (3, [20, 19, 4], [], 0), (0, [19], [], 240), (45, [17, 7], [], 0), (2, [17, 9, 8], [], 0), (41, [8, 16], [], 0), (0, [16], [], -1), (1, [14, 13, 9], [], 0), (3, [13, 12, 5], [], 0), (0, [12], [], 240), (42, [9, 10], [], 0), (20, [10, 2], [1], 93), (90, [10], [], 0), (91, [10], [], 240), (5000, [0, 1, 2, 3, 4, 5, 6, 7, 8, 9], [0, 1], 62), (0, [0], [], 285), (90, [1], [], 0), (91, [1], [], 1007), (0, [2], [], 285), (90, [3], [], 0), (91, [3], [], 1007), (90, [4], [], 0), (91, [4], [], 2), (90, [5], [], 0), (91, [5], [], 2), (90, [6], [], -2147483648), (91, [6], [], 2147483647), (90, [7], [], -2147483648), (91, [7], [], 2147483647), (90, [8], [], -2147483648), (91, [8], [], 2147483647), (90, [9], [], 0), (91, [9], [], 240)], (90, [31], [], 0)) := vOk_inI fun ρ η f0 f1 f2 f3 f4 f5 f6 f7 f8 f9 f10 f11 f12 f13 f14 f15 f16 f17 f18 f19 f20 f21 f22 f23 f24 f25 f26 f27 f28 f29 f30 f31 f32 f33 f34 f35 f36 f37 => q_276_23 (q0 := q0) (n0 := ρ 9) (n1 := ρ 8) (n2 := ρ 7) (n3 := ρ 6) (n4 := ρ 5) (n5 := ρ 4) (n6 := ρ 3) (n7 := ρ 2) (n8 := ρ 1) (n9 := ρ 0) (n10 := ρ 10) (n11 := ρ 12) (n12 := ρ 13) (n13 := ρ 14) (n14 := ρ 16) (n15 := ρ 17) (n16 := ρ 19) (n17 := ρ 20) (n18 := ρ 21) (n19 := ρ 23) (n20 := ρ 24) (n21 := ρ 25) (n22 := ρ 27) (n23 := ρ 31) (H0 := η 0) (H1 := η 1) f37 f36 f35 f34 f33 f32 f31 f30 f29 f28 f27 f26 f25 f24 f23 f22 f21 f20 f19 f18 f17 f16 f15 f14 f13 f12 f11 f10 f9 f8 f7 f6 f5 f4 f3 f2 f1 f0
theorem q_276_24 {q0 : Nat} {n0 n1 n2 n3 n4 n5 n6 n7 n8 n9 n10 n11 n12 n13 n14 n15 n16 n17 n18 n19 n20 n21 n22 n23 : Int} {H0 H1 : gH} (f0 : n0 ≤ 240) (f1 : 0 ≤ n0) (f2 : n1 ≤ 2147483647) (f3 : (-2147483648) ≤ n1) (f4 : n2 ≤ 2147483647) (f5 : (-2147483648) ≤ n2) (f6 : n3 ≤ 2147483647) (f7 : (-2147483648) ≤ n3) (f8 : n4 ≤ 2) (f9 : 0 ≤ n4) (f10 : n5 ≤ 2) (f11 : 0 ≤ n5) (f12 : n6 ≤ 1007) (f13 : 0 ≤ n6) (f14 : n7 = 285) (f15 : n8 ≤ 1007) (f16 : 0 ≤ n8) (f17 : n9 = 285) (f18 : (hLe T0 H0 H1 ∧ hFr s_276.2.2.2.2 H0 H1 ∧ hWt T0 H1) ∧ (Ab_276_62 n9 n8 n7 n6 n5 n4 n3 n2 n1 n0 H0 H1 ∧ preb_276 n9 n8 H0) ∧ some q0 = some (mub_276_62 n9 n8 n7 n6 n5 n4 n3 n2 n1 n0 H0 H1)) (f19 : n10 ≤ 240) (f20 : 0 ≤ n10) (f21 : n10 = hV H1 (n7).toNat 93) (f22 : n0 < n10) (f23 : n11 = 240) (f24 : n12 = w32 (n11 * n4)) (f25 : n13 = w32 (n12 + n0)) (f26 : n14 = (-1)) (f27 : n1 ≠ n14) (f28 : n15 = w32 (n0 - n1)) (f29 : n15 ≤ n2) (f30 : n16 = 240) (f31 : n17 = w32 (n16 * n5)) (f32 : n18 = w32 (n17 + n0)) (f33 : n19 = 240) (f34 : n20 = w32 (n19 * n5)) (f35 : n21 = w32 (n20 + n0)) (f36 : n22 = n3) (f37 : n23 = w32 (n0 + 1)) : n23 ≤ 240 := by
  have g4 := f18.2.1.1
  unfold Ab_276_62 at g4
  have g3 := f18.2.1.2
  unfold preb_276 at g3
  have e1 : n10 = hV H0 285 93 := (by rw [f14] at f21; exact f21 : n10 = hV H1 285 93).trans ((f18.1.2.1.1 285 93 kF_276_285_93))
  have k0 := g4
  have p0 := g3.1
  have p1 := g3.2.1
  have p2 := g3.2.2.1
  have p3 := g3.2.2.2
  clear g3
  clear g4
  clear f21
  subst e1
  rw [f23] at f24
  rw [f30] at f31
  rw [f33] at f34
  first
  | (have ix0 : n23 = n0 + 1 := Eq.trans f37 (w32_iv (Iad (Iat f1 f0) (IC 1)) (by decide)); subst ix0; clear f37)
  | (have ix0 : n23 = n0 + 1 := Eq.trans f37 (w32_id (by omega) (by omega)); subst ix0; clear f37)
  | (unfold w32 at f37; have ix0 : n23 = n0 + 1 := (by omega); subst ix0)
  | skip
  try unfold w32 at f24
  try unfold w32 at f25
  try unfold w32 at f28
  try unfold w32 at f31
  try unfold w32 at f32
  try unfold w32 at f34
  try unfold w32 at f35
  try unfold w32 at f37
  try subst k0
  omega
theorem c_276_62_10 {q0 : Nat} : vOkm T0 (eP e_276 L_276 A_276 mu_276 (some q0)) 2 ([(10, [31, 9], [], 1), (17, [27, 6], [], 0), (1, [25, 24, 9], [], 0), (3, [24, 23, 4], [], 0), (0, [23], [], 240), (1, [21, 20, 9], [], 0), (3, [20, 19, 4], [], 0), (0, [19], [], 240), (45, [17, 7], [], 0), (2, [17, 9, 8], [], 0), (41, [8, 16], [], 0), (0, [16], [], -1), (1, [14, 13, 9], [], 0), (3, [13, 12, 5], [], 0), (0, [12], [], 240), (42, [9, 10], [], 0), (20, [10, 2], [1], 93), (90, [10], [], 0), (91, [10], [], 240), (5000, [0, 1, 2, 3, 4, 5, 6, 7, 8, 9], [0, 1], 62), (0, [0], [], 285), (90, [1], [], 0), (91, [1], [], 1007), (0, [2], [], 285), (90, [3], [], 0), (91, [3], [], 1007), (90, [4], [], 0), (91, [4], [], 2), (90, [5], [], 0), (91, [5], [], 2), (90, [6], [], -2147483648), (91, [6], [], 2147483647), (90, [7], [], -2147483648), (91, [7], [], 2147483647), (90, [8], [], -2147483648), (91, [8], [], 2147483647), (90, [9], [], 0), (91, [9], [], 240)], (91, [31], [], 240)) := vOk_inI fun ρ η f0 f1 f2 f3 f4 f5 f6 f7 f8 f9 f10 f11 f12 f13 f14 f15 f16 f17 f18 f19 f20 f21 f22 f23 f24 f25 f26 f27 f28 f29 f30 f31 f32 f33 f34 f35 f36 f37 => q_276_24 (q0 := q0) (n0 := ρ 9) (n1 := ρ 8) (n2 := ρ 7) (n3 := ρ 6) (n4 := ρ 5) (n5 := ρ 4) (n6 := ρ 3) (n7 := ρ 2) (n8 := ρ 1) (n9 := ρ 0) (n10 := ρ 10) (n11 := ρ 12) (n12 := ρ 13) (n13 := ρ 14) (n14 := ρ 16) (n15 := ρ 17) (n16 := ρ 19) (n17 := ρ 20) (n18 := ρ 21) (n19 := ρ 23) (n20 := ρ 24) (n21 := ρ 25) (n22 := ρ 27) (n23 := ρ 31) (H0 := η 0) (H1 := η 1) f37 f36 f35 f34 f33 f32 f31 f30 f29 f28 f27 f26 f25 f24 f23 f22 f21 f20 f19 f18 f17 f16 f15 f14 f13 f12 f11 f10 f9 f8 f7 f6 f5 f4 f3 f2 f1 f0
theorem q_276_25 {q0 : Nat} {n0 n1 n2 n3 n4 n5 n6 n7 n8 n9 n10 n11 n12 n13 n14 n15 n16 n17 n18 n19 n20 n21 n22 n23 n24 n25 n26 n27 n28 n29 : Int} {H0 H1 H2 : gH} (f0 : n0 ≤ 240) (f1 : 0 ≤ n0) (f2 : n1 ≤ 2147483647) (f3 : (-2147483648) ≤ n1) (f4 : n2 ≤ 2147483647) (f5 : (-2147483648) ≤ n2) (f6 : n3 ≤ 2147483647) (f7 : (-2147483648) ≤ n3) (f8 : n4 ≤ 2) (f9 : 0 ≤ n4) (f10 : n5 ≤ 2) (f11 : 0 ≤ n5) (f12 : n6 ≤ 1007) (f13 : 0 ≤ n6) (f14 : n7 = 285) (f15 : n8 ≤ 1007) (f16 : 0 ≤ n8) (f17 : n9 = 285) (f18 : (hLe T0 H0 H1 ∧ hFr s_276.2.2.2.2 H0 H1 ∧ hWt T0 H1) ∧ (Ab_276_62 n9 n8 n7 n6 n5 n4 n3 n2 n1 n0 H0 H1 ∧ preb_276 n9 n8 H0) ∧ some q0 = some (mub_276_62 n9 n8 n7 n6 n5 n4 n3 n2 n1 n0 H0 H1)) (f19 : n10 ≤ 240) (f20 : 0 ≤ n10) (f21 : n10 = hV H1 (n7).toNat 93) (f22 : n0 < n10) (f23 : n11 = 240) (f24 : n12 = w32 (n11 * n4)) (f25 : n13 = w32 (n12 + n0)) (f26 : n14 = (-1)) (f27 : n1 ≠ n14) (f28 : n15 = w32 (n0 - n1)) (f29 : n15 ≤ n2) (f30 : n16 = 349) (f31 : n16 = hV H1 (n7).toNat 89) (f32 : n17 = 240) (f33 : n18 = w32 (n17 * n5)) (f34 : n19 = w32 (n18 + n0)) (f35 : n20 = 349) (f36 : n20 = hV H1 (n7).toNat 89) (f37 : n21 = 240) (f38 : n22 = w32 (n21 * n5)) (f39 : n23 = w32 (n22 + n0)) (f40 : n24 = hV H1 (n20).toNat (n23).toNat) (f41 : n25 = n3) (f42 : n26 = o64 (fun x y => x * y) n24 n25) (f43 : n27 = 100) (f44 : n28 = o64 (fun x y => x / y) n26 n27) (f45 : hUpd H2 H1 n16 n19 n28) (f46 : n29 = w32 (n0 + 1)) : Ab_276_62 n9 n8 n7 n6 n5 n4 n3 n2 n1 n29 H0 H2 ∧ ∀ q, some q0 = some q → mub_276_62 n9 n8 n7 n6 n5 n4 n3 n2 n1 n29 H0 H2 < q := by
  have g4 := f18.2.1.1
  unfold Ab_276_62 at g4
  have g3 := f18.2.1.2
  unfold preb_276 at g3
  have g5 := Option.some.inj f18.2.2
  unfold mub_276_62 at g5
  unfold Ab_276_62
  unfold mub_276_62
  have e1 : n10 = hV H0 285 93 := (by rw [f14] at f21; exact f21 : n10 = hV H1 285 93).trans ((f18.1.2.1.1 285 93 kF_276_285_93))
  have e2 : n24 = hV H1 349 (n23).toNat := (by rw [f35] at f40; exact f40 : n24 = hV H1 349 (n23).toNat)
  have k0 := g4
  have p0 := g3.1
  have p1 := g3.2.1
  have p2 := g3.2.2.1
  have p3 := g3.2.2.2
  clear g3
  clear g4
  clear f21 f31 f36 f40
  subst e1
  subst e2
  rw [f23] at f24
  rw [f32] at f33
  rw [f37] at f38
  first
  | (have ix0 : n18 = 240 * n5 := Eq.trans f33 (w32_iv (Iml 240 rfl (Iat f11 f10)) (by decide)); subst ix0; clear f33)
  | (have ix0 : n18 = 240 * n5 := Eq.trans f33 (w32_id (by omega) (by omega)); subst ix0; clear f33)
  | (unfold w32 at f33; have ix0 : n18 = 240 * n5 := (by omega); subst ix0)
  | skip
  first
  | (have ix1 : n19 = (240 * n5) + n0 := Eq.trans f34 (w32_iv (Iad (Iml 240 rfl (Iat f11 f10)) (Iat f1 f0)) (by decide)); subst ix1; clear f34)
  | (have ix1 : n19 = (240 * n5) + n0 := Eq.trans f34 (w32_id (by omega) (by omega)); subst ix1; clear f34)
  | (unfold w32 at f34; have ix1 : n19 = (240 * n5) + n0 := (by omega); subst ix1)
  | skip
  first
  | (have ix2 : n22 = 240 * n5 := Eq.trans f38 (w32_iv (Iml 240 rfl (Iat f11 f10)) (by decide)); subst ix2; clear f38)
  | (have ix2 : n22 = 240 * n5 := Eq.trans f38 (w32_id (by omega) (by omega)); subst ix2; clear f38)
  | (unfold w32 at f38; have ix2 : n22 = 240 * n5 := (by omega); subst ix2)
  | skip
  first
  | (have ix3 : n23 = (240 * n5) + n0 := Eq.trans f39 (w32_iv (Iad (Iml 240 rfl (Iat f11 f10)) (Iat f1 f0)) (by decide)); subst ix3; clear f39)
  | (have ix3 : n23 = (240 * n5) + n0 := Eq.trans f39 (w32_id (by omega) (by omega)); subst ix3; clear f39)
  | (unfold w32 at f39; have ix3 : n23 = (240 * n5) + n0 := (by omega); subst ix3)
  | skip
  first
  | (have ix4 : n29 = n0 + 1 := Eq.trans f46 (w32_iv (Iad (Iat f1 f0) (IC 1)) (by decide)); subst ix4; clear f46)
  | (have ix4 : n29 = n0 + 1 := Eq.trans f46 (w32_id (by omega) (by omega)); subst ix4; clear f46)
  | (unfold w32 at f46; have ix4 : n29 = n0 + 1 := (by omega); subst ix4)
  | skip
  try unfold w32 at f24
  try unfold w32 at f25
  try unfold w32 at f28
  try unfold w32 at f33
  try unfold w32 at f34
  try unfold w32 at f38
  try unfold w32 at f39
  try unfold w32 at f46
  try subst k0
  refine ⟨?_, fun q hq => ?_⟩
  · first | assumption | omega | trivial
  · have g6 := Option.some.inj hq
    subst g6
    omega
theorem c_276_62_11 {q0 : Nat} : vOkm T0 (eP e_276 L_276 A_276 mu_276 (some q0)) 2 ([(10, [31, 9], [], 1), (80, [18, 21, 30], [2, 1], 1), (64, [30, 28, 29], [], 0), (0, [29], [], 100), (63, [28, 26, 27], [], 0), (17, [27, 6], [], 0), (22, [26, 22, 25], [1], 0), (1, [25, 24, 9], [], 0), (3, [24, 23, 4], [], 0), (0, [23], [], 240), (20, [22, 2], [1], 89), (0, [22], [], 349), (1, [21, 20, 9], [], 0), (3, [20, 19, 4], [], 0), (0, [19], [], 240), (20, [18, 2], [1], 89), (0, [18], [], 349), (45, [17, 7], [], 0), (2, [17, 9, 8], [], 0), (41, [8, 16], [], 0), (0, [16], [], -1), (1, [14, 13, 9], [], 0), (3, [13, 12, 5], [], 0), (0, [12], [], 240), (42, [9, 10], [], 0), (20, [10, 2], [1], 93), (90, [10], [], 0), (91, [10], [], 240), (5000, [0, 1, 2, 3, 4, 5, 6, 7, 8, 9], [0, 1], 62), (0, [0], [], 285), (90, [1], [], 0), (91, [1], [], 1007), (0, [2], [], 285), (90, [3], [], 0), (91, [3], [], 1007), (90, [4], [], 0), (91, [4], [], 2), (90, [5], [], 0), (91, [5], [], 2), (90, [6], [], -2147483648), (91, [6], [], 2147483647), (90, [7], [], -2147483648), (91, [7], [], 2147483647), (90, [8], [], -2147483648), (91, [8], [], 2147483647), (90, [9], [], 0), (91, [9], [], 240)], (4000, [2, 3, 4, 5, 6, 7, 8, 31], [2], 62)) := vOk_inI fun ρ η f0 f1 f2 f3 f4 f5 f6 f7 f8 f9 f10 f11 f12 f13 f14 f15 f16 f17 f18 f19 f20 f21 f22 f23 f24 f25 f26 f27 f28 f29 f30 f31 f32 f33 f34 f35 f36 f37 f38 f39 f40 f41 f42 f43 f44 f45 f46 => q_276_25 (q0 := q0) (n0 := ρ 9) (n1 := ρ 8) (n2 := ρ 7) (n3 := ρ 6) (n4 := ρ 5) (n5 := ρ 4) (n6 := ρ 3) (n7 := ρ 2) (n8 := ρ 1) (n9 := ρ 0) (n10 := ρ 10) (n11 := ρ 12) (n12 := ρ 13) (n13 := ρ 14) (n14 := ρ 16) (n15 := ρ 17) (n16 := ρ 18) (n17 := ρ 19) (n18 := ρ 20) (n19 := ρ 21) (n20 := ρ 22) (n21 := ρ 23) (n22 := ρ 24) (n23 := ρ 25) (n24 := ρ 26) (n25 := ρ 27) (n26 := ρ 28) (n27 := ρ 29) (n28 := ρ 30) (n29 := ρ 31) (H0 := η 0) (H1 := η 1) (H2 := η 2) f46 f45 f44 f43 f42 f41 f40 f39 f38 f37 f36 f35 f34 f33 f32 f31 f30 f29 f28 f27 f26 f25 f24 f23 f22 f21 f20 f19 f18 f17 f16 f15 f14 f13 f12 f11 f10 f9 f8 f7 f6 f5 f4 f3 f2 f1 f0
theorem q_276_26 {q0 : Nat} {n0 n1 n2 n3 n4 n5 n6 n7 n8 n9 n10 n11 n12 n13 n14 n15 : Int} {H0 H1 : gH} (f0 : n0 ≤ 240) (f1 : 0 ≤ n0) (f2 : n1 ≤ 2147483647) (f3 : (-2147483648) ≤ n1) (f4 : n2 ≤ 2147483647) (f5 : (-2147483648) ≤ n2) (f6 : n3 ≤ 2147483647) (f7 : (-2147483648) ≤ n3) (f8 : n4 ≤ 2) (f9 : 0 ≤ n4) (f10 : n5 ≤ 2) (f11 : 0 ≤ n5) (f12 : n6 ≤ 1007) (f13 : 0 ≤ n6) (f14 : n7 = 285) (f15 : n8 ≤ 1007) (f16 : 0 ≤ n8) (f17 : n9 = 285) (f18 : (hLe T0 H0 H1 ∧ hFr s_276.2.2.2.2 H0 H1 ∧ hWt T0 H1) ∧ (Ab_276_62 n9 n8 n7 n6 n5 n4 n3 n2 n1 n0 H0 H1 ∧ preb_276 n9 n8 H0) ∧ some q0 = some (mub_276_62 n9 n8 n7 n6 n5 n4 n3 n2 n1 n0 H0 H1)) (f19 : n10 ≤ 240) (f20 : 0 ≤ n10) (f21 : n10 = hV H1 (n7).toNat 93) (f22 : n0 < n10) (f23 : n11 = 240) (f24 : n12 = w32 (n11 * n4)) (f25 : n13 = w32 (n12 + n0)) (f26 : n14 = (-1)) (f27 : n0 = n14) (f28 : n15 = w32 (n0 + 1)) : 0 ≤ n15 := by
  have g4 := f18.2.1.1
  unfold Ab_276_62 at g4
  have g3 := f18.2.1.2
  unfold preb_276 at g3
  have e1 : n10 = hV H0 285 93 := (by rw [f14] at f21; exact f21 : n10 = hV H1 285 93).trans ((f18.1.2.1.1 285 93 kF_276_285_93))
  have k0 := g4
  have p0 := g3.1
  have p1 := g3.2.1
  have p2 := g3.2.2.1
  have p3 := g3.2.2.2
  clear g3
  clear g4
  clear f21
  subst e1
  rw [f23] at f24
  first
  | (have ix0 : n15 = n0 + 1 := Eq.trans f28 (w32_iv (Iad (Iat f1 f0) (IC 1)) (by decide)); subst ix0; clear f28)
  | (have ix0 : n15 = n0 + 1 := Eq.trans f28 (w32_id (by omega) (by omega)); subst ix0; clear f28)
  | (unfold w32 at f28; have ix0 : n15 = n0 + 1 := (by omega); subst ix0)
  | skip
  try unfold w32 at f24
  try unfold w32 at f25
  try unfold w32 at f28
  try subst k0
  omega
theorem c_276_62_12 {q0 : Nat} : vOkm T0 (eP e_276 L_276 A_276 mu_276 (some q0)) 2 ([(10, [17, 9], [], 1), (40, [9, 16], [], 0), (0, [16], [], -1), (1, [14, 13, 9], [], 0), (3, [13, 12, 5], [], 0), (0, [12], [], 240), (42, [9, 10], [], 0), (20, [10, 2], [1], 93), (90, [10], [], 0), (91, [10], [], 240), (5000, [0, 1, 2, 3, 4, 5, 6, 7, 8, 9], [0, 1], 62), (0, [0], [], 285), (90, [1], [], 0), (91, [1], [], 1007), (0, [2], [], 285), (90, [3], [], 0), (91, [3], [], 1007), (90, [4], [], 0), (91, [4], [], 2), (90, [5], [], 0), (91, [5], [], 2), (90, [6], [], -2147483648), (91, [6], [], 2147483647), (90, [7], [], -2147483648), (91, [7], [], 2147483647), (90, [8], [], -2147483648), (91, [8], [], 2147483647), (90, [9], [], 0), (91, [9], [], 240)], (90, [17], [], 0)) := vOk_inI fun ρ η f0 f1 f2 f3 f4 f5 f6 f7 f8 f9 f10 f11 f12 f13 f14 f15 f16 f17 f18 f19 f20 f21 f22 f23 f24 f25 f26 f27 f28 => q_276_26 (q0 := q0) (n0 := ρ 9) (n1 := ρ 8) (n2 := ρ 7) (n3 := ρ 6) (n4 := ρ 5) (n5 := ρ 4) (n6 := ρ 3) (n7 := ρ 2) (n8 := ρ 1) (n9 := ρ 0) (n10 := ρ 10) (n11 := ρ 12) (n12 := ρ 13) (n13 := ρ 14) (n14 := ρ 16) (n15 := ρ 17) (H0 := η 0) (H1 := η 1) f28 f27 f26 f25 f24 f23 f22 f21 f20 f19 f18 f17 f16 f15 f14 f13 f12 f11 f10 f9 f8 f7 f6 f5 f4 f3 f2 f1 f0
theorem q_276_27 {q0 : Nat} {n0 n1 n2 n3 n4 n5 n6 n7 n8 n9 n10 n11 n12 n13 n14 n15 : Int} {H0 H1 : gH} (f0 : n0 ≤ 240) (f1 : 0 ≤ n0) (f2 : n1 ≤ 2147483647) (f3 : (-2147483648) ≤ n1) (f4 : n2 ≤ 2147483647) (f5 : (-2147483648) ≤ n2) (f6 : n3 ≤ 2147483647) (f7 : (-2147483648) ≤ n3) (f8 : n4 ≤ 2) (f9 : 0 ≤ n4) (f10 : n5 ≤ 2) (f11 : 0 ≤ n5) (f12 : n6 ≤ 1007) (f13 : 0 ≤ n6) (f14 : n7 = 285) (f15 : n8 ≤ 1007) (f16 : 0 ≤ n8) (f17 : n9 = 285) (f18 : (hLe T0 H0 H1 ∧ hFr s_276.2.2.2.2 H0 H1 ∧ hWt T0 H1) ∧ (Ab_276_62 n9 n8 n7 n6 n5 n4 n3 n2 n1 n0 H0 H1 ∧ preb_276 n9 n8 H0) ∧ some q0 = some (mub_276_62 n9 n8 n7 n6 n5 n4 n3 n2 n1 n0 H0 H1)) (f19 : n10 ≤ 240) (f20 : 0 ≤ n10) (f21 : n10 = hV H1 (n7).toNat 93) (f22 : n0 < n10) (f23 : n11 = 240) (f24 : n12 = w32 (n11 * n4)) (f25 : n13 = w32 (n12 + n0)) (f26 : n14 = (-1)) (f27 : n0 = n14) (f28 : n15 = w32 (n0 + 1)) : n15 ≤ 240 := by
  have g4 := f18.2.1.1
  unfold Ab_276_62 at g4
  have g3 := f18.2.1.2
  unfold preb_276 at g3
  have e1 : n10 = hV H0 285 93 := (by rw [f14] at f21; exact f21 : n10 = hV H1 285 93).trans ((f18.1.2.1.1 285 93 kF_276_285_93))
  have k0 := g4
  have p0 := g3.1
  have p1 := g3.2.1
  have p2 := g3.2.2.1
  have p3 := g3.2.2.2
  clear g3
  clear g4
  clear f21
  subst e1
  rw [f23] at f24
  first
  | (have ix0 : n15 = n0 + 1 := Eq.trans f28 (w32_iv (Iad (Iat f1 f0) (IC 1)) (by decide)); subst ix0; clear f28)
  | (have ix0 : n15 = n0 + 1 := Eq.trans f28 (w32_id (by omega) (by omega)); subst ix0; clear f28)
  | (unfold w32 at f28; have ix0 : n15 = n0 + 1 := (by omega); subst ix0)
  | skip
  try unfold w32 at f24
  try unfold w32 at f25
  try unfold w32 at f28
  try subst k0
  omega
theorem c_276_62_13 {q0 : Nat} : vOkm T0 (eP e_276 L_276 A_276 mu_276 (some q0)) 2 ([(10, [17, 9], [], 1), (40, [9, 16], [], 0), (0, [16], [], -1), (1, [14, 13, 9], [], 0), (3, [13, 12, 5], [], 0), (0, [12], [], 240), (42, [9, 10], [], 0), (20, [10, 2], [1], 93), (90, [10], [], 0), (91, [10], [], 240), (5000, [0, 1, 2, 3, 4, 5, 6, 7, 8, 9], [0, 1], 62), (0, [0], [], 285), (90, [1], [], 0), (91, [1], [], 1007), (0, [2], [], 285), (90, [3], [], 0), (91, [3], [], 1007), (90, [4], [], 0), (91, [4], [], 2), (90, [5], [], 0), (91, [5], [], 2), (90, [6], [], -2147483648), (91, [6], [], 2147483647), (90, [7], [], -2147483648), (91, [7], [], 2147483647), (90, [8], [], -2147483648), (91, [8], [], 2147483647), (90, [9], [], 0), (91, [9], [], 240)], (91, [17], [], 240)) := vOk_inI fun ρ η f0 f1 f2 f3 f4 f5 f6 f7 f8 f9 f10 f11 f12 f13 f14 f15 f16 f17 f18 f19 f20 f21 f22 f23 f24 f25 f26 f27 f28 => q_276_27 (q0 := q0) (n0 := ρ 9) (n1 := ρ 8) (n2 := ρ 7) (n3 := ρ 6) (n4 := ρ 5) (n5 := ρ 4) (n6 := ρ 3) (n7 := ρ 2) (n8 := ρ 1) (n9 := ρ 0) (n10 := ρ 10) (n11 := ρ 12) (n12 := ρ 13) (n13 := ρ 14) (n14 := ρ 16) (n15 := ρ 17) (H0 := η 0) (H1 := η 1) f28 f27 f26 f25 f24 f23 f22 f21 f20 f19 f18 f17 f16 f15 f14 f13 f12 f11 f10 f9 f8 f7 f6 f5 f4 f3 f2 f1 f0
theorem q_276_28 {q0 : Nat} {n0 n1 n2 n3 n4 n5 n6 n7 n8 n9 n10 n11 n12 n13 n14 n15 : Int} {H0 H1 : gH} (f0 : n0 ≤ 240) (f1 : 0 ≤ n0) (f2 : n1 ≤ 2147483647) (f3 : (-2147483648) ≤ n1) (f4 : n2 ≤ 2147483647) (f5 : (-2147483648) ≤ n2) (f6 : n3 ≤ 2147483647) (f7 : (-2147483648) ≤ n3) (f8 : n4 ≤ 2) (f9 : 0 ≤ n4) (f10 : n5 ≤ 2) (f11 : 0 ≤ n5) (f12 : n6 ≤ 1007) (f13 : 0 ≤ n6) (f14 : n7 = 285) (f15 : n8 ≤ 1007) (f16 : 0 ≤ n8) (f17 : n9 = 285) (f18 : (hLe T0 H0 H1 ∧ hFr s_276.2.2.2.2 H0 H1 ∧ hWt T0 H1) ∧ (Ab_276_62 n9 n8 n7 n6 n5 n4 n3 n2 n1 n0 H0 H1 ∧ preb_276 n9 n8 H0) ∧ some q0 = some (mub_276_62 n9 n8 n7 n6 n5 n4 n3 n2 n1 n0 H0 H1)) (f19 : n10 ≤ 240) (f20 : 0 ≤ n10) (f21 : n10 = hV H1 (n7).toNat 93) (f22 : n0 < n10) (f23 : n11 = 240) (f24 : n12 = w32 (n11 * n4)) (f25 : n13 = w32 (n12 + n0)) (f26 : n14 = (-1)) (f27 : n0 = n14) (f28 : n15 = w32 (n0 + 1)) : Ab_276_62 n9 n8 n7 n6 n5 n4 n3 n2 n0 n15 H0 H1 ∧ ∀ q, some q0 = some q → mub_276_62 n9 n8 n7 n6 n5 n4 n3 n2 n0 n15 H0 H1 < q := by
  have g4 := f18.2.1.1
  unfold Ab_276_62 at g4
  have g3 := f18.2.1.2
  unfold preb_276 at g3
  have g5 := Option.some.inj f18.2.2
  unfold mub_276_62 at g5
  unfold Ab_276_62
  unfold mub_276_62
  have e1 : n10 = hV H0 285 93 := (by rw [f14] at f21; exact f21 : n10 = hV H1 285 93).trans ((f18.1.2.1.1 285 93 kF_276_285_93))
  have k0 := g4
  have p0 := g3.1
  have p1 := g3.2.1
  have p2 := g3.2.2.1
  have p3 := g3.2.2.2
  clear g3
  clear g4
  clear f21
  subst e1
  rw [f23] at f24
  first
  | (have ix0 : n15 = n0 + 1 := Eq.trans f28 (w32_iv (Iad (Iat f1 f0) (IC 1)) (by decide)); subst ix0; clear f28)
  | (have ix0 : n15 = n0 + 1 := Eq.trans f28 (w32_id (by omega) (by omega)); subst ix0; clear f28)
  | (unfold w32 at f28; have ix0 : n15 = n0 + 1 := (by omega); subst ix0)
  | skip
  try unfold w32 at f24
  try unfold w32 at f25
  try unfold w32 at f28
  try subst k0
  refine ⟨?_, fun q hq => ?_⟩
  · first | assumption | omega | trivial
  · have g6 := Option.some.inj hq
    subst g6
    omega
theorem c_276_62_14 {q0 : Nat} : vOkm T0 (eP e_276 L_276 A_276 mu_276 (some q0)) 2 ([(10, [17, 9], [], 1), (40, [9, 16], [], 0), (0, [16], [], -1), (1, [14, 13, 9], [], 0), (3, [13, 12, 5], [], 0), (0, [12], [], 240), (42, [9, 10], [], 0), (20, [10, 2], [1], 93), (90, [10], [], 0), (91, [10], [], 240), (5000, [0, 1, 2, 3, 4, 5, 6, 7, 8, 9], [0, 1], 62), (0, [0], [], 285), (90, [1], [], 0), (91, [1], [], 1007), (0, [2], [], 285), (90, [3], [], 0), (91, [3], [], 1007), (90, [4], [], 0), (91, [4], [], 2), (90, [5], [], 0), (91, [5], [], 2), (90, [6], [], -2147483648), (91, [6], [], 2147483647), (90, [7], [], -2147483648), (91, [7], [], 2147483647), (90, [8], [], -2147483648), (91, [8], [], 2147483647), (90, [9], [], 0), (91, [9], [], 240)], (4000, [2, 3, 4, 5, 6, 7, 9, 17], [1], 62)) := vOk_inI fun ρ η f0 f1 f2 f3 f4 f5 f6 f7 f8 f9 f10 f11 f12 f13 f14 f15 f16 f17 f18 f19 f20 f21 f22 f23 f24 f25 f26 f27 f28 => q_276_28 (q0 := q0) (n0 := ρ 9) (n1 := ρ 8) (n2 := ρ 7) (n3 := ρ 6) (n4 := ρ 5) (n5 := ρ 4) (n6 := ρ 3) (n7 := ρ 2) (n8 := ρ 1) (n9 := ρ 0) (n10 := ρ 10) (n11 := ρ 12) (n12 := ρ 13) (n13 := ρ 14) (n14 := ρ 16) (n15 := ρ 17) (H0 := η 0) (H1 := η 1) f28 f27 f26 f25 f24 f23 f22 f21 f20 f19 f18 f17 f16 f15 f14 f13 f12 f11 f10 f9 f8 f7 f6 f5 f4 f3 f2 f1 f0
theorem q_276_29 {q0 : Nat} {n0 n1 n2 n3 n4 n5 n6 n7 n8 n9 n10 n11 n12 n13 n14 n15 n16 : Int} {H0 H1 : gH} (f0 : n0 ≤ 240) (f1 : 0 ≤ n0) (f2 : n1 ≤ 2147483647) (f3 : (-2147483648) ≤ n1) (f4 : n2 ≤ 2147483647) (f5 : (-2147483648) ≤ n2) (f6 : n3 ≤ 2147483647) (f7 : (-2147483648) ≤ n3) (f8 : n4 ≤ 2) (f9 : 0 ≤ n4) (f10 : n5 ≤ 2) (f11 : 0 ≤ n5) (f12 : n6 ≤ 1007) (f13 : 0 ≤ n6) (f14 : n7 = 285) (f15 : n8 ≤ 1007) (f16 : 0 ≤ n8) (f17 : n9 = 285) (f18 : (hLe T0 H0 H1 ∧ hFr s_276.2.2.2.2 H0 H1 ∧ hWt T0 H1) ∧ (Ab_276_62 n9 n8 n7 n6 n5 n4 n3 n2 n1 n0 H0 H1 ∧ preb_276 n9 n8 H0) ∧ some q0 = some (mub_276_62 n9 n8 n7 n6 n5 n4 n3 n2 n1 n0 H0 H1)) (f19 : n10 ≤ 240) (f20 : 0 ≤ n10) (f21 : n10 = hV H1 (n7).toNat 93) (f22 : n0 < n10) (f23 : n11 = 240) (f24 : n12 = w32 (n11 * n4)) (f25 : n13 = w32 (n12 + n0)) (f26 : n14 = (-1)) (f27 : n0 ≠ n14) (f28 : n15 = w32 (n0 - n0)) (f29 : n2 < n15) (f30 : n16 = w32 (n0 + 1)) : 0 ≤ n16 := by
  have g4 := f18.2.1.1
  unfold Ab_276_62 at g4
  have g3 := f18.2.1.2
  unfold preb_276 at g3
  have e1 : n10 = hV H0 285 93 := (by rw [f14] at f21; exact f21 : n10 = hV H1 285 93).trans ((f18.1.2.1.1 285 93 kF_276_285_93))
  have k0 := g4
  have p0 := g3.1
  have p1 := g3.2.1
  have p2 := g3.2.2.1
  have p3 := g3.2.2.2
  clear g3
  clear g4
  clear f21
  subst e1
  rw [f23] at f24
  first
  | (have ix0 : n16 = n0 + 1 := Eq.trans f30 (w32_iv (Iad (Iat f1 f0) (IC 1)) (by decide)); subst ix0; clear f30)
  | (have ix0 : n16 = n0 + 1 := Eq.trans f30 (w32_id (by omega) (by omega)); subst ix0; clear f30)
  | (unfold w32 at f30; have ix0 : n16 = n0 + 1 := (by omega); subst ix0)
  | skip
  try unfold w32 at f24
  try unfold w32 at f25
  try unfold w32 at f28
  try unfold w32 at f30
  try subst k0
  omega
theorem c_276_62_15 {q0 : Nat} : vOkm T0 (eP e_276 L_276 A_276 mu_276 (some q0)) 2 ([(10, [18, 9], [], 1), (44, [17, 7], [], 0), (2, [17, 9, 9], [], 0), (41, [9, 16], [], 0), (0, [16], [], -1), (1, [14, 13, 9], [], 0), (3, [13, 12, 5], [], 0), (0, [12], [], 240), (42, [9, 10], [], 0), (20, [10, 2], [1], 93), (90, [10], [], 0), (91, [10], [], 240), (5000, [0, 1, 2, 3, 4, 5, 6, 7, 8, 9], [0, 1], 62), (0, [0], [], 285), (90, [1], [], 0), (91, [1], [], 1007), (0, [2], [], 285), (90, [3], [], 0), (91, [3], [], 1007), (90, [4], [], 0), (91, [4], [], 2), (90, [5], [], 0), (91, [5], [], 2), (90, [6], [], -2147483648), (91, [6], [], 2147483647), (90, [7], [], -2147483648), (91, [7], [], 2147483647), (90, [8], [], -2147483648), (91, [8], [], 2147483647), (90, [9], [], 0), (91, [9], [], 240)], (90, [18], [], 0)) := vOk_inI fun ρ η f0 f1 f2 f3 f4 f5 f6 f7 f8 f9 f10 f11 f12 f13 f14 f15 f16 f17 f18 f19 f20 f21 f22 f23 f24 f25 f26 f27 f28 f29 f30 => q_276_29 (q0 := q0) (n0 := ρ 9) (n1 := ρ 8) (n2 := ρ 7) (n3 := ρ 6) (n4 := ρ 5) (n5 := ρ 4) (n6 := ρ 3) (n7 := ρ 2) (n8 := ρ 1) (n9 := ρ 0) (n10 := ρ 10) (n11 := ρ 12) (n12 := ρ 13) (n13 := ρ 14) (n14 := ρ 16) (n15 := ρ 17) (n16 := ρ 18) (H0 := η 0) (H1 := η 1) f30 f29 f28 f27 f26 f25 f24 f23 f22 f21 f20 f19 f18 f17 f16 f15 f14 f13 f12 f11 f10 f9 f8 f7 f6 f5 f4 f3 f2 f1 f0
theorem q_276_30 {q0 : Nat} {n0 n1 n2 n3 n4 n5 n6 n7 n8 n9 n10 n11 n12 n13 n14 n15 n16 : Int} {H0 H1 : gH} (f0 : n0 ≤ 240) (f1 : 0 ≤ n0) (f2 : n1 ≤ 2147483647) (f3 : (-2147483648) ≤ n1) (f4 : n2 ≤ 2147483647) (f5 : (-2147483648) ≤ n2) (f6 : n3 ≤ 2147483647) (f7 : (-2147483648) ≤ n3) (f8 : n4 ≤ 2) (f9 : 0 ≤ n4) (f10 : n5 ≤ 2) (f11 : 0 ≤ n5) (f12 : n6 ≤ 1007) (f13 : 0 ≤ n6) (f14 : n7 = 285) (f15 : n8 ≤ 1007) (f16 : 0 ≤ n8) (f17 : n9 = 285) (f18 : (hLe T0 H0 H1 ∧ hFr s_276.2.2.2.2 H0 H1 ∧ hWt T0 H1) ∧ (Ab_276_62 n9 n8 n7 n6 n5 n4 n3 n2 n1 n0 H0 H1 ∧ preb_276 n9 n8 H0) ∧ some q0 = some (mub_276_62 n9 n8 n7 n6 n5 n4 n3 n2 n1 n0 H0 H1)) (f19 : n10 ≤ 240) (f20 : 0 ≤ n10) (f21 : n10 = hV H1 (n7).toNat 93) (f22 : n0 < n10) (f23 : n11 = 240) (f24 : n12 = w32 (n11 * n4)) (f25 : n13 = w32 (n12 + n0)) (f26 : n14 = (-1)) (f27 : n0 ≠ n14) (f28 : n15 = w32 (n0 - n0)) (f29 : n2 < n15) (f30 : n16 = w32 (n0 + 1)) : n16 ≤ 240 := by
  have g4 := f18.2.1.1
  unfold Ab_276_62 at g4
  have g3 := f18.2.1.2
  unfold preb_276 at g3
  have e1 : n10 = hV H0 285 93 := (by rw [f14] at f21; exact f21 : n10 = hV H1 285 93).trans ((f18.1.2.1.1 285 93 kF_276_285_93))
  have k0 := g4
  have p0 := g3.1
  have p1 := g3.2.1
  have p2 := g3.2.2.1
  have p3 := g3.2.2.2
  clear g3
  clear g4
  clear f21
  subst e1
  rw [f23] at f24
  first
  | (have ix0 : n16 = n0 + 1 := Eq.trans f30 (w32_iv (Iad (Iat f1 f0) (IC 1)) (by decide)); subst ix0; clear f30)
  | (have ix0 : n16 = n0 + 1 := Eq.trans f30 (w32_id (by omega) (by omega)); subst ix0; clear f30)
  | (unfold w32 at f30; have ix0 : n16 = n0 + 1 := (by omega); subst ix0)
  | skip
  try unfold w32 at f24
  try unfold w32 at f25
  try unfold w32 at f28
  try unfold w32 at f30
  try subst k0
  omega
theorem c_276_62_16 {q0 : Nat} : vOkm T0 (eP e_276 L_276 A_276 mu_276 (some q0)) 2 ([(10, [18, 9], [], 1), (44, [17, 7], [], 0), (2, [17, 9, 9], [], 0), (41, [9, 16], [], 0), (0, [16], [], -1), (1, [14, 13, 9], [], 0), (3, [13, 12, 5], [], 0), (0, [12], [], 240), (42, [9, 10], [], 0), (20, [10, 2], [1], 93), (90, [10], [], 0), (91, [10], [], 240), (5000, [0, 1, 2, 3, 4, 5, 6, 7, 8, 9], [0, 1], 62), (0, [0], [], 285), (90, [1], [], 0), (91, [1], [], 1007), (0, [2], [], 285), (90, [3], [], 0), (91, [3], [], 1007), (90, [4], [], 0), (91, [4], [], 2), (90, [5], [], 0), (91, [5], [], 2), (90, [6], [], -2147483648), (91, [6], [], 2147483647), (90, [7], [], -2147483648), (91, [7], [], 2147483647), (90, [8], [], -2147483648), (91, [8], [], 2147483647), (90, [9], [], 0), (91, [9], [], 240)], (91, [18], [], 240)) := vOk_inI fun ρ η f0 f1 f2 f3 f4 f5 f6 f7 f8 f9 f10 f11 f12 f13 f14 f15 f16 f17 f18 f19 f20 f21 f22 f23 f24 f25 f26 f27 f28 f29 f30 => q_276_30 (q0 := q0) (n0 := ρ 9) (n1 := ρ 8) (n2 := ρ 7) (n3 := ρ 6) (n4 := ρ 5) (n5 := ρ 4) (n6 := ρ 3) (n7 := ρ 2) (n8 := ρ 1) (n9 := ρ 0) (n10 := ρ 10) (n11 := ρ 12) (n12 := ρ 13) (n13 := ρ 14) (n14 := ρ 16) (n15 := ρ 17) (n16 := ρ 18) (H0 := η 0) (H1 := η 1) f30 f29 f28 f27 f26 f25 f24 f23 f22 f21 f20 f19 f18 f17 f16 f15 f14 f13 f12 f11 f10 f9 f8 f7 f6 f5 f4 f3 f2 f1 f0
theorem q_276_31 {q0 : Nat} {n0 n1 n2 n3 n4 n5 n6 n7 n8 n9 n10 n11 n12 n13 n14 n15 n16 : Int} {H0 H1 : gH} (f0 : n0 ≤ 240) (f1 : 0 ≤ n0) (f2 : n1 ≤ 2147483647) (f3 : (-2147483648) ≤ n1) (f4 : n2 ≤ 2147483647) (f5 : (-2147483648) ≤ n2) (f6 : n3 ≤ 2147483647) (f7 : (-2147483648) ≤ n3) (f8 : n4 ≤ 2) (f9 : 0 ≤ n4) (f10 : n5 ≤ 2) (f11 : 0 ≤ n5) (f12 : n6 ≤ 1007) (f13 : 0 ≤ n6) (f14 : n7 = 285) (f15 : n8 ≤ 1007) (f16 : 0 ≤ n8) (f17 : n9 = 285) (f18 : (hLe T0 H0 H1 ∧ hFr s_276.2.2.2.2 H0 H1 ∧ hWt T0 H1) ∧ (Ab_276_62 n9 n8 n7 n6 n5 n4 n3 n2 n1 n0 H0 H1 ∧ preb_276 n9 n8 H0) ∧ some q0 = some (mub_276_62 n9 n8 n7 n6 n5 n4 n3 n2 n1 n0 H0 H1)) (f19 : n10 ≤ 240) (f20 : 0 ≤ n10) (f21 : n10 = hV H1 (n7).toNat 93) (f22 : n0 < n10) (f23 : n11 = 240) (f24 : n12 = w32 (n11 * n4)) (f25 : n13 = w32 (n12 + n0)) (f26 : n14 = (-1)) (f27 : n0 ≠ n14) (f28 : n15 = w32 (n0 - n0)) (f29 : n2 < n15) (f30 : n16 = w32 (n0 + 1)) : Ab_276_62 n9 n8 n7 n6 n5 n4 n3 n2 n0 n16 H0 H1 ∧ ∀ q, some q0 = some q → mub_276_62 n9 n8 n7 n6 n5 n4 n3 n2 n0 n16 H0 H1 < q := by
  have g4 := f18.2.1.1
  unfold Ab_276_62 at g4
  have g3 := f18.2.1.2
  unfold preb_276 at g3
  have g5 := Option.some.inj f18.2.2
  unfold mub_276_62 at g5
  unfold Ab_276_62
  unfold mub_276_62
  have e1 : n10 = hV H0 285 93 := (by rw [f14] at f21; exact f21 : n10 = hV H1 285 93).trans ((f18.1.2.1.1 285 93 kF_276_285_93))
  have k0 := g4
  have p0 := g3.1
  have p1 := g3.2.1
  have p2 := g3.2.2.1
  have p3 := g3.2.2.2
  clear g3
  clear g4
  clear f21
  subst e1
  rw [f23] at f24
  first
  | (have ix0 : n16 = n0 + 1 := Eq.trans f30 (w32_iv (Iad (Iat f1 f0) (IC 1)) (by decide)); subst ix0; clear f30)
  | (have ix0 : n16 = n0 + 1 := Eq.trans f30 (w32_id (by omega) (by omega)); subst ix0; clear f30)
  | (unfold w32 at f30; have ix0 : n16 = n0 + 1 := (by omega); subst ix0)
  | skip
  try unfold w32 at f24
  try unfold w32 at f25
  try unfold w32 at f28
  try unfold w32 at f30
  try subst k0
  refine ⟨?_, fun q hq => ?_⟩
  · first | assumption | omega | trivial
  · have g6 := Option.some.inj hq
    subst g6
    omega
theorem c_276_62_17 {q0 : Nat} : vOkm T0 (eP e_276 L_276 A_276 mu_276 (some q0)) 2 ([(10, [18, 9], [], 1), (44, [17, 7], [], 0), (2, [17, 9, 9], [], 0), (41, [9, 16], [], 0), (0, [16], [], -1), (1, [14, 13, 9], [], 0), (3, [13, 12, 5], [], 0), (0, [12], [], 240), (42, [9, 10], [], 0), (20, [10, 2], [1], 93), (90, [10], [], 0), (91, [10], [], 240), (5000, [0, 1, 2, 3, 4, 5, 6, 7, 8, 9], [0, 1], 62), (0, [0], [], 285), (90, [1], [], 0), (91, [1], [], 1007), (0, [2], [], 285), (90, [3], [], 0), (91, [3], [], 1007), (90, [4], [], 0), (91, [4], [], 2), (90, [5], [], 0), (91, [5], [], 2), (90, [6], [], -2147483648), (91, [6], [], 2147483647), (90, [7], [], -2147483648), (91, [7], [], 2147483647), (90, [8], [], -2147483648), (91, [8], [], 2147483647), (90, [9], [], 0), (91, [9], [], 240)], (4000, [2, 3, 4, 5, 6, 7, 9, 18], [1], 62)) := vOk_inI fun ρ η f0 f1 f2 f3 f4 f5 f6 f7 f8 f9 f10 f11 f12 f13 f14 f15 f16 f17 f18 f19 f20 f21 f22 f23 f24 f25 f26 f27 f28 f29 f30 => q_276_31 (q0 := q0) (n0 := ρ 9) (n1 := ρ 8) (n2 := ρ 7) (n3 := ρ 6) (n4 := ρ 5) (n5 := ρ 4) (n6 := ρ 3) (n7 := ρ 2) (n8 := ρ 1) (n9 := ρ 0) (n10 := ρ 10) (n11 := ρ 12) (n12 := ρ 13) (n13 := ρ 14) (n14 := ρ 16) (n15 := ρ 17) (n16 := ρ 18) (H0 := η 0) (H1 := η 1) f30 f29 f28 f27 f26 f25 f24 f23 f22 f21 f20 f19 f18 f17 f16 f15 f14 f13 f12 f11 f10 f9 f8 f7 f6 f5 f4 f3 f2 f1 f0
theorem q_276_32 {q0 : Nat} {n0 n1 n2 n3 n4 n5 n6 n7 n8 n9 n10 n11 n12 n13 n14 n15 n16 n17 n18 n19 n20 n21 : Int} {H0 H1 : gH} (f0 : n0 ≤ 240) (f1 : 0 ≤ n0) (f2 : n1 ≤ 2147483647) (f3 : (-2147483648) ≤ n1) (f4 : n2 ≤ 2147483647) (f5 : (-2147483648) ≤ n2) (f6 : n3 ≤ 2147483647) (f7 : (-2147483648) ≤ n3) (f8 : n4 ≤ 2) (f9 : 0 ≤ n4) (f10 : n5 ≤ 2) (f11 : 0 ≤ n5) (f12 : n6 ≤ 1007) (f13 : 0 ≤ n6) (f14 : n7 = 285) (f15 : n8 ≤ 1007) (f16 : 0 ≤ n8) (f17 : n9 = 285) (f18 : (hLe T0 H0 H1 ∧ hFr s_276.2.2.2.2 H0 H1 ∧ hWt T0 H1) ∧ (Ab_276_62 n9 n8 n7 n6 n5 n4 n3 n2 n1 n0 H0 H1 ∧ preb_276 n9 n8 H0) ∧ some q0 = some (mub_276_62 n9 n8 n7 n6 n5 n4 n3 n2 n1 n0 H0 H1)) (f19 : n10 ≤ 240) (f20 : 0 ≤ n10) (f21 : n10 = hV H1 (n7).toNat 93) (f22 : n0 < n10) (f23 : n11 = 240) (f24 : n12 = w32 (n11 * n4)) (f25 : n13 = w32 (n12 + n0)) (f26 : n14 = (-1)) (f27 : n0 ≠ n14) (f28 : n15 = w32 (n0 - n0)) (f29 : n15 ≤ n2) (f30 : n16 = 240) (f31 : n17 = w32 (n16 * n5)) (f32 : n18 = w32 (n17 + n0)) (f33 : n19 = 240) (f34 : n20 = w32 (n19 * n5)) (f35 : n21 = w32 (n20 + n0)) : 0 ≤ n21 ∧ n21 < 720 := by
  have g4 := f18.2.1.1
  unfold Ab_276_62 at g4
  have g3 := f18.2.1.2
  unfold preb_276 at g3
  have e1 : n10 = hV H0 285 93 := (by rw [f14] at f21; exact f21 : n10 = hV H1 285 93).trans ((f18.1.2.1.1 285 93 kF_276_285_93))
  have k0 := g4
  have p0 := g3.1
  have p1 := g3.2.1
  have p2 := g3.2.2.1
  have p3 := g3.2.2.2
  clear g3
  clear g4
  clear f21
  subst e1
  rw [f23] at f24
  rw [f30] at f31
  rw [f33] at f34
  first
  | (have ix0 : n20 = 240 * n5 := Eq.trans f34 (w32_iv (Iml 240 rfl (Iat f11 f10)) (by decide)); subst ix0; clear f34)
  | (have ix0 : n20 = 240 * n5 := Eq.trans f34 (w32_id (by omega) (by omega)); subst ix0; clear f34)
  | (unfold w32 at f34; have ix0 : n20 = 240 * n5 := (by omega); subst ix0)
  | skip
  first
  | (have ix1 : n21 = (240 * n5) + n0 := Eq.trans f35 (w32_iv (Iad (Iml 240 rfl (Iat f11 f10)) (Iat f1 f0)) (by decide)); subst ix1; clear f35)
  | (have ix1 : n21 = (240 * n5) + n0 := Eq.trans f35 (w32_id (by omega) (by omega)); subst ix1; clear f35)
  | (unfold w32 at f35; have ix1 : n21 = (240 * n5) + n0 := (by omega); subst ix1)
  | skip
  try unfold w32 at f24
  try unfold w32 at f25
  try unfold w32 at f28
  try unfold w32 at f31
  try unfold w32 at f32
  try unfold w32 at f34
  try unfold w32 at f35
  try subst k0
  omega
theorem c_276_62_18 {q0 : Nat} : vOkm T0 (eP e_276 L_276 A_276 mu_276 (some q0)) 2 ([(1, [25, 24, 9], [], 0), (3, [24, 23, 4], [], 0), (0, [23], [], 240), (1, [21, 20, 9], [], 0), (3, [20, 19, 4], [], 0), (0, [19], [], 240), (45, [17, 7], [], 0), (2, [17, 9, 9], [], 0), (41, [9, 16], [], 0), (0, [16], [], -1), (1, [14, 13, 9], [], 0), (3, [13, 12, 5], [], 0), (0, [12], [], 240), (42, [9, 10], [], 0), (20, [10, 2], [1], 93), (90, [10], [], 0), (91, [10], [], 240), (5000, [0, 1, 2, 3, 4, 5, 6, 7, 8, 9], [0, 1], 62), (0, [0], [], 285), (90, [1], [], 0), (91, [1], [], 1007), (0, [2], [], 285), (90, [3], [], 0), (91, [3], [], 1007), (90, [4], [], 0), (91, [4], [], 2), (90, [5], [], 0), (91, [5], [], 2), (90, [6], [], -2147483648), (91, [6], [], 2147483647), (90, [7], [], -2147483648), (91, [7], [], 2147483647), (90, [8], [], -2147483648), (91, [8], [], 2147483647), (90, [9], [], 0), (91, [9], [], 240)], (70, [25], [], 720)) := vOk_inI fun ρ η f0 f1 f2 f3 f4 f5 f6 f7 f8 f9 f10 f11 f12 f13 f14 f15 f16 f17 f18 f19 f20 f21 f22 f23 f24 f25 f26 f27 f28 f29 f30 f31 f32 f33 f34 f35 => q_276_32 (q0 := q0) (n0 := ρ 9) (n1 := ρ 8) (n2 := ρ 7) (n3 := ρ 6) (n4 := ρ 5) (n5 := ρ 4) (n6 := ρ 3) (n7 := ρ 2) (n8 := ρ 1) (n9 := ρ 0) (n10 := ρ 10) (n11 := ρ 12) (n12 := ρ 13) (n13 := ρ 14) (n14 := ρ 16) (n15 := ρ 17) (n16 := ρ 19) (n17 := ρ 20) (n18 := ρ 21) (n19 := ρ 23) (n20 := ρ 24) (n21 := ρ 25) (H0 := η 0) (H1 := η 1) f35 f34 f33 f32 f31 f30 f29 f28 f27 f26 f25 f24 f23 f22 f21 f20 f19 f18 f17 f16 f15 f14 f13 f12 f11 f10 f9 f8 f7 f6 f5 f4 f3 f2 f1 f0
theorem q_276_33 {q0 : Nat} {n0 n1 n2 n3 n4 n5 n6 n7 n8 n9 n10 n11 n12 n13 n14 n15 n16 n17 n18 n19 n20 n21 n22 : Int} {H0 H1 : gH} (f0 : n0 ≤ 240) (f1 : 0 ≤ n0) (f2 : n1 ≤ 2147483647) (f3 : (-2147483648) ≤ n1) (f4 : n2 ≤ 2147483647) (f5 : (-2147483648) ≤ n2) (f6 : n3 ≤ 2147483647) (f7 : (-2147483648) ≤ n3) (f8 : n4 ≤ 2) (f9 : 0 ≤ n4) (f10 : n5 ≤ 2) (f11 : 0 ≤ n5) (f12 : n6 ≤ 1007) (f13 : 0 ≤ n6) (f14 : n7 = 285) (f15 : n8 ≤ 1007) (f16 : 0 ≤ n8) (f17 : n9 = 285) (f18 : (hLe T0 H0 H1 ∧ hFr s_276.2.2.2.2 H0 H1 ∧ hWt T0 H1) ∧ (Ab_276_62 n9 n8 n7 n6 n5 n4 n3 n2 n1 n0 H0 H1 ∧ preb_276 n9 n8 H0) ∧ some q0 = some (mub_276_62 n9 n8 n7 n6 n5 n4 n3 n2 n1 n0 H0 H1)) (f19 : n10 ≤ 240) (f20 : 0 ≤ n10) (f21 : n10 = hV H1 (n7).toNat 93) (f22 : n0 < n10) (f23 : n11 = 240) (f24 : n12 = w32 (n11 * n4)) (f25 : n13 = w32 (n12 + n0)) (f26 : n14 = (-1)) (f27 : n0 ≠ n14) (f28 : n15 = w32 (n0 - n0)) (f29 : n15 ≤ n2) (f30 : n16 = 240) (f31 : n17 = w32 (n16 * n5)) (f32 : n18 = w32 (n17 + n0)) (f33 : n19 = 240) (f34 : n20 = w32 (n19 * n5)) (f35 : n21 = w32 (n20 + n0)) (f36 : n22 = n3) : 0 ≤ n18 ∧ n18 < 720 := by
  have g4 := f18.2.1.1
  unfold Ab_276_62 at g4
  have g3 := f18.2.1.2
  unfold preb_276 at g3
  have e1 : n10 = hV H0 285 93 := (by rw [f14] at f21; exact f21 : n10 = hV H1 285 93).trans ((f18.1.2.1.1 285 93 kF_276_285_93))
  have k0 := g4
  have p0 := g3.1
  have p1 := g3.2.1
  have p2 := g3.2.2.1
  have p3 := g3.2.2.2
  clear g3
  clear g4
  clear f21
  subst e1
  rw [f23] at f24
  rw [f30] at f31
  rw [f33] at f34
  first
  | (have ix0 : n17 = 240 * n5 := Eq.trans f31 (w32_iv (Iml 240 rfl (Iat f11 f10)) (by decide)); subst ix0; clear f31)
  | (have ix0 : n17 = 240 * n5 := Eq.trans f31 (w32_id (by omega) (by omega)); subst ix0; clear f31)
  | (unfold w32 at f31; have ix0 : n17 = 240 * n5 := (by omega); subst ix0)
  | skip
  first
  | (have ix1 : n18 = (240 * n5) + n0 := Eq.trans f32 (w32_iv (Iad (Iml 240 rfl (Iat f11 f10)) (Iat f1 f0)) (by decide)); subst ix1; clear f32)
  | (have ix1 : n18 = (240 * n5) + n0 := Eq.trans f32 (w32_id (by omega) (by omega)); subst ix1; clear f32)
  | (unfold w32 at f32; have ix1 : n18 = (240 * n5) + n0 := (by omega); subst ix1)
  | skip
  try unfold w32 at f24
  try unfold w32 at f25
  try unfold w32 at f28
  try unfold w32 at f31
  try unfold w32 at f32
  try unfold w32 at f34
  try unfold w32 at f35
  try subst k0
  omega
theorem c_276_62_19 {q0 : Nat} : vOkm T0 (eP e_276 L_276 A_276 mu_276 (some q0)) 2 ([(17, [27, 6], [], 0), (1, [25, 24, 9], [], 0), (3, [24, 23, 4], [], 0), (0, [23], [], 240), (1, [21, 20, 9], [], 0), (3, [20, 19, 4], [], 0), (0, [19], [], 240), (45, [17, 7], [], 0), (2, [17, 9, 9], [], 0), (41, [9, 16], [], 0), (0, [16], [], -1), (1, [14, 13, 9], [], 0), (3, [13, 12, 5], [], 0), (0, [12], [], 240), (42, [9, 10], [], 0), (20, [10, 2], [1], 93), (90, [10], [], 0), (91, [10], [], 240), (5000, [0, 1, 2, 3, 4, 5, 6, 7, 8, 9], [0, 1], 62), (0, [0], [], 285), (90, [1], [], 0), (91, [1], [], 1007), (0, [2], [], 285), (90, [3], [], 0), (91, [3], [], 1007), (90, [4], [], 0), (91, [4], [], 2), (90, [5], [], 0), (91, [5], [], 2), (90, [6], [], -2147483648), (91, [6], [], 2147483647), (90, [7], [], -2147483648), (91, [7], [], 2147483647), (90, [8], [], -2147483648), (91, [8], [], 2147483647), (90, [9], [], 0), (91, [9], [], 240)], (70, [21], [], 720)) := vOk_inI fun ρ η f0 f1 f2 f3 f4 f5 f6 f7 f8 f9 f10 f11 f12 f13 f14 f15 f16 f17 f18 f19 f20 f21 f22 f23 f24 f25 f26 f27 f28 f29 f30 f31 f32 f33 f34 f35 f36 => q_276_33 (q0 := q0) (n0 := ρ 9) (n1 := ρ 8) (n2 := ρ 7) (n3 := ρ 6) (n4 := ρ 5) (n5 := ρ 4) (n6 := ρ 3) (n7 := ρ 2) (n8 := ρ 1) (n9 := ρ 0) (n10 := ρ 10) (n11 := ρ 12) (n12 := ρ 13) (n13 := ρ 14) (n14 := ρ 16) (n15 := ρ 17) (n16 := ρ 19) (n17 := ρ 20) (n18 := ρ 21) (n19 := ρ 23) (n20 := ρ 24) (n21 := ρ 25) (n22 := ρ 27) (H0 := η 0) (H1 := η 1) f36 f35 f34 f33 f32 f31 f30 f29 f28 f27 f26 f25 f24 f23 f22 f21 f20 f19 f18 f17 f16 f15 f14 f13 f12 f11 f10 f9 f8 f7 f6 f5 f4 f3 f2 f1 f0
theorem q_276_34 {q0 : Nat} {n0 n1 n2 n3 n4 n5 n6 n7 n8 n9 n10 n11 n12 n13 n14 n15 n16 n17 n18 n19 n20 n21 n22 n23 : Int} {H0 H1 : gH} (f0 : n0 ≤ 240) (f1 : 0 ≤ n0) (f2 : n1 ≤ 2147483647) (f3 : (-2147483648) ≤ n1) (f4 : n2 ≤ 2147483647) (f5 : (-2147483648) ≤ n2) (f6 : n3 ≤ 2147483647) (f7 : (-2147483648) ≤ n3) (f8 : n4 ≤ 2) (f9 : 0 ≤ n4) (f10 : n5 ≤ 2) (f11 : 0 ≤ n5) (f12 : n6 ≤ 1007) (f13 : 0 ≤ n6) (f14 : n7 = 285) (f15 : n8 ≤ 1007) (f16 : 0 ≤ n8) (f17 : n9 = 285) (f18 : (hLe T0 H0 H1 ∧ hFr s_276.2.2.2.2 H0 H1 ∧ hWt T0 H1) ∧ (Ab_276_62 n9 n8 n7 n6 n5 n4 n3 n2 n1 n0 H0 H1 ∧ preb_276 n9 n8 H0) ∧ some q0 = some (mub_276_62 n9 n8 n7 n6 n5 n4 n3 n2 n1 n0 H0 H1)) (f19 : n10 ≤ 240) (f20 : 0 ≤ n10) (f21 : n10 = hV H1 (n7).toNat 93) (f22 : n0 < n10) (f23 : n11 = 240) (f24 : n12 = w32 (n11 * n4)) (f25 : n13 = w32 (n12 + n0)) (f26 : n14 = (-1)) (f27 : n0 ≠ n14) (f28 : n15 = w32 (n0 - n0)) (f29 : n15 ≤ n2) (f30 : n16 = 240) (f31 : n17 = w32 (n16 * n5)) (f32 : n18 = w32 (n17 + n0)) (f33 : n19 = 240) (f34 : n20 = w32 (n19 * n5)) (f35 : n21 = w32 (n20 + n0)) (f36 : n22 = n3) (f37 : n23 = w32 (n0 + 1)) : 0 ≤ n23 := by
  have g4 := f18.2.1.1
  unfold Ab_276_62 at g4
  have g3 := f18.2.1.2
  unfold preb_276 at g3
  have e1 : n10 = hV H0 285 93 := (by rw [f14] at f21; exact f21 : n10 = hV H1 285 93).trans ((f18.1.2.1.1 285 93 kF_276_285_93))
  have k0 := g4
  have p0 := g3.1
  have p1 := g3.2.1
  have p2 := g3.2.2.1
  have p3 := g3.2.2.2
  clear g3
  clear g4
  clear f21
  subst e1
  rw [f23] at f24
  rw [f30] at f31
  rw [f33] at f34
  first
  | (have ix0 : n23 = n0 + 1 := Eq.trans f37 (w32_iv (Iad (Iat f1 f0) (IC 1)) (by decide)); subst ix0; clear f37)
  | (have ix0 : n23 = n0 + 1 := Eq.trans f37 (w32_id (by omega) (by omega)); subst ix0; clear f37)
  | (unfold w32 at f37; have ix0 : n23 = n0 + 1 := (by omega); subst ix0)
  | skip
  try unfold w32 at f24
  try unfold w32 at f25
  try unfold w32 at f28
  try unfold w32 at f31
  try unfold w32 at f32
  try unfold w32 at f34
  try unfold w32 at f35
  try unfold w32 at f37
  try subst k0
  omega
theorem c_276_62_20 {q0 : Nat} : vOkm T0 (eP e_276 L_276 A_276 mu_276 (some q0)) 2 ([(10, [31, 9], [], 1), (17, [27, 6], [], 0), (1, [25, 24, 9], [], 0), (3, [24, 23, 4], [], 0), (0, [23], [], 240), (1, [21, 20, 9], [], 0), (3, [20, 19, 4], [], 0), (0, [19], [], 240), (45, [17, 7], [], 0), (2, [17, 9, 9], [], 0), (41, [9, 16], [], 0), (0, [16], [], -1), (1, [14, 13, 9], [], 0), (3, [13, 12, 5], [], 0), (0, [12], [], 240), (42, [9, 10], [], 0), (20, [10, 2], [1], 93), (90, [10], [], 0), (91, [10], [], 240), (5000, [0, 1, 2, 3, 4, 5, 6, 7, 8, 9], [0, 1], 62), (0, [0], [], 285), (90, [1], [], 0), (91, [1], [], 1007), (0, [2], [], 285), (90, [3], [], 0), (91, [3], [], 1007), (90, [4], [], 0), (91, [4], [], 2), (90, [5], [], 0), (91, [5], [], 2), (90, [6], [], -2147483648), (91, [6], [], 2147483647), (90, [7], [], -2147483648), (91, [7], [], 2147483647), (90, [8], [], -2147483648), (91, [8], [], 2147483647), (90, [9], [], 0), (91, [9], [], 240)], (90, [31], [], 0)) := vOk_inI fun ρ η f0 f1 f2 f3 f4 f5 f6 f7 f8 f9 f10 f11 f12 f13 f14 f15 f16 f17 f18 f19 f20 f21 f22 f23 f24 f25 f26 f27 f28 f29 f30 f31 f32 f33 f34 f35 f36 f37 => q_276_34 (q0 := q0) (n0 := ρ 9) (n1 := ρ 8) (n2 := ρ 7) (n3 := ρ 6) (n4 := ρ 5) (n5 := ρ 4) (n6 := ρ 3) (n7 := ρ 2) (n8 := ρ 1) (n9 := ρ 0) (n10 := ρ 10) (n11 := ρ 12) (n12 := ρ 13) (n13 := ρ 14) (n14 := ρ 16) (n15 := ρ 17) (n16 := ρ 19) (n17 := ρ 20) (n18 := ρ 21) (n19 := ρ 23) (n20 := ρ 24) (n21 := ρ 25) (n22 := ρ 27) (n23 := ρ 31) (H0 := η 0) (H1 := η 1) f37 f36 f35 f34 f33 f32 f31 f30 f29 f28 f27 f26 f25 f24 f23 f22 f21 f20 f19 f18 f17 f16 f15 f14 f13 f12 f11 f10 f9 f8 f7 f6 f5 f4 f3 f2 f1 f0
theorem q_276_35 {q0 : Nat} {n0 n1 n2 n3 n4 n5 n6 n7 n8 n9 n10 n11 n12 n13 n14 n15 n16 n17 n18 n19 n20 n21 n22 n23 : Int} {H0 H1 : gH} (f0 : n0 ≤ 240) (f1 : 0 ≤ n0) (f2 : n1 ≤ 2147483647) (f3 : (-2147483648) ≤ n1) (f4 : n2 ≤ 2147483647) (f5 : (-2147483648) ≤ n2) (f6 : n3 ≤ 2147483647) (f7 : (-2147483648) ≤ n3) (f8 : n4 ≤ 2) (f9 : 0 ≤ n4) (f10 : n5 ≤ 2) (f11 : 0 ≤ n5) (f12 : n6 ≤ 1007) (f13 : 0 ≤ n6) (f14 : n7 = 285) (f15 : n8 ≤ 1007) (f16 : 0 ≤ n8) (f17 : n9 = 285) (f18 : (hLe T0 H0 H1 ∧ hFr s_276.2.2.2.2 H0 H1 ∧ hWt T0 H1) ∧ (Ab_276_62 n9 n8 n7 n6 n5 n4 n3 n2 n1 n0 H0 H1 ∧ preb_276 n9 n8 H0) ∧ some q0 = some (mub_276_62 n9 n8 n7 n6 n5 n4 n3 n2 n1 n0 H0 H1)) (f19 : n10 ≤ 240) (f20 : 0 ≤ n10) (f21 : n10 = hV H1 (n7).toNat 93) (f22 : n0 < n10) (f23 : n11 = 240) (f24 : n12 = w32 (n11 * n4)) (f25 : n13 = w32 (n12 + n0)) (f26 : n14 = (-1)) (f27 : n0 ≠ n14) (f28 : n15 = w32 (n0 - n0)) (f29 : n15 ≤ n2) (f30 : n16 = 240) (f31 : n17 = w32 (n16 * n5)) (f32 : n18 = w32 (n17 + n0)) (f33 : n19 = 240) (f34 : n20 = w32 (n19 * n5)) (f35 : n21 = w32 (n20 + n0)) (f36 : n22 = n3) (f37 : n23 = w32 (n0 + 1)) : n23 ≤ 240 := by
  have g4 := f18.2.1.1
  unfold Ab_276_62 at g4
  have g3 := f18.2.1.2
  unfold preb_276 at g3
  have e1 : n10 = hV H0 285 93 := (by rw [f14] at f21; exact f21 : n10 = hV H1 285 93).trans ((f18.1.2.1.1 285 93 kF_276_285_93))
  have k0 := g4
  have p0 := g3.1
  have p1 := g3.2.1
  have p2 := g3.2.2.1
  have p3 := g3.2.2.2
  clear g3
  clear g4
  clear f21
  subst e1
  rw [f23] at f24
  rw [f30] at f31
  rw [f33] at f34
  first
  | (have ix0 : n23 = n0 + 1 := Eq.trans f37 (w32_iv (Iad (Iat f1 f0) (IC 1)) (by decide)); subst ix0; clear f37)
  | (have ix0 : n23 = n0 + 1 := Eq.trans f37 (w32_id (by omega) (by omega)); subst ix0; clear f37)
  | (unfold w32 at f37; have ix0 : n23 = n0 + 1 := (by omega); subst ix0)
  | skip
  try unfold w32 at f24
  try unfold w32 at f25
  try unfold w32 at f28
  try unfold w32 at f31
  try unfold w32 at f32
  try unfold w32 at f34
  try unfold w32 at f35
  try unfold w32 at f37
  try subst k0
  omega
theorem c_276_62_21 {q0 : Nat} : vOkm T0 (eP e_276 L_276 A_276 mu_276 (some q0)) 2 ([(10, [31, 9], [], 1), (17, [27, 6], [], 0), (1, [25, 24, 9], [], 0), (3, [24, 23, 4], [], 0), (0, [23], [], 240), (1, [21, 20, 9], [], 0), (3, [20, 19, 4], [], 0), (0, [19], [], 240), (45, [17, 7], [], 0), (2, [17, 9, 9], [], 0), (41, [9, 16], [], 0), (0, [16], [], -1), (1, [14, 13, 9], [], 0), (3, [13, 12, 5], [], 0), (0, [12], [], 240), (42, [9, 10], [], 0), (20, [10, 2], [1], 93), (90, [10], [], 0), (91, [10], [], 240), (5000, [0, 1, 2, 3, 4, 5, 6, 7, 8, 9], [0, 1], 62), (0, [0], [], 285), (90, [1], [], 0), (91, [1], [], 1007), (0, [2], [], 285), (90, [3], [], 0), (91, [3], [], 1007), (90, [4], [], 0), (91, [4], [], 2), (90, [5], [], 0), (91, [5], [], 2), (90, [6], [], -2147483648), (91, [6], [], 2147483647), (90, [7], [], -2147483648), (91, [7], [], 2147483647), (90, [8], [], -2147483648), (91, [8], [], 2147483647), (90, [9], [], 0), (91, [9], [], 240)], (91, [31], [], 240)) := vOk_inI fun ρ η f0 f1 f2 f3 f4 f5 f6 f7 f8 f9 f10 f11 f12 f13 f14 f15 f16 f17 f18 f19 f20 f21 f22 f23 f24 f25 f26 f27 f28 f29 f30 f31 f32 f33 f34 f35 f36 f37 => q_276_35 (q0 := q0) (n0 := ρ 9) (n1 := ρ 8) (n2 := ρ 7) (n3 := ρ 6) (n4 := ρ 5) (n5 := ρ 4) (n6 := ρ 3) (n7 := ρ 2) (n8 := ρ 1) (n9 := ρ 0) (n10 := ρ 10) (n11 := ρ 12) (n12 := ρ 13) (n13 := ρ 14) (n14 := ρ 16) (n15 := ρ 17) (n16 := ρ 19) (n17 := ρ 20) (n18 := ρ 21) (n19 := ρ 23) (n20 := ρ 24) (n21 := ρ 25) (n22 := ρ 27) (n23 := ρ 31) (H0 := η 0) (H1 := η 1) f37 f36 f35 f34 f33 f32 f31 f30 f29 f28 f27 f26 f25 f24 f23 f22 f21 f20 f19 f18 f17 f16 f15 f14 f13 f12 f11 f10 f9 f8 f7 f6 f5 f4 f3 f2 f1 f0
theorem q_276_36 {q0 : Nat} {n0 n1 n2 n3 n4 n5 n6 n7 n8 n9 n10 n11 n12 n13 n14 n15 n16 n17 n18 n19 n20 n21 n22 n23 n24 n25 n26 n27 n28 n29 : Int} {H0 H1 H2 : gH} (f0 : n0 ≤ 240) (f1 : 0 ≤ n0) (f2 : n1 ≤ 2147483647) (f3 : (-2147483648) ≤ n1) (f4 : n2 ≤ 2147483647) (f5 : (-2147483648) ≤ n2) (f6 : n3 ≤ 2147483647) (f7 : (-2147483648) ≤ n3) (f8 : n4 ≤ 2) (f9 : 0 ≤ n4) (f10 : n5 ≤ 2) (f11 : 0 ≤ n5) (f12 : n6 ≤ 1007) (f13 : 0 ≤ n6) (f14 : n7 = 285) (f15 : n8 ≤ 1007) (f16 : 0 ≤ n8) (f17 : n9 = 285) (f18 : (hLe T0 H0 H1 ∧ hFr s_276.2.2.2.2 H0 H1 ∧ hWt T0 H1) ∧ (Ab_276_62 n9 n8 n7 n6 n5 n4 n3 n2 n1 n0 H0 H1 ∧ preb_276 n9 n8 H0) ∧ some q0 = some (mub_276_62 n9 n8 n7 n6 n5 n4 n3 n2 n1 n0 H0 H1)) (f19 : n10 ≤ 240) (f20 : 0 ≤ n10) (f21 : n10 = hV H1 (n7).toNat 93) (f22 : n0 < n10) (f23 : n11 = 240) (f24 : n12 = w32 (n11 * n4)) (f25 : n13 = w32 (n12 + n0)) (f26 : n14 = (-1)) (f27 : n0 ≠ n14) (f28 : n15 = w32 (n0 - n0)) (f29 : n15 ≤ n2) (f30 : n16 = 349) (f31 : n16 = hV H1 (n7).toNat 89) (f32 : n17 = 240) (f33 : n18 = w32 (n17 * n5)) (f34 : n19 = w32 (n18 + n0)) (f35 : n20 = 349) (f36 : n20 = hV H1 (n7).toNat 89) (f37 : n21 = 240) (f38 : n22 = w32 (n21 * n5)) (f39 : n23 = w32 (n22 + n0)) (f40 : n24 = hV H1 (n20).toNat (n23).toNat) (f41 : n25 = n3) (f42 : n26 = o64 (fun x y => x * y) n24 n25) (f43 : n27 = 100) (f44 : n28 = o64 (fun x y => x / y) n26 n27) (f45 : hUpd H2 H1 n16 n19 n28) (f46 : n29 = w32 (n0 + 1)) : Ab_276_62 n9 n8 n7 n6 n5 n4 n3 n2 n0 n29 H0 H2 ∧ ∀ q, some q0 = some q → mub_276_62 n9 n8 n7 n6 n5 n4 n3 n2 n0 n29 H0 H2 < q := by
  have g4 := f18.2.1.1
  unfold Ab_276_62 at g4
  have g3 := f18.2.1.2
  unfold preb_276 at g3
  have g5 := Option.some.inj f18.2.2
  unfold mub_276_62 at g5
  unfold Ab_276_62
  unfold mub_276_62
  have e1 : n10 = hV H0 285 93 := (by rw [f14] at f21; exact f21 : n10 = hV H1 285 93).trans ((f18.1.2.1.1 285 93 kF_276_285_93))
  have e2 : n24 = hV H1 349 (n23).toNat := (by rw [f35] at f40; exact f40 : n24 = hV H1 349 (n23).toNat)
  have k0 := g4
  have p0 := g3.1
  have p1 := g3.2.1
  have p2 := g3.2.2.1
  have p3 := g3.2.2.2
  clear g3
  clear g4
  clear f21 f31 f36 f40
  subst e1
  subst e2
  rw [f23] at f24
  rw [f32] at f33
  rw [f37] at f38
  first
  | (have ix0 : n18 = 240 * n5 := Eq.trans f33 (w32_iv (Iml 240 rfl (Iat f11 f10)) (by decide)); subst ix0; clear f33)
  | (have ix0 : n18 = 240 * n5 := Eq.trans f33 (w32_id (by omega) (by omega)); subst ix0; clear f33)
  | (unfold w32 at f33; have ix0 : n18 = 240 * n5 := (by omega); subst ix0)
  | skip
  first
  | (have ix1 : n19 = (240 * n5) + n0 := Eq.trans f34 (w32_iv (Iad (Iml 240 rfl (Iat f11 f10)) (Iat f1 f0)) (by decide)); subst ix1; clear f34)
  | (have ix1 : n19 = (240 * n5) + n0 := Eq.trans f34 (w32_id (by omega) (by omega)); subst ix1; clear f34)
  | (unfold w32 at f34; have ix1 : n19 = (240 * n5) + n0 := (by omega); subst ix1)
  | skip
  first
  | (have ix2 : n22 = 240 * n5 := Eq.trans f38 (w32_iv (Iml 240 rfl (Iat f11 f10)) (by decide)); subst ix2; clear f38)
  | (have ix2 : n22 = 240 * n5 := Eq.trans f38 (w32_id (by omega) (by omega)); subst ix2; clear f38)
  | (unfold w32 at f38; have ix2 : n22 = 240 * n5 := (by omega); subst ix2)
  | skip
  first
  | (have ix3 : n23 = (240 * n5) + n0 := Eq.trans f39 (w32_iv (Iad (Iml 240 rfl (Iat f11 f10)) (Iat f1 f0)) (by decide)); subst ix3; clear f39)
  | (have ix3 : n23 = (240 * n5) + n0 := Eq.trans f39 (w32_id (by omega) (by omega)); subst ix3; clear f39)
  | (unfold w32 at f39; have ix3 : n23 = (240 * n5) + n0 := (by omega); subst ix3)
  | skip
  first
  | (have ix4 : n29 = n0 + 1 := Eq.trans f46 (w32_iv (Iad (Iat f1 f0) (IC 1)) (by decide)); subst ix4; clear f46)
  | (have ix4 : n29 = n0 + 1 := Eq.trans f46 (w32_id (by omega) (by omega)); subst ix4; clear f46)
  | (unfold w32 at f46; have ix4 : n29 = n0 + 1 := (by omega); subst ix4)
  | skip
  try unfold w32 at f24
  try unfold w32 at f25
  try unfold w32 at f28
  try unfold w32 at f33
  try unfold w32 at f34
  try unfold w32 at f38
  try unfold w32 at f39
  try unfold w32 at f46
  try subst k0
  refine ⟨?_, fun q hq => ?_⟩
  · first | assumption | omega | trivial
  · have g6 := Option.some.inj hq
    subst g6
    omega
theorem c_276_62_22 {q0 : Nat} : vOkm T0 (eP e_276 L_276 A_276 mu_276 (some q0)) 2 ([(10, [31, 9], [], 1), (80, [18, 21, 30], [2, 1], 1), (64, [30, 28, 29], [], 0), (0, [29], [], 100), (63, [28, 26, 27], [], 0), (17, [27, 6], [], 0), (22, [26, 22, 25], [1], 0), (1, [25, 24, 9], [], 0), (3, [24, 23, 4], [], 0), (0, [23], [], 240), (20, [22, 2], [1], 89), (0, [22], [], 349), (1, [21, 20, 9], [], 0), (3, [20, 19, 4], [], 0), (0, [19], [], 240), (20, [18, 2], [1], 89), (0, [18], [], 349), (45, [17, 7], [], 0), (2, [17, 9, 9], [], 0), (41, [9, 16], [], 0), (0, [16], [], -1), (1, [14, 13, 9], [], 0), (3, [13, 12, 5], [], 0), (0, [12], [], 240), (42, [9, 10], [], 0), (20, [10, 2], [1], 93), (90, [10], [], 0), (91, [10], [], 240), (5000, [0, 1, 2, 3, 4, 5, 6, 7, 8, 9], [0, 1], 62), (0, [0], [], 285), (90, [1], [], 0), (91, [1], [], 1007), (0, [2], [], 285), (90, [3], [], 0), (91, [3], [], 1007), (90, [4], [], 0), (91, [4], [], 2), (90, [5], [], 0), (91, [5], [], 2), (90, [6], [], -2147483648), (91, [6], [], 2147483647), (90, [7], [], -2147483648), (91, [7], [], 2147483647), (90, [8], [], -2147483648), (91, [8], [], 2147483647), (90, [9], [], 0), (91, [9], [], 240)], (4000, [2, 3, 4, 5, 6, 7, 9, 31], [2], 62)) := vOk_inI fun ρ η f0 f1 f2 f3 f4 f5 f6 f7 f8 f9 f10 f11 f12 f13 f14 f15 f16 f17 f18 f19 f20 f21 f22 f23 f24 f25 f26 f27 f28 f29 f30 f31 f32 f33 f34 f35 f36 f37 f38 f39 f40 f41 f42 f43 f44 f45 f46 => q_276_36 (q0 := q0) (n0 := ρ 9) (n1 := ρ 8) (n2 := ρ 7) (n3 := ρ 6) (n4 := ρ 5) (n5 := ρ 4) (n6 := ρ 3) (n7 := ρ 2) (n8 := ρ 1) (n9 := ρ 0) (n10 := ρ 10) (n11 := ρ 12) (n12 := ρ 13) (n13 := ρ 14) (n14 := ρ 16) (n15 := ρ 17) (n16 := ρ 18) (n17 := ρ 19) (n18 := ρ 20) (n19 := ρ 21) (n20 := ρ 22) (n21 := ρ 23) (n22 := ρ 24) (n23 := ρ 25) (n24 := ρ 26) (n25 := ρ 27) (n26 := ρ 28) (n27 := ρ 29) (n28 := ρ 30) (n29 := ρ 31) (H0 := η 0) (H1 := η 1) (H2 := η 2) f46 f45 f44 f43 f42 f41 f40 f39 f38 f37 f36 f35 f34 f33 f32 f31 f30 f29 f28 f27 f26 f25 f24 f23 f22 f21 f20 f19 f18 f17 f16 f15 f14 f13 f12 f11 f10 f9 f8 f7 f6 f5 f4 f3 f2 f1 f0
def p_276_62 : List vG := [([(1, [14, 13, 9], [], 0), (3, [13, 12, 5], [], 0), (0, [12], [], 240), (42, [9, 10], [], 0), (20, [10, 2], [1], 93), (90, [10], [], 0), (91, [10], [], 240), (5000, [0, 1, 2, 3, 4, 5, 6, 7, 8, 9], [0, 1], 62), (0, [0], [], 285), (90, [1], [], 0), (91, [1], [], 1007), (0, [2], [], 285), (90, [3], [], 0), (91, [3], [], 1007), (90, [4], [], 0), (91, [4], [], 2), (90, [5], [], 0), (91, [5], [], 2), (90, [6], [], -2147483648), (91, [6], [], 2147483647), (90, [7], [], -2147483648), (91, [7], [], 2147483647), (90, [8], [], -2147483648), (91, [8], [], 2147483647), (90, [9], [], 0), (91, [9], [], 240)], (70, [14], [], 720)),
  ([(10, [17, 9], [], 1), (40, [8, 16], [], 0), (0, [16], [], -1), (1, [14, 13, 9], [], 0), (3, [13, 12, 5], [], 0), (0, [12], [], 240), (42, [9, 10], [], 0), (20, [10, 2], [1], 93), (90, [10], [], 0), (91, [10], [], 240), (5000, [0, 1, 2, 3, 4, 5, 6, 7, 8, 9], [0, 1], 62), (0, [0], [], 285), (90, [1], [], 0), (91, [1], [], 1007), (0, [2], [], 285), (90, [3], [], 0), (91, [3], [], 1007), (90, [4], [], 0), (91, [4], [], 2), (90, [5], [], 0), (91, [5], [], 2), (90, [6], [], -2147483648), (91, [6], [], 2147483647), (90, [7], [], -2147483648), (91, [7], [], 2147483647), (90, [8], [], -2147483648), (91, [8], [], 2147483647), (90, [9], [], 0), (91, [9], [], 240)], (90, [17], [], 0)),
  ([(10, [17, 9], [], 1), (40, [8, 16], [], 0), (0, [16], [], -1), (1, [14, 13, 9], [], 0), (3, [13, 12, 5], [], 0), (0, [12], [], 240), (42, [9, 10], [], 0), (20, [10, 2], [1], 93), (90, [10], [], 0), (91, [10], [], 240), (5000, [0, 1, 2, 3, 4, 5, 6, 7, 8, 9], [0, 1], 62), (0, [0], [], 285), (90, [1], [], 0), (91, [1], [], 1007), (0, [2], [], 285), (90, [3], [], 0), (91, [3], [], 1007), (90, [4], [], 0), (91, [4], [], 2), (90, [5], [], 0), (91, [5], [], 2), (90, [6], [], -2147483648), (91, [6], [], 2147483647), (90, [7], [], -2147483648), (91, [7], [], 2147483647), (90, [8], [], -2147483648), (91, [8], [], 2147483647), (90, [9], [], 0), (91, [9], [], 240)], (91, [17], [], 240)),
  ([(10, [17, 9], [], 1), (40, [8, 16], [], 0), (0, [16], [], -1), (1, [14, 13, 9], [], 0), (3, [13, 12, 5], [], 0), (0, [12], [], 240), (42, [9, 10], [], 0), (20, [10, 2], [1], 93), (90, [10], [], 0), (91, [10], [], 240), (5000, [0, 1, 2, 3, 4, 5, 6, 7, 8, 9], [0, 1], 62), (0, [0], [], 285), (90, [1], [], 0), (91, [1], [], 1007), (0, [2], [], 285), (90, [3], [], 0), (91, [3], [], 1007), (90, [4], [], 0), (91, [4], [], 2), (90, [5], [], 0), (91, [5], [], 2), (90, [6], [], -2147483648), (91, [6], [], 2147483647), (90, [7], [], -2147483648), (91, [7], [], 2147483647), (90, [8], [], -2147483648), (91, [8], [], 2147483647), (90, [9], [], 0), (91, [9], [], 240)], (4000, [2, 3, 4, 5, 6, 7, 8, 17], [1], 62)),
  ([(10, [18, 9], [], 1), (44, [17, 7], [], 0), (2, [17, 9, 8], [], 0), (41, [8, 16], [], 0), (0, [16], [], -1), (1, [14, 13, 9], [], 0), (3, [13, 12, 5], [], 0), (0, [12], [], 240), (42, [9, 10], [], 0), (20, [10, 2], [1], 93), (90, [10], [], 0), (91, [10], [], 240), (5000, [0, 1, 2, 3, 4, 5, 6, 7, 8, 9], [0, 1], 62), (0, [0], [], 285), (90, [1], [], 0), (91, [1], [], 1007), (0, [2], [], 285), (90, [3], [], 0), (91, [3], [], 1007), (90, [4], [], 0), (91, [4], [], 2), (90, [5], [], 0), (91, [5], [], 2), (90, [6], [], -2147483648), (91, [6], [], 2147483647), (90, [7], [], -2147483648), (91, [7], [], 2147483647), (90, [8], [], -2147483648), (91, [8], [], 2147483647), (90, [9], [], 0), (91, [9], [], 240)], (90, [18], [], 0)),
  ([(10, [18, 9], [], 1), (44, [17, 7], [], 0), (2, [17, 9, 8], [], 0), (41, [8, 16], [], 0), (0, [16], [], -1), (1, [14, 13, 9], [], 0), (3, [13, 12, 5], [], 0), (0, [12], [], 240), (42, [9, 10], [], 0), (20, [10, 2], [1], 93), (90, [10], [], 0), (91, [10], [], 240), (5000, [0, 1, 2, 3, 4, 5, 6, 7, 8, 9], [0, 1], 62), (0, [0], [], 285), (90, [1], [], 0), (91, [1], [], 1007), (0, [2], [], 285), (90, [3], [], 0), (91, [3], [], 1007), (90, [4], [], 0), (91, [4], [], 2), (90, [5], [], 0), (91, [5], [], 2), (90, [6], [], -2147483648), (91, [6], [], 2147483647), (90, [7], [], -2147483648), (91, [7], [], 2147483647), (90, [8], [], -2147483648), (91, [8], [], 2147483647), (90, [9], [], 0), (91, [9], [], 240)], (91, [18], [], 240)),
  ([(10, [18, 9], [], 1), (44, [17, 7], [], 0), (2, [17, 9, 8], [], 0), (41, [8, 16], [], 0), (0, [16], [], -1), (1, [14, 13, 9], [], 0), (3, [13, 12, 5], [], 0), (0, [12], [], 240), (42, [9, 10], [], 0), (20, [10, 2], [1], 93), (90, [10], [], 0), (91, [10], [], 240), (5000, [0, 1, 2, 3, 4, 5, 6, 7, 8, 9], [0, 1], 62), (0, [0], [], 285), (90, [1], [], 0), (91, [1], [], 1007), (0, [2], [], 285), (90, [3], [], 0), (91, [3], [], 1007), (90, [4], [], 0), (91, [4], [], 2), (90, [5], [], 0), (91, [5], [], 2), (90, [6], [], -2147483648), (91, [6], [], 2147483647), (90, [7], [], -2147483648), (91, [7], [], 2147483647), (90, [8], [], -2147483648), (91, [8], [], 2147483647), (90, [9], [], 0), (91, [9], [], 240)], (4000, [2, 3, 4, 5, 6, 7, 8, 18], [1], 62)),
  ([(1, [25, 24, 9], [], 0), (3, [24, 23, 4], [], 0), (0, [23], [], 240), (1, [21, 20, 9], [], 0), (3, [20, 19, 4], [], 0), (0, [19], [], 240), (45, [17, 7], [], 0), (2, [17, 9, 8], [], 0), (41, [8, 16], [], 0), (0, [16], [], -1), (1, [14, 13, 9], [], 0), (3, [13, 12, 5], [], 0), (0, [12], [], 240), (42, [9, 10], [], 0), (20, [10, 2], [1], 93), (90, [10], [], 0), (91, [10], [], 240), (5000, [0, 1, 2, 3, 4, 5, 6, 7, 8, 9], [0, 1], 62), (0, [0], [], 285), (90, [1], [], 0), (91, [1], [], 1007), (0, [2], [], 285), (90, [3], [], 0), (91, [3], [], 1007), (90, [4], [], 0), (91, [4], [], 2), (90, [5], [], 0), (91, [5], [], 2), (90, [6], [], -2147483648), (91, [6], [], 2147483647), (90, [7], [], -2147483648), (91, [7], [], 2147483647), (90, [8], [], -2147483648), (91, [8], [], 2147483647), (90, [9], [], 0), (91, [9], [], 240)], (70, [25], [], 720)),
  ([(17, [27, 6], [], 0), (1, [25, 24, 9], [], 0), (3, [24, 23, 4], [], 0), (0, [23], [], 240), (1, [21, 20, 9], [], 0), (3, [20, 19, 4], [], 0), (0, [19], [], 240), (45, [17, 7], [], 0), (2, [17, 9, 8], [], 0), (41, [8, 16], [], 0), (0, [16], [], -1), (1, [14, 13, 9], [], 0), (3, [13, 12, 5], [], 0), (0, [12], [], 240), (42, [9, 10], [], 0), (20, [10, 2], [1], 93), (90, [10], [], 0), (91, [10], [], 240), (5000, [0, 1, 2, 3, 4, 5, 6, 7, 8, 9], [0, 1], 62), (0, [0], [], 285), (90, [1], [], 0), (91, [1], [], 1007), (0, [2], [], 285), (90, [3], [], 0), (91, [3], [], 1007), (90, [4], [], 0), (91, [4], [], 2), (90, [5], [], 0), (91, [5], [], 2), (90, [6], [], -2147483648), (91, [6], [], 2147483647), (90, [7], [], -2147483648), (91, [7], [], 2147483647), (90, [8], [], -2147483648), (91, [8], [], 2147483647), (90, [9], [], 0), (91, [9], [], 240)], (70, [21], [], 720)),
  ([(10, [31, 9], [], 1), (17, [27, 6], [], 0), (1, [25, 24, 9], [], 0), (3, [24, 23, 4], [], 0), (0, [23], [], 240), (1, [21, 20, 9], [], 0), (3, [20, 19, 4], [], 0), (0, [19], [], 240), (45, [17, 7], [], 0), (2, [17, 9, 8], [], 0), (41, [8, 16], [], 0), (0, [16], [], -1), (1, [14, 13, 9], [], 0), (3, [13, 12, 5], [], 0), (0, [12], [], 240), (42, [9, 10], [], 0), (20, [10, 2], [1], 93), (90, [10], [], 0), (91, [10], [], 240), (5000, [0, 1, 2, 3, 4, 5, 6, 7, 8, 9], [0, 1], 62), (0, [0], [], 285), (90, [1], [], 0), (91, [1], [], 1007), (0, [2], [], 285), (90, [3], [], 0), (91, [3], [], 1007), (90, [4], [], 0), (91, [4], [], 2), (90, [5], [], 0), (91, [5], [], 2), (90, [6], [], -2147483648), (91, [6], [], 2147483647), (90, [7], [], -2147483648), (91, [7], [], 2147483647), (90, [8], [], -2147483648), (91, [8], [], 2147483647), (90, [9], [], 0), (91, [9], [], 240)], (90, [31], [], 0)),
  ([(10, [31, 9], [], 1), (17, [27, 6], [], 0), (1, [25, 24, 9], [], 0), (3, [24, 23, 4], [], 0), (0, [23], [], 240), (1, [21, 20, 9], [], 0), (3, [20, 19, 4], [], 0), (0, [19], [], 240), (45, [17, 7], [], 0), (2, [17, 9, 8], [], 0), (41, [8, 16], [], 0), (0, [16], [], -1), (1, [14, 13, 9], [], 0), (3, [13, 12, 5], [], 0), (0, [12], [], 240), (42, [9, 10], [], 0), (20, [10, 2], [1], 93), (90, [10], [], 0), (91, [10], [], 240), (5000, [0, 1, 2, 3, 4, 5, 6, 7, 8, 9], [0, 1], 62), (0, [0], [], 285), (90, [1], [], 0), (91, [1], [], 1007), (0, [2], [], 285), (90, [3], [], 0), (91, [3], [], 1007), (90, [4], [], 0), (91, [4], [], 2), (90, [5], [], 0), (91, [5], [], 2), (90, [6], [], -2147483648), (91, [6], [], 2147483647), (90, [7], [], -2147483648), (91, [7], [], 2147483647), (90, [8], [], -2147483648), (91, [8], [], 2147483647), (90, [9], [], 0), (91, [9], [], 240)], (91, [31], [], 240)),
  ([(10, [31, 9], [], 1), (80, [18, 21, 30], [2, 1], 1), (64, [30, 28, 29], [], 0), (0, [29], [], 100), (63, [28, 26, 27], [], 0), (17, [27, 6], [], 0), (22, [26, 22, 25], [1], 0), (1, [25, 24, 9], [], 0), (3, [24, 23, 4], [], 0), (0, [23], [], 240), (20, [22, 2], [1], 89), (0, [22], [], 349), (1, [21, 20, 9], [], 0), (3, [20, 19, 4], [], 0), (0, [19], [], 240), (20, [18, 2], [1], 89), (0, [18], [], 349), (45, [17, 7], [], 0), (2, [17, 9, 8], [], 0), (41, [8, 16], [], 0), (0, [16], [], -1), (1, [14, 13, 9], [], 0), (3, [13, 12, 5], [], 0), (0, [12], [], 240), (42, [9, 10], [], 0), (20, [10, 2], [1], 93), (90, [10], [], 0), (91, [10], [], 240), (5000, [0, 1, 2, 3, 4, 5, 6, 7, 8, 9], [0, 1], 62), (0, [0], [], 285), (90, [1], [], 0), (91, [1], [], 1007), (0, [2], [], 285), (90, [3], [], 0), (91, [3], [], 1007), (90, [4], [], 0), (91, [4], [], 2), (90, [5], [], 0), (91, [5], [], 2), (90, [6], [], -2147483648), (91, [6], [], 2147483647), (90, [7], [], -2147483648), (91, [7], [], 2147483647), (90, [8], [], -2147483648), (91, [8], [], 2147483647), (90, [9], [], 0), (91, [9], [], 240)], (4000, [2, 3, 4, 5, 6, 7, 8, 31], [2], 62)),
  ([(10, [17, 9], [], 1), (40, [9, 16], [], 0), (0, [16], [], -1), (1, [14, 13, 9], [], 0), (3, [13, 12, 5], [], 0), (0, [12], [], 240), (42, [9, 10], [], 0), (20, [10, 2], [1], 93), (90, [10], [], 0), (91, [10], [], 240), (5000, [0, 1, 2, 3, 4, 5, 6, 7, 8, 9], [0, 1], 62), (0, [0], [], 285), (90, [1], [], 0), (91, [1], [], 1007), (0, [2], [], 285), (90, [3], [], 0), (91, [3], [], 1007), (90, [4], [], 0), (91, [4], [], 2), (90, [5], [], 0), (91, [5], [], 2), (90, [6], [], -2147483648), (91, [6], [], 2147483647), (90, [7], [], -2147483648), (91, [7], [], 2147483647), (90, [8], [], -2147483648), (91, [8], [], 2147483647), (90, [9], [], 0), (91, [9], [], 240)], (90, [17], [], 0)),
  ([(10, [17, 9], [], 1), (40, [9, 16], [], 0), (0, [16], [], -1), (1, [14, 13, 9], [], 0), (3, [13, 12, 5], [], 0), (0, [12], [], 240), (42, [9, 10], [], 0), (20, [10, 2], [1], 93), (90, [10], [], 0), (91, [10], [], 240), (5000, [0, 1, 2, 3, 4, 5, 6, 7, 8, 9], [0, 1], 62), (0, [0], [], 285), (90, [1], [], 0), (91, [1], [], 1007), (0, [2], [], 285), (90, [3], [], 0), (91, [3], [], 1007), (90, [4], [], 0), (91, [4], [], 2), (90, [5], [], 0), (91, [5], [], 2), (90, [6], [], -2147483648), (91, [6], [], 2147483647), (90, [7], [], -2147483648), (91, [7], [], 2147483647), (90, [8], [], -2147483648), (91, [8], [], 2147483647), (90, [9], [], 0), (91, [9], [], 240)], (91, [17], [], 240)),
  ([(10, [17, 9], [], 1), (40, [9, 16], [], 0), (0, [16], [], -1), (1, [14, 13, 9], [], 0), (3, [13, 12, 5], [], 0), (0, [12], [], 240), (42, [9, 10], [], 0), (20, [10, 2], [1], 93), (90, [10], [], 0), (91, [10], [], 240), (5000, [0, 1, 2, 3, 4, 5, 6, 7, 8, 9], [0, 1], 62), (0, [0], [], 285), (90, [1], [], 0), (91, [1], [], 1007), (0, [2], [], 285), (90, [3], [], 0), (91, [3], [], 1007), (90, [4], [], 0), (91, [4], [], 2), (90, [5], [], 0), (91, [5], [], 2), (90, [6], [], -2147483648), (91, [6], [], 2147483647), (90, [7], [], -2147483648), (91, [7], [], 2147483647), (90, [8], [], -2147483648), (91, [8], [], 2147483647), (90, [9], [], 0), (91, [9], [], 240)], (4000, [2, 3, 4, 5, 6, 7, 9, 17], [1], 62)),
  ([(10, [18, 9], [], 1), (44, [17, 7], [], 0), (2, [17, 9, 9], [], 0), (41, [9, 16], [], 0), (0, [16], [], -1), (1, [14, 13, 9], [], 0), (3, [13, 12, 5], [], 0), (0, [12], [], 240), (42, [9, 10], [], 0), (20, [10, 2], [1], 93), (90, [10], [], 0), (91, [10], [], 240), (5000, [0, 1, 2, 3, 4, 5, 6, 7, 8, 9], [0, 1], 62), (0, [0], [], 285), (90, [1], [], 0), (91, [1], [], 1007), (0, [2], [], 285), (90, [3], [], 0), (91, [3], [], 1007), (90, [4], [], 0), (91, [4], [], 2), (90, [5], [], 0), (91, [5], [], 2), (90, [6], [], -2147483648), (91, [6], [], 2147483647), (90, [7], [], -2147483648), (91, [7], [], 2147483647), (90, [8], [], -2147483648), (91, [8], [], 2147483647), (90, [9], [], 0), (91, [9], [], 240)], (90, [18], [], 0)),
  ([(10, [18, 9], [], 1), (44, [17, 7], [], 0), (2, [17, 9, 9], [], 0), (41, [9, 16], [], 0), (0, [16], [], -1), (1, [14, 13, 9], [], 0), (3, [13, 12, 5], [], 0), (0, [12], [], 240), (42, [9, 10], [], 0), (20, [10, 2], [1], 93), (90, [10], [], 0), (91, [10], [], 240), (5000, [0, 1, 2, 3, 4, 5, 6, 7, 8, 9], [0, 1], 62), (0, [0], [], 285), (90, [1], [], 0), (91, [1], [], 1007), (0, [2], [], 285), (90, [3], [], 0), (91, [3], [], 1007), (90, [4], [], 0), (91, [4], [], 2), (90, [5], [], 0), (91, [5], [], 2), (90, [6], [], -2147483648), (91, [6], [], 2147483647), (90, [7], [], -2147483648), (91, [7], [], 2147483647), (90, [8], [], -2147483648), (91, [8], [], 2147483647), (90, [9], [], 0), (91, [9], [], 240)], (91, [18], [], 240)),
  ([(10, [18, 9], [], 1), (44, [17, 7], [], 0), (2, [17, 9, 9], [], 0), (41, [9, 16], [], 0), (0, [16], [], -1), (1, [14, 13, 9], [], 0), (3, [13, 12, 5], [], 0), (0, [12], [], 240), (42, [9, 10], [], 0), (20, [10, 2], [1], 93), (90, [10], [], 0), (91, [10], [], 240), (5000, [0, 1, 2, 3, 4, 5, 6, 7, 8, 9], [0, 1], 62), (0, [0], [], 285), (90, [1], [], 0), (91, [1], [], 1007), (0, [2], [], 285), (90, [3], [], 0), (91, [3], [], 1007), (90, [4], [], 0), (91, [4], [], 2), (90, [5], [], 0), (91, [5], [], 2), (90, [6], [], -2147483648), (91, [6], [], 2147483647), (90, [7], [], -2147483648), (91, [7], [], 2147483647), (90, [8], [], -2147483648), (91, [8], [], 2147483647), (90, [9], [], 0), (91, [9], [], 240)], (4000, [2, 3, 4, 5, 6, 7, 9, 18], [1], 62)),
  ([(1, [25, 24, 9], [], 0), (3, [24, 23, 4], [], 0), (0, [23], [], 240), (1, [21, 20, 9], [], 0), (3, [20, 19, 4], [], 0), (0, [19], [], 240), (45, [17, 7], [], 0), (2, [17, 9, 9], [], 0), (41, [9, 16], [], 0), (0, [16], [], -1), (1, [14, 13, 9], [], 0), (3, [13, 12, 5], [], 0), (0, [12], [], 240), (42, [9, 10], [], 0), (20, [10, 2], [1], 93), (90, [10], [], 0), (91, [10], [], 240), (5000, [0, 1, 2, 3, 4, 5, 6, 7, 8, 9], [0, 1], 62), (0, [0], [], 285), (90, [1], [], 0), (91, [1], [], 1007), (0, [2], [], 285), (90, [3], [], 0), (91, [3], [], 1007), (90, [4], [], 0), (91, [4], [], 2), (90, [5], [], 0), (91, [5], [], 2), (90, [6], [], -2147483648), (91, [6], [], 2147483647), (90, [7], [], -2147483648), (91, [7], [], 2147483647), (90, [8], [], -2147483648), (91, [8], [], 2147483647), (90, [9], [], 0), (91, [9], [], 240)], (70, [25], [], 720)),
  ([(17, [27, 6], [], 0), (1, [25, 24, 9], [], 0), (3, [24, 23, 4], [], 0), (0, [23], [], 240), (1, [21, 20, 9], [], 0), (3, [20, 19, 4], [], 0), (0, [19], [], 240), (45, [17, 7], [], 0), (2, [17, 9, 9], [], 0), (41, [9, 16], [], 0), (0, [16], [], -1), (1, [14, 13, 9], [], 0), (3, [13, 12, 5], [], 0), (0, [12], [], 240), (42, [9, 10], [], 0), (20, [10, 2], [1], 93), (90, [10], [], 0), (91, [10], [], 240), (5000, [0, 1, 2, 3, 4, 5, 6, 7, 8, 9], [0, 1], 62), (0, [0], [], 285), (90, [1], [], 0), (91, [1], [], 1007), (0, [2], [], 285), (90, [3], [], 0), (91, [3], [], 1007), (90, [4], [], 0), (91, [4], [], 2), (90, [5], [], 0), (91, [5], [], 2), (90, [6], [], -2147483648), (91, [6], [], 2147483647), (90, [7], [], -2147483648), (91, [7], [], 2147483647), (90, [8], [], -2147483648), (91, [8], [], 2147483647), (90, [9], [], 0), (91, [9], [], 240)], (70, [21], [], 720)),
  ([(10, [31, 9], [], 1), (17, [27, 6], [], 0), (1, [25, 24, 9], [], 0), (3, [24, 23, 4], [], 0), (0, [23], [], 240), (1, [21, 20, 9], [], 0), (3, [20, 19, 4], [], 0), (0, [19], [], 240), (45, [17, 7], [], 0), (2, [17, 9, 9], [], 0), (41, [9, 16], [], 0), (0, [16], [], -1), (1, [14, 13, 9], [], 0), (3, [13, 12, 5], [], 0), (0, [12], [], 240), (42, [9, 10], [], 0), (20, [10, 2], [1], 93), (90, [10], [], 0), (91, [10], [], 240), (5000, [0, 1, 2, 3, 4, 5, 6, 7, 8, 9], [0, 1], 62), (0, [0], [], 285), (90, [1], [], 0), (91, [1], [], 1007), (0, [2], [], 285), (90, [3], [], 0), (91, [3], [], 1007), (90, [4], [], 0), (91, [4], [], 2), (90, [5], [], 0), (91, [5], [], 2), (90, [6], [], -2147483648), (91, [6], [], 2147483647), (90, [7], [], -2147483648), (91, [7], [], 2147483647), (90, [8], [], -2147483648), (91, [8], [], 2147483647), (90, [9], [], 0), (91, [9], [], 240)], (90, [31], [], 0)),
  ([(10, [31, 9], [], 1), (17, [27, 6], [], 0), (1, [25, 24, 9], [], 0), (3, [24, 23, 4], [], 0), (0, [23], [], 240), (1, [21, 20, 9], [], 0), (3, [20, 19, 4], [], 0), (0, [19], [], 240), (45, [17, 7], [], 0), (2, [17, 9, 9], [], 0), (41, [9, 16], [], 0), (0, [16], [], -1), (1, [14, 13, 9], [], 0), (3, [13, 12, 5], [], 0), (0, [12], [], 240), (42, [9, 10], [], 0), (20, [10, 2], [1], 93), (90, [10], [], 0), (91, [10], [], 240), (5000, [0, 1, 2, 3, 4, 5, 6, 7, 8, 9], [0, 1], 62), (0, [0], [], 285), (90, [1], [], 0), (91, [1], [], 1007), (0, [2], [], 285), (90, [3], [], 0), (91, [3], [], 1007), (90, [4], [], 0), (91, [4], [], 2), (90, [5], [], 0), (91, [5], [], 2), (90, [6], [], -2147483648), (91, [6], [], 2147483647), (90, [7], [], -2147483648), (91, [7], [], 2147483647), (90, [8], [], -2147483648), (91, [8], [], 2147483647), (90, [9], [], 0), (91, [9], [], 240)], (91, [31], [], 240)),
  ([(10, [31, 9], [], 1), (80, [18, 21, 30], [2, 1], 1), (64, [30, 28, 29], [], 0), (0, [29], [], 100), (63, [28, 26, 27], [], 0), (17, [27, 6], [], 0), (22, [26, 22, 25], [1], 0), (1, [25, 24, 9], [], 0), (3, [24, 23, 4], [], 0), (0, [23], [], 240), (20, [22, 2], [1], 89), (0, [22], [], 349), (1, [21, 20, 9], [], 0), (3, [20, 19, 4], [], 0), (0, [19], [], 240), (20, [18, 2], [1], 89), (0, [18], [], 349), (45, [17, 7], [], 0), (2, [17, 9, 9], [], 0), (41, [9, 16], [], 0), (0, [16], [], -1), (1, [14, 13, 9], [], 0), (3, [13, 12, 5], [], 0), (0, [12], [], 240), (42, [9, 10], [], 0), (20, [10, 2], [1], 93), (90, [10], [], 0), (91, [10], [], 240), (5000, [0, 1, 2, 3, 4, 5, 6, 7, 8, 9], [0, 1], 62), (0, [0], [], 285), (90, [1], [], 0), (91, [1], [], 1007), (0, [2], [], 285), (90, [3], [], 0), (91, [3], [], 1007), (90, [4], [], 0), (91, [4], [], 2), (90, [5], [], 0), (91, [5], [], 2), (90, [6], [], -2147483648), (91, [6], [], 2147483647), (90, [7], [], -2147483648), (91, [7], [], 2147483647), (90, [8], [], -2147483648), (91, [8], [], 2147483647), (90, [9], [], 0), (91, [9], [], 240)], (4000, [2, 3, 4, 5, 6, 7, 9, 31], [2], 62))]
theorem r_276_62 : vCovO true (eRc e_276 L_276 cs_276 2000 (62, [(0, (3, 12, 285, 0)), (1, (0, 0, 1007, 0)), (2, (0, 0, 2, 0)), (3, (0, 0, 2, 0)), (4, (0, -2147483648, 2147483647, 0)), (5, (0, -2147483648, 2147483647, 0)), (6, (0, -2147483648, 2147483647, 0)), (7, (0, 0, 240, 0))])) p_276_62 = true := by decide +kernel
theorem m_276 (d : Nat) : eC e_276 (d + 1) := eC_ok (e := e_276) (L := L_276) (cs := cs_276) (n := 2000) (d := d + 0) (A := A_276) (μ := mu_276) (tp := true) (p0 := p_276_s) rfl trivial rfl (.inl rfl) (by decide +kernel) (fun _ => post0_ok) r_276_s (allC c_276_s_0 (allC c_276_s_1 (allC c_276_s_2 (allC c_276_s_3 (allC c_276_s_4 (allC c_276_s_5 (allC c_276_s_6 (allC c_276_s_7 (allC c_276_s_8 (allC c_276_s_9 (allC c_276_s_10 (allC c_276_s_11 (allC c_276_s_12 (allC c_276_s_13 allN)))))))))))))) (allC (.inl ⟨p_276_62, r_276_62, fun q0 => (allC c_276_62_0 (allC c_276_62_1 (allC c_276_62_2 (allC c_276_62_3 (allC c_276_62_4 (allC c_276_62_5 (allC c_276_62_6 (allC c_276_62_7 (allC c_276_62_8 (allC c_276_62_9 (allC c_276_62_10 (allC c_276_62_11 (allC c_276_62_12 (allC c_276_62_13 (allC c_276_62_14 (allC c_276_62_15 (allC c_276_62_16 (allC c_276_62_17 (allC c_276_62_18 (allC c_276_62_19 (allC c_276_62_20 (allC c_276_62_21 (allC c_276_62_22 allN)))))))))))))))))))))))⟩) allN)
/- MixStageModel.taps (I)V -/
noncomputable def s_277 : vM := ([(3, 12, 285, 0), (0, 0, 1007, 0)], (9, 0, 0, 0), 1, 0, [(621, 0), (637, 0)])
def preb_277 (a0 a1 : Int) (h : gH) : Prop := 0 ≤ hV h 300 ((a1).toNat) ∧ hV h 300 ((a1).toNat) ≤ 2 ∧ hV h 305 ((6 * a1).toNat) ≤ 4
def pre_277 : List Int → gH → Prop := fun xs h => match xs with
  | [a0, a1] => preb_277 a0 a1 h
  | _ => False
noncomputable def e_277 : vE := (277, s_277, pre_277, post0)
noncomputable def L_277 : List vE := []
def cs_277 : List vC := [(9, [(0, (3, 12, 285, 0)), (1, (0, 0, 1007, 0)), (2, (0, 0, 2, 0)), (3, (0, 0, 240, 0))]), (43, [(0, (3, 12, 285, 0)), (1, (0, 0, 1007, 0)), (2, (0, 0, 2, 0)), (3, (0, 0, 240, 0))]), (57, [(0, (3, 12, 285, 0)), (1, (0, 0, 1007, 0)), (2, (0, 0, 2, 0)), (3, (0, 0, 239, 0)), (4, (1, 0, 0, 0)), (6, (0, 0, 5, 0))])]
def Ab_277_9 (a0 a1 x0 x1 x2 x3 : Int) (h0 h : gH) : Prop := x1 = a1
def mub_277_9 (a0 a1 x0 x1 x2 x3 : Int) (h0 h : gH) : Nat := (17179869184 + (2147483648 - x3).toNat) * 1099511627776 + 1099511627775
def Ab_277_43 (a0 a1 x0 x1 x2 x3 : Int) (h0 h : gH) : Prop := x1 = a1
def mub_277_43 (a0 a1 x0 x1 x2 x3 : Int) (h0 h : gH) : Nat := (8589934592 + (2147483648 - x3).toNat) * 1099511627776 + 1099511627775
def Ab_277_57 (a0 a1 x0 x1 x2 x3 x4 x6 : Int) (h0 h : gH) : Prop := x1 = a1
def mub_277_57 (a0 a1 x0 x1 x2 x3 x4 x6 : Int) (h0 h : gH) : Nat := (8589934592 + (2147483648 - x3).toNat) * 1099511627776 + (8589934592 + (2147483648 - x6).toNat) * 1
def A_277 : Int → List Int → gH → gH → Prop := fun c xs h0 h => match c.toNat with
  | 9 => (match xs with
    | [a0, a1, x0, x1, x2, x3] => Ab_277_9 a0 a1 x0 x1 x2 x3 h0 h
    | _ => False)
  | 43 => (match xs with
    | [a0, a1, x0, x1, x2, x3] => Ab_277_43 a0 a1 x0 x1 x2 x3 h0 h
    | _ => False)
  | 57 => (match xs with
    | [a0, a1, x0, x1, x2, x3, x4, x6] => Ab_277_57 a0 a1 x0 x1 x2 x3 x4 x6 h0 h
    | _ => False)
  | _ => True
def mu_277 : Int → List Int → gH → gH → Nat := fun c xs h0 h => match c.toNat with
  | 9 => (match xs with
    | [a0, a1, x0, x1, x2, x3] => mub_277_9 a0 a1 x0 x1 x2 x3 h0 h
    | _ => 0)
  | 43 => (match xs with
    | [a0, a1, x0, x1, x2, x3] => mub_277_43 a0 a1 x0 x1 x2 x3 h0 h
    | _ => 0)
  | 57 => (match xs with
    | [a0, a1, x0, x1, x2, x3, x4, x6] => mub_277_57 a0 a1 x0 x1 x2 x3 x4 x6 h0 h
    | _ => 0)
  | _ => 0
theorem q_277_0 {n0 n1 n2 n3 : Int} {H0 : gH} (f0 : n0 ≤ 1007) (f1 : 0 ≤ n0) (f2 : n1 = 285) (f3 : hWt T0 H0 ∧ preb_277 n1 n0 H0) (f4 : n2 = 300) (f5 : n2 = hV H0 (n1).toNat 26) (f6 : n3 ≤ 9999) (f7 : (-1) ≤ n3) (f8 : n3 = hV H0 (n2).toNat (n0).toNat) : 0 ≤ n3 := by
  unfold preb_277 at f3
  have e0 : n3 = hV H0 300 (n0).toNat := (by rw [f4] at f8; exact f8 : n3 = hV H0 300 (n0).toNat)
  have p0 := f3.2.1
  have p1 := f3.2.2.1
  have p2 := f3.2.2.2
  clear f5 f8
  subst e0
  omega
theorem c_277_s_0 : vOkm T0 (eP e_277 L_277 A_277 mu_277 none) 2 ([(22, [3, 2, 1], [0], 0), (90, [3], [], -1), (91, [3], [], 9999), (20, [2, 0], [0], 26), (0, [2], [], 300), (6000, [0, 1], [0], 0), (0, [0], [], 285), (90, [1], [], 0), (91, [1], [], 1007)], (90, [3], [], 0)) := vOk_inI fun ρ η f0 f1 f2 f3 f4 f5 f6 f7 f8 => q_277_0 (n0 := ρ 1) (n1 := ρ 0) (n2 := ρ 2) (n3 := ρ 3) (H0 := η 0) f8 f7 f6 f5 f4 f3 f2 f1 f0
theorem q_277_1 {n0 n1 n2 n3 : Int} {H0 : gH} (f0 : n0 ≤ 1007) (f1 : 0 ≤ n0) (f2 : n1 = 285) (f3 : hWt T0 H0 ∧ preb_277 n1 n0 H0) (f4 : n2 = 300) (f5 : n2 = hV H0 (n1).toNat 26) (f6 : n3 ≤ 9999) (f7 : (-1) ≤ n3) (f8 : n3 = hV H0 (n2).toNat (n0).toNat) : n3 ≤ 2 := by
  unfold preb_277 at f3
  have e0 : n3 = hV H0 300 (n0).toNat := (by rw [f4] at f8; exact f8 : n3 = hV H0 300 (n0).toNat)
  have p0 := f3.2.1
  have p1 := f3.2.2.1
  have p2 := f3.2.2.2
  clear f5 f8
  subst e0
  omega
theorem c_277_s_1 : vOkm T0 (eP e_277 L_277 A_277 mu_277 none) 2 ([(22, [3, 2, 1], [0], 0), (90, [3], [], -1), (91, [3], [], 9999), (20, [2, 0], [0], 26), (0, [2], [], 300), (6000, [0, 1], [0], 0), (0, [0], [], 285), (90, [1], [], 0), (91, [1], [], 1007)], (91, [3], [], 2)) := vOk_inI fun ρ η f0 f1 f2 f3 f4 f5 f6 f7 f8 => q_277_1 (n0 := ρ 1) (n1 := ρ 0) (n2 := ρ 2) (n3 := ρ 3) (H0 := η 0) f8 f7 f6 f5 f4 f3 f2 f1 f0
theorem q_277_2 {n0 n1 n2 n3 n4 : Int} {H0 : gH} (f0 : n0 ≤ 1007) (f1 : 0 ≤ n0) (f2 : n1 = 285) (f3 : hWt T0 H0 ∧ preb_277 n1 n0 H0) (f4 : n2 = 300) (f5 : n2 = hV H0 (n1).toNat 26) (f6 : n3 ≤ 9999) (f7 : (-1) ≤ n3) (f8 : n3 = hV H0 (n2).toNat (n0).toNat) (f9 : n4 = 0) : Ab_277_9 n1 n0 n1 n0 n3 n4 H0 H0 ∧ ∀ q, none = some q → mub_277_9 n1 n0 n1 n0 n3 n4 H0 H0 < q := by
  unfold preb_277 at f3
  unfold Ab_277_9
  have e0 : n3 = hV H0 300 (n0).toNat := (by rw [f4] at f8; exact f8 : n3 = hV H0 300 (n0).toNat)
  have p0 := f3.2.1
  have p1 := f3.2.2.1
  have p2 := f3.2.2.2
  clear f5 f8
  subst e0
  refine ⟨?_, fun q hq => ?_⟩
  · first | assumption | omega | trivial
  · exact nomatch hq
theorem c_277_s_2 : vOkm T0 (eP e_277 L_277 A_277 mu_277 none) 2 ([(0, [4], [], 0), (22, [3, 2, 1], [0], 0), (90, [3], [], -1), (91, [3], [], 9999), (20, [2, 0], [0], 26), (0, [2], [], 300), (6000, [0, 1], [0], 0), (0, [0], [], 285), (90, [1], [], 0), (91, [1], [], 1007)], (4000, [0, 1, 3, 4], [0], 9)) := vOk_inI fun ρ η f0 f1 f2 f3 f4 f5 f6 f7 f8 f9 => q_277_2 (n0 := ρ 1) (n1 := ρ 0) (n2 := ρ 2) (n3 := ρ 3) (n4 := ρ 4) (H0 := η 0) f9 f8 f7 f6 f5 f4 f3 f2 f1 f0
def p_277_s : List vG := [([(22, [3, 2, 1], [0], 0), (90, [3], [], -1), (91, [3], [], 9999), (20, [2, 0], [0], 26), (0, [2], [], 300), (6000, [0, 1], [0], 0), (0, [0], [], 285), (90, [1], [], 0), (91, [1], [], 1007)], (90, [3], [], 0)),
  ([(22, [3, 2, 1], [0], 0), (90, [3], [], -1), (91, [3], [], 9999), (20, [2, 0], [0], 26), (0, [2], [], 300), (6000, [0, 1], [0], 0), (0, [0], [], 285), (90, [1], [], 0), (91, [1], [], 1007)], (91, [3], [], 2)),
  ([(0, [4], [], 0), (22, [3, 2, 1], [0], 0), (90, [3], [], -1), (91, [3], [], 9999), (20, [2, 0], [0], 26), (0, [2], [], 300), (6000, [0, 1], [0], 0), (0, [0], [], 285), (90, [1], [], 0), (91, [1], [], 1007)], (4000, [0, 1, 3, 4], [0], 9))]
theorem r_277_s : vCovO true (eR0 e_277 L_277 cs_277 2000) p_277_s = true := by decide +kernel
theorem kF_277_285_93 : vFree s_277.2.2.2.2 285 93 = true := by decide +kernel
theorem q_277_3 {q0 : Nat} {n0 n1 n2 n3 n4 n5 n6 n7 : Int} {H0 H1 : gH} (f0 : n0 ≤ 240) (f1 : 0 ≤ n0) (f2 : n1 ≤ 2) (f3 : 0 ≤ n1) (f4 : n2 ≤ 1007) (f5 : 0 ≤ n2) (f6 : n3 = 285) (f7 : n4 ≤ 1007) (f8 : 0 ≤ n4) (f9 : n5 = 285) (f10 : (hLe T0 H0 H1 ∧ hFr s_277.2.2.2.2 H0 H1 ∧ hWt T0 H1) ∧ (Ab_277_9 n5 n4 n3 n2 n1 n0 H0 H1 ∧ preb_277 n5 n4 H0) ∧ some q0 = some (mub_277_9 n5 n4 n3 n2 n1 n0 H0 H1)) (f11 : n6 ≤ 240) (f12 : 0 ≤ n6) (f13 : n6 = hV H1 (n3).toNat 93) (f14 : n6 ≤ n0) (f15 : n7 = 0) : Ab_277_43 n5 n4 n3 n2 n1 n7 H0 H1 ∧ ∀ q, some q0 = some q → mub_277_43 n5 n4 n3 n2 n1 n7 H0 H1 < q := by
  have g4 := f10.2.1.1
  unfold Ab_277_9 at g4
  have g3 := f10.2.1.2
  unfold preb_277 at g3
  have g5 := Option.some.inj f10.2.2
  unfold mub_277_9 at g5
  unfold Ab_277_43
  unfold mub_277_43
  have e1 : n6 = hV H0 285 93 := (by rw [f6] at f13; exact f13 : n6 = hV H1 285 93).trans ((f10.1.2.1.1 285 93 kF_277_285_93))
  have k0 := g4
  have p0 := g3.1
  have p1 := g3.2.1
  have p2 := g3.2.2
  clear g3
  clear g4
  clear f13
  subst e1
  try subst k0
  refine ⟨?_, fun q hq => ?_⟩
  · first | assumption | omega | trivial
  · have g6 := Option.some.inj hq
    subst g6
    omega
theorem c_277_9_0 {q0 : Nat} : vOkm T0 (eP e_277 L_277 A_277 mu_277 (some q0)) 2 ([(0, [7], [], 0), (43, [5, 6], [], 0), (20, [6, 2], [1], 93), (90, [6], [], 0), (91, [6], [], 240), (5000, [0, 1, 2, 3, 4, 5], [0, 1], 9), (0, [0], [], 285), (90, [1], [], 0), (91, [1], [], 1007), (0, [2], [], 285), (90, [3], [], 0), (91, [3], [], 1007), (90, [4], [], 0), (91, [4], [], 2), (90, [5], [], 0), (91, [5], [], 240)], (4000, [2, 3, 4, 7], [1], 43)) := vOk_inI fun ρ η f0 f1 f2 f3 f4 f5 f6 f7 f8 f9 f10 f11 f12 f13 f14 f15 => q_277_3 (q0 := q0) (n0 := ρ 5) (n1 := ρ 4) (n2 := ρ 3) (n3 := ρ 2) (n4 := ρ 1) (n5 := ρ 0) (n6 := ρ 6) (n7 := ρ 7) (H0 := η 0) (H1 := η 1) f15 f14 f13 f12 f11 f10 f9 f8 f7 f6 f5 f4 f3 f2 f1 f0
theorem q_277_4 {q0 : Nat} {n0 n1 n2 n3 n4 n5 n6 n7 n8 n9 : Int} {H0 H1 : gH} (f0 : n0 ≤ 240) (f1 : 0 ≤ n0) (f2 : n1 ≤ 2) (f3 : 0 ≤ n1) (f4 : n2 ≤ 1007) (f5 : 0 ≤ n2) (f6 : n3 = 285) (f7 : n4 ≤ 1007) (f8 : 0 ≤ n4) (f9 : n5 = 285) (f10 : (hLe T0 H0 H1 ∧ hFr s_277.2.2.2.2 H0 H1 ∧ hWt T0 H1) ∧ (Ab_277_9 n5 n4 n3 n2 n1 n0 H0 H1 ∧ preb_277 n5 n4 H0) ∧ some q0 = some (mub_277_9 n5 n4 n3 n2 n1 n0 H0 H1)) (f11 : n6 ≤ 240) (f12 : 0 ≤ n6) (f13 : n6 = hV H1 (n3).toNat 93) (f14 : n0 < n6) (f15 : n7 = 240) (f16 : n8 = w32 (n7 * n1)) (f17 : n9 = w32 (n8 + n0)) : 0 ≤ n9 ∧ n9 < 720 := by
  have g4 := f10.2.1.1
  unfold Ab_277_9 at g4
  have g3 := f10.2.1.2
  unfold preb_277 at g3
  have e1 : n6 = hV H0 285 93 := (by rw [f6] at f13; exact f13 : n6 = hV H1 285 93).trans ((f10.1.2.1.1 285 93 kF_277_285_93))
  have k0 := g4
  have p0 := g3.1
  have p1 := g3.2.1
  have p2 := g3.2.2
  clear g3
  clear g4
  clear f13
  subst e1
  rw [f15] at f16
  first
  | (have ix0 : n8 = 240 * n1 := Eq.trans f16 (w32_iv (Iml 240 rfl (Iat f3 f2)) (by decide)); subst ix0; clear f16)
  | (have ix0 : n8 = 240 * n1 := Eq.trans f16 (w32_id (by omega) (by omega)); subst ix0; clear f16)
  | (unfold w32 at f16; have ix0 : n8 = 240 * n1 := (by omega); subst ix0)
  | skip
  first
  | (have ix1 : n9 = (240 * n1) + n0 := Eq.trans f17 (w32_iv (Iad (Iml 240 rfl (Iat f3 f2)) (Iat f1 f0)) (by decide)); subst ix1; clear f17)
  | (have ix1 : n9 = (240 * n1) + n0 := Eq.trans f17 (w32_id (by omega) (by omega)); subst ix1; clear f17)
  | (unfold w32 at f17; have ix1 : n9 = (240 * n1) + n0 := (by omega); subst ix1)
  | skip
  try unfold w32 at f16
  try unfold w32 at f17
  try subst k0
  omega
theorem c_277_9_1 {q0 : Nat} : vOkm T0 (eP e_277 L_277 A_277 mu_277 (some q0)) 2 ([(1, [11, 10, 5], [], 0), (3, [10, 9, 4], [], 0), (0, [9], [], 240), (42, [5, 6], [], 0), (20, [6, 2], [1], 93), (90, [6], [], 0), (91, [6], [], 240), (5000, [0, 1, 2, 3, 4, 5], [0, 1], 9), (0, [0], [], 285), (90, [1], [], 0), (91, [1], [], 1007), (0, [2], [], 285), (90, [3], [], 0), (91, [3], [], 1007), (90, [4], [], 0), (91, [4], [], 2), (90, [5], [], 0), (91, [5], [], 240)], (70, [11], [], 720)) := vOk_inI fun ρ η f0 f1 f2 f3 f4 f5 f6 f7 f8 f9 f10 f11 f12 f13 f14 f15 f16 f17 => q_277_4 (q0 := q0) (n0 := ρ 5) (n1 := ρ 4) (n2 := ρ 3) (n3 := ρ 2) (n4 := ρ 1) (n5 := ρ 0) (n6 := ρ 6) (n7 := ρ 9) (n8 := ρ 10) (n9 := ρ 11) (H0 := η 0) (H1 := η 1) f17 f16 f15 f14 f13 f12 f11 f10 f9 f8 f7 f6 f5 f4 f3 f2 f1 f0
theorem q_277_5 {q0 : Nat} {n0 n1 n2 n3 n4 n5 n6 n7 n8 n9 : Int} {H0 H1 : gH} (f0 : n0 ≤ 240) (f1 : 0 ≤ n0) (f2 : n1 ≤ 2) (f3 : 0 ≤ n1) (f4 : n2 ≤ 1007) (f5 : 0 ≤ n2) (f6 : n3 = 285) (f7 : n4 ≤ 1007) (f8 : 0 ≤ n4) (f9 : n5 = 285) (f10 : (hLe T0 H0 H1 ∧ hFr s_277.2.2.2.2 H0 H1 ∧ hWt T0 H1) ∧ (Ab_277_9 n5 n4 n3 n2 n1 n0 H0 H1 ∧ preb_277 n5 n4 H0) ∧ some q0 = some (mub_277_9 n5 n4 n3 n2 n1 n0 H0 H1)) (f11 : n6 ≤ 240) (f12 : 0 ≤ n6) (f13 : n6 = hV H1 (n3).toNat 93) (f14 : n0 < n6) (f15 : n7 = 240) (f16 : n8 = w32 (n7 * n1)) (f17 : n9 = w32 (n8 + n0)) : 0 ≤ n0 ∧ n0 < 240 := by
  have g4 := f10.2.1.1
  unfold Ab_277_9 at g4
  have g3 := f10.2.1.2
  unfold preb_277 at g3
  have e1 : n6 = hV H0 285 93 := (by rw [f6] at f13; exact f13 : n6 = hV H1 285 93).trans ((f10.1.2.1.1 285 93 kF_277_285_93))
  have k0 := g4
  have p0 := g3.1
  have p1 := g3.2.1
  have p2 := g3.2.2
  clear g3
  clear g4
  clear f13
  subst e1
  rw [f15] at f16
  unfold w32 at f16 f17
  try subst k0
  omega
theorem c_277_9_2 {q0 : Nat} : vOkm T0 (eP e_277 L_277 A_277 mu_277 (some q0)) 2 ([(1, [11, 10, 5], [], 0), (3, [10, 9, 4], [], 0), (0, [9], [], 240), (42, [5, 6], [], 0), (20, [6, 2], [1], 93), (90, [6], [], 0), (91, [6], [], 240), (5000, [0, 1, 2, 3, 4, 5], [0, 1], 9), (0, [0], [], 285), (90, [1], [], 0), (91, [1], [], 1007), (0, [2], [], 285), (90, [3], [], 0), (91, [3], [], 1007), (90, [4], [], 0), (91, [4], [], 2), (90, [5], [], 0), (91, [5], [], 240)], (70, [5], [], 240)) := vOk_inI fun ρ η f0 f1 f2 f3 f4 f5 f6 f7 f8 f9 f10 f11 f12 f13 f14 f15 f16 f17 => q_277_5 (q0 := q0) (n0 := ρ 5) (n1 := ρ 4) (n2 := ρ 3) (n3 := ρ 2) (n4 := ρ 1) (n5 := ρ 0) (n6 := ρ 6) (n7 := ρ 9) (n8 := ρ 10) (n9 := ρ 11) (H0 := η 0) (H1 := η 1) f17 f16 f15 f14 f13 f12 f11 f10 f9 f8 f7 f6 f5 f4 f3 f2 f1 f0
theorem q_277_6 {q0 : Nat} {n0 n1 n2 n3 n4 n5 n6 n7 n8 n9 n10 : Int} {H0 H1 : gH} (f0 : n0 ≤ 240) (f1 : 0 ≤ n0) (f2 : n1 ≤ 2) (f3 : 0 ≤ n1) (f4 : n2 ≤ 1007) (f5 : 0 ≤ n2) (f6 : n3 = 285) (f7 : n4 ≤ 1007) (f8 : 0 ≤ n4) (f9 : n5 = 285) (f10 : (hLe T0 H0 H1 ∧ hFr s_277.2.2.2.2 H0 H1 ∧ hWt T0 H1) ∧ (Ab_277_9 n5 n4 n3 n2 n1 n0 H0 H1 ∧ preb_277 n5 n4 H0) ∧ some q0 = some (mub_277_9 n5 n4 n3 n2 n1 n0 H0 H1)) (f11 : n6 ≤ 240) (f12 : 0 ≤ n6) (f13 : n6 = hV H1 (n3).toNat 93) (f14 : n0 < n6) (f15 : n7 = 240) (f16 : n8 = w32 (n7 * n1)) (f17 : n9 = w32 (n8 + n0)) (f18 : n10 = w32 (n0 + 1)) : 0 ≤ n10 := by
  have g4 := f10.2.1.1
  unfold Ab_277_9 at g4
  have g3 := f10.2.1.2
  unfold preb_277 at g3
  have e1 : n6 = hV H0 285 93 := (by rw [f6] at f13; exact f13 : n6 = hV H1 285 93).trans ((f10.1.2.1.1 285 93 kF_277_285_93))
  have k0 := g4
  have p0 := g3.1
  have p1 := g3.2.1
  have p2 := g3.2.2
  clear g3
  clear g4
  clear f13
  subst e1
  rw [f15] at f16
  first
  | (have ix0 : n10 = n0 + 1 := Eq.trans f18 (w32_iv (Iad (Iat f1 f0) (IC 1)) (by decide)); subst ix0; clear f18)
  | (have ix0 : n10 = n0 + 1 := Eq.trans f18 (w32_id (by omega) (by omega)); subst ix0; clear f18)
  | (unfold w32 at f18; have ix0 : n10 = n0 + 1 := (by omega); subst ix0)
  | skip
  try unfold w32 at f16
  try unfold w32 at f17
  try unfold w32 at f18
  try subst k0
  omega
theorem c_277_9_3 {q0 : Nat} : vOkm T0 (eP e_277 L_277 A_277 mu_277 (some q0)) 2 ([(10, [13, 5], [], 1), (1, [11, 10, 5], [], 0), (3, [10, 9, 4], [], 0), (0, [9], [], 240), (42, [5, 6], [], 0), (20, [6, 2], [1], 93), (90, [6], [], 0), (91, [6], [], 240), (5000, [0, 1, 2, 3, 4, 5], [0, 1], 9), (0, [0], [], 285), (90, [1], [], 0), (91, [1], [], 1007), (0, [2], [], 285), (90, [3], [], 0), (91, [3], [], 1007), (90, [4], [], 0), (91, [4], [], 2), (90, [5], [], 0), (91, [5], [], 240)], (90, [13], [], 0)) := vOk_inI fun ρ η f0 f1 f2 f3 f4 f5 f6 f7 f8 f9 f10 f11 f12 f13 f14 f15 f16 f17 f18 => q_277_6 (q0 := q0) (n0 := ρ 5) (n1 := ρ 4) (n2 := ρ 3) (n3 := ρ 2) (n4 := ρ 1) (n5 := ρ 0) (n6 := ρ 6) (n7 := ρ 9) (n8 := ρ 10) (n9 := ρ 11) (n10 := ρ 13) (H0 := η 0) (H1 := η 1) f18 f17 f16 f15 f14 f13 f12 f11 f10 f9 f8 f7 f6 f5 f4 f3 f2 f1 f0
theorem q_277_7 {q0 : Nat} {n0 n1 n2 n3 n4 n5 n6 n7 n8 n9 n10 : Int} {H0 H1 : gH} (f0 : n0 ≤ 240) (f1 : 0 ≤ n0) (f2 : n1 ≤ 2) (f3 : 0 ≤ n1) (f4 : n2 ≤ 1007) (f5 : 0 ≤ n2) (f6 : n3 = 285) (f7 : n4 ≤ 1007) (f8 : 0 ≤ n4) (f9 : n5 = 285) (f10 : (hLe T0 H0 H1 ∧ hFr s_277.2.2.2.2 H0 H1 ∧ hWt T0 H1) ∧ (Ab_277_9 n5 n4 n3 n2 n1 n0 H0 H1 ∧ preb_277 n5 n4 H0) ∧ some q0 = some (mub_277_9 n5 n4 n3 n2 n1 n0 H0 H1)) (f11 : n6 ≤ 240) (f12 : 0 ≤ n6) (f13 : n6 = hV H1 (n3).toNat 93) (f14 : n0 < n6) (f15 : n7 = 240) (f16 : n8 = w32 (n7 * n1)) (f17 : n9 = w32 (n8 + n0)) (f18 : n10 = w32 (n0 + 1)) : n10 ≤ 240 := by
  have g4 := f10.2.1.1
  unfold Ab_277_9 at g4
  have g3 := f10.2.1.2
  unfold preb_277 at g3
  have e1 : n6 = hV H0 285 93 := (by rw [f6] at f13; exact f13 : n6 = hV H1 285 93).trans ((f10.1.2.1.1 285 93 kF_277_285_93))
  have k0 := g4
  have p0 := g3.1
  have p1 := g3.2.1
  have p2 := g3.2.2
  clear g3
  clear g4
  clear f13
  subst e1
  rw [f15] at f16
  first
  | (have ix0 : n10 = n0 + 1 := Eq.trans f18 (w32_iv (Iad (Iat f1 f0) (IC 1)) (by decide)); subst ix0; clear f18)
  | (have ix0 : n10 = n0 + 1 := Eq.trans f18 (w32_id (by omega) (by omega)); subst ix0; clear f18)
  | (unfold w32 at f18; have ix0 : n10 = n0 + 1 := (by omega); subst ix0)
  | skip
  try unfold w32 at f16
  try unfold w32 at f17
  try unfold w32 at f18
  try subst k0
  omega
theorem c_277_9_4 {q0 : Nat} : vOkm T0 (eP e_277 L_277 A_277 mu_277 (some q0)) 2 ([(10, [13, 5], [], 1), (1, [11, 10, 5], [], 0), (3, [10, 9, 4], [], 0), (0, [9], [], 240), (42, [5, 6], [], 0), (20, [6, 2], [1], 93), (90, [6], [], 0), (91, [6], [], 240), (5000, [0, 1, 2, 3, 4, 5], [0, 1], 9), (0, [0], [], 285), (90, [1], [], 0), (91, [1], [], 1007), (0, [2], [], 285), (90, [3], [], 0), (91, [3], [], 1007), (90, [4], [], 0), (91, [4], [], 2), (90, [5], [], 0), (91, [5], [], 240)], (91, [13], [], 240)) := vOk_inI fun ρ η f0 f1 f2 f3 f4 f5 f6 f7 f8 f9 f10 f11 f12 f13 f14 f15 f16 f17 f18 => q_277_7 (q0 := q0) (n0 := ρ 5) (n1 := ρ 4) (n2 := ρ 3) (n3 := ρ 2) (n4 := ρ 1) (n5 := ρ 0) (n6 := ρ 6) (n7 := ρ 9) (n8 := ρ 10) (n9 := ρ 11) (n10 := ρ 13) (H0 := η 0) (H1 := η 1) f18 f17 f16 f15 f14 f13 f12 f11 f10 f9 f8 f7 f6 f5 f4 f3 f2 f1 f0
theorem q_277_8 {q0 : Nat} {n0 n1 n2 n3 n4 n5 n6 n7 n8 n9 n10 n11 n12 n13 : Int} {H0 H1 H2 : gH} (f0 : n0 ≤ 240) (f1 : 0 ≤ n0) (f2 : n1 ≤ 2) (f3 : 0 ≤ n1) (f4 : n2 ≤ 1007) (f5 : 0 ≤ n2) (f6 : n3 = 285) (f7 : n4 ≤ 1007) (f8 : 0 ≤ n4) (f9 : n5 = 285) (f10 : (hLe T0 H0 H1 ∧ hFr s_277.2.2.2.2 H0 H1 ∧ hWt T0 H1) ∧ (Ab_277_9 n5 n4 n3 n2 n1 n0 H0 H1 ∧ preb_277 n5 n4 H0) ∧ some q0 = some (mub_277_9 n5 n4 n3 n2 n1 n0 H0 H1)) (f11 : n6 ≤ 240) (f12 : 0 ≤ n6) (f13 : n6 = hV H1 (n3).toNat 93) (f14 : n0 < n6) (f15 : n7 = 351) (f16 : n7 = hV H1 (n3).toNat 91) (f17 : n8 = 349) (f18 : n8 = hV H1 (n3).toNat 89) (f19 : n9 = 240) (f20 : n10 = w32 (n9 * n1)) (f21 : n11 = w32 (n10 + n0)) (f22 : n12 = hV H1 (n8).toNat (n11).toNat) (f23 : hUpd H2 H1 n7 n0 n12) (f24 : n13 = w32 (n0 + 1)) : Ab_277_9 n5 n4 n3 n2 n1 n13 H0 H2 ∧ ∀ q, some q0 = some q → mub_277_9 n5 n4 n3 n2 n1 n13 H0 H2 < q := by
  have g4 := f10.2.1.1
  unfold Ab_277_9 at g4
  have g3 := f10.2.1.2
  unfold preb_277 at g3
  have g5 := Option.some.inj f10.2.2
  unfold mub_277_9 at g5
  unfold Ab_277_9
  unfold mub_277_9
  have e1 : n6 = hV H0 285 93 := (by rw [f6] at f13; exact f13 : n6 = hV H1 285 93).trans ((f10.1.2.1.1 285 93 kF_277_285_93))
  have e2 : n12 = hV H1 349 (n11).toNat := (by rw [f17] at f22; exact f22 : n12 = hV H1 349 (n11).toNat)
  have k0 := g4
  have p0 := g3.1
  have p1 := g3.2.1
  have p2 := g3.2.2
  clear g3
  clear g4
  clear f13 f16 f18 f22
  subst e1
  subst e2
  rw [f19] at f20
  first
  | (have ix0 : n10 = 240 * n1 := Eq.trans f20 (w32_iv (Iml 240 rfl (Iat f3 f2)) (by decide)); subst ix0; clear f20)
  | (have ix0 : n10 = 240 * n1 := Eq.trans f20 (w32_id (by omega) (by omega)); subst ix0; clear f20)
  | (unfold w32 at f20; have ix0 : n10 = 240 * n1 := (by omega); subst ix0)
  | skip
  first
  | (have ix1 : n11 = (240 * n1) + n0 := Eq.trans f21 (w32_iv (Iad (Iml 240 rfl (Iat f3 f2)) (Iat f1 f0)) (by decide)); subst ix1; clear f21)
  | (have ix1 : n11 = (240 * n1) + n0 := Eq.trans f21 (w32_id (by omega) (by omega)); subst ix1; clear f21)
  | (unfold w32 at f21; have ix1 : n11 = (240 * n1) + n0 := (by omega); subst ix1)
  | skip
  first
  | (have ix2 : n13 = n0 + 1 := Eq.trans f24 (w32_iv (Iad (Iat f1 f0) (IC 1)) (by decide)); subst ix2; clear f24)
  | (have ix2 : n13 = n0 + 1 := Eq.trans f24 (w32_id (by omega) (by omega)); subst ix2; clear f24)
  | (unfold w32 at f24; have ix2 : n13 = n0 + 1 := (by omega); subst ix2)
  | skip
  try unfold w32 at f20
  try unfold w32 at f21
  try unfold w32 at f24
  try subst k0
  refine ⟨?_, fun q hq => ?_⟩
  · first | assumption | omega | trivial
  · have g6 := Option.some.inj hq
    subst g6
    omega
theorem c_277_9_5 {q0 : Nat} : vOkm T0 (eP e_277 L_277 A_277 mu_277 (some q0)) 2 ([(10, [13, 5], [], 1), (80, [7, 5, 12], [2, 1], 1), (22, [12, 8, 11], [1], 0), (1, [11, 10, 5], [], 0), (3, [10, 9, 4], [], 0), (0, [9], [], 240), (20, [8, 2], [1], 89), (0, [8], [], 349), (20, [7, 2], [1], 91), (0, [7], [], 351), (42, [5, 6], [], 0), (20, [6, 2], [1], 93), (90, [6], [], 0), (91, [6], [], 240), (5000, [0, 1, 2, 3, 4, 5], [0, 1], 9), (0, [0], [], 285), (90, [1], [], 0), (91, [1], [], 1007), (0, [2], [], 285), (90, [3], [], 0), (91, [3], [], 1007), (90, [4], [], 0), (91, [4], [], 2), (90, [5], [], 0), (91, [5], [], 240)], (4000, [2, 3, 4, 13], [2], 9)) := vOk_inI fun ρ η f0 f1 f2 f3 f4 f5 f6 f7 f8 f9 f10 f11 f12 f13 f14 f15 f16 f17 f18 f19 f20 f21 f22 f23 f24 => q_277_8 (q0 := q0) (n0 := ρ 5) (n1 := ρ 4) (n2 := ρ 3) (n3 := ρ 2) (n4 := ρ 1) (n5 := ρ 0) (n6 := ρ 6) (n7 := ρ 7) (n8 := ρ 8) (n9 := ρ 9) (n10 := ρ 10) (n11 := ρ 11) (n12 := ρ 12) (n13 := ρ 13) (H0 := η 0) (H1 := η 1) (H2 := η 2) f24 f23 f22 f21 f20 f19 f18 f17 f16 f15 f14 f13 f12 f11 f10 f9 f8 f7 f6 f5 f4 f3 f2 f1 f0
def p_277_9 : List vG := [([(0, [7], [], 0), (43, [5, 6], [], 0), (20, [6, 2], [1], 93), (90, [6], [], 0), (91, [6], [], 240), (5000, [0, 1, 2, 3, 4, 5], [0, 1], 9), (0, [0], [], 285), (90, [1], [], 0), (91, [1], [], 1007), (0, [2], [], 285), (90, [3], [], 0), (91, [3], [], 1007), (90, [4], [], 0), (91, [4], [], 2), (90, [5], [], 0), (91, [5], [], 240)], (4000, [2, 3, 4, 7], [1], 43)),
  ([(1, [11, 10, 5], [], 0), (3, [10, 9, 4], [], 0), (0, [9], [], 240), (42, [5, 6], [], 0), (20, [6, 2], [1], 93), (90, [6], [], 0), (91, [6], [], 240), (5000, [0, 1, 2, 3, 4, 5], [0, 1], 9), (0, [0], [], 285), (90, [1], [], 0), (91, [1], [], 1007), (0, [2], [], 285), (90, [3], [], 0), (91, [3], [], 1007), (90, [4], [], 0), (91, [4], [], 2), (90, [5], [], 0), (91, [5], [], 240)], (70, [11], [], 720)),
  ([(1, [11, 10, 5], [], 0), (3, [10, 9, 4], [], 0), (0, [9], [], 240), (42, [5, 6], [], 0), (20, [6, 2], [1], 93), (90, [6], [], 0), (91, [6], [], 240), (5000, [0, 1, 2, 3, 4, 5], [0, 1], 9), (0, [0], [], 285), (90, [1], [], 0), (91, [1], [], 1007), (0, [2], [], 285), (90, [3], [], 0), (91, [3], [], 1007), (90, [4], [], 0), (91, [4], [], 2), (90, [5], [], 0), (91, [5], [], 240)], (70, [5], [], 240)),
  ([(10, [13, 5], [], 1), (1, [11, 10, 5], [], 0), (3, [10, 9, 4], [], 0), (0, [9], [], 240), (42, [5, 6], [], 0), (20, [6, 2], [1], 93), (90, [6], [], 0), (91, [6], [], 240), (5000, [0, 1, 2, 3, 4, 5], [0, 1], 9), (0, [0], [], 285), (90, [1], [], 0), (91, [1], [], 1007), (0, [2], [], 285), (90, [3], [], 0), (91, [3], [], 1007), (90, [4], [], 0), (91, [4], [], 2), (90, [5], [], 0), (91, [5], [], 240)], (90, [13], [], 0)),
  ([(10, [13, 5], [], 1), (1, [11, 10, 5], [], 0), (3, [10, 9, 4], [], 0), (0, [9], [], 240), (42, [5, 6], [], 0), (20, [6, 2], [1], 93), (90, [6], [], 0), (91, [6], [], 240), (5000, [0, 1, 2, 3, 4, 5], [0, 1], 9), (0, [0], [], 285), (90, [1], [], 0), (91, [1], [], 1007), (0, [2], [], 285), (90, [3], [], 0), (91, [3], [], 1007), (90, [4], [], 0), (91, [4], [], 2), (90, [5], [], 0), (91, [5], [], 240)], (91, [13], [], 240)),
  ([(10, [13, 5], [], 1), (80, [7, 5, 12], [2, 1], 1), (22, [12, 8, 11], [1], 0), (1, [11, 10, 5], [], 0), (3, [10, 9, 4], [], 0), (0, [9], [], 240), (20, [8, 2], [1], 89), (0, [8], [], 349), (20, [7, 2], [1], 91), (0, [7], [], 351), (42, [5, 6], [], 0), (20, [6, 2], [1], 93), (90, [6], [], 0), (91, [6], [], 240), (5000, [0, 1, 2, 3, 4, 5], [0, 1], 9), (0, [0], [], 285), (90, [1], [], 0), (91, [1], [], 1007), (0, [2], [], 285), (90, [3], [], 0), (91, [3], [], 1007), (90, [4], [], 0), (91, [4], [], 2), (90, [5], [], 0), (91, [5], [], 240)], (4000, [2, 3, 4, 13], [2], 9))]
theorem r_277_9 : vCovO true (eRc e_277 L_277 cs_277 2000 (9, [(0, (3, 12, 285, 0)), (1, (0, 0, 1007, 0)), (2, (0, 0, 2, 0)), (3, (0, 0, 240, 0))])) p_277_9 = true := by decide +kernel
theorem q_277_9 {q0 : Nat} {n0 n1 n2 n3 n4 n5 n6 : Int} {H0 H1 : gH} (f0 : n0 ≤ 240) (f1 : 0 ≤ n0) (f2 : n1 ≤ 2) (f3 : 0 ≤ n1) (f4 : n2 ≤ 1007) (f5 : 0 ≤ n2) (f6 : n3 = 285) (f7 : n4 ≤ 1007) (f8 : 0 ≤ n4) (f9 : n5 = 285) (f10 : (hLe T0 H0 H1 ∧ hFr s_277.2.2.2.2 H0 H1 ∧ hWt T0 H1) ∧ (Ab_277_43 n5 n4 n3 n2 n1 n0 H0 H1 ∧ preb_277 n5 n4 H0) ∧ some q0 = some (mub_277_43 n5 n4 n3 n2 n1 n0 H0 H1)) (f11 : n6 ≤ 240) (f12 : 0 ≤ n6) (f13 : n6 = hV H1 (n3).toNat 93) (f14 : n0 < n6) : n0 ≤ 239 := by
  have g4 := f10.2.1.1
  unfold Ab_277_43 at g4
  have g3 := f10.2.1.2
  unfold preb_277 at g3
  have e1 : n6 = hV H0 285 93 := (by rw [f6] at f13; exact f13 : n6 = hV H1 285 93).trans ((f10.1.2.1.1 285 93 kF_277_285_93))
  have k0 := g4
  have p0 := g3.1
  have p1 := g3.2.1
  have p2 := g3.2.2
  clear g3
  clear g4
  clear f13
  subst e1
  try subst k0
  omega
theorem c_277_43_0 {q0 : Nat} : vOkm T0 (eP e_277 L_277 A_277 mu_277 (some q0)) 2 ([(42, [5, 6], [], 0), (20, [6, 2], [1], 93), (90, [6], [], 0), (91, [6], [], 240), (5000, [0, 1, 2, 3, 4, 5], [0, 1], 43), (0, [0], [], 285), (90, [1], [], 0), (91, [1], [], 1007), (0, [2], [], 285), (90, [3], [], 0), (91, [3], [], 1007), (90, [4], [], 0), (91, [4], [], 2), (90, [5], [], 0), (91, [5], [], 240)], (91, [5], [], 239)) := vOk_inI fun ρ η f0 f1 f2 f3 f4 f5 f6 f7 f8 f9 f10 f11 f12 f13 f14 => q_277_9 (q0 := q0) (n0 := ρ 5) (n1 := ρ 4) (n2 := ρ 3) (n3 := ρ 2) (n4 := ρ 1) (n5 := ρ 0) (n6 := ρ 6) (H0 := η 0) (H1 := η 1) f14 f13 f12 f11 f10 f9 f8 f7 f6 f5 f4 f3 f2 f1 f0
theorem q_277_10 {q0 : Nat} {n0 n1 n2 n3 n4 n5 n6 n7 n8 : Int} {H0 H1 : gH} (f0 : n0 ≤ 240) (f1 : 0 ≤ n0) (f2 : n1 ≤ 2) (f3 : 0 ≤ n1) (f4 : n2 ≤ 1007) (f5 : 0 ≤ n2) (f6 : n3 = 285) (f7 : n4 ≤ 1007) (f8 : 0 ≤ n4) (f9 : n5 = 285) (f10 : (hLe T0 H0 H1 ∧ hFr s_277.2.2.2.2 H0 H1 ∧ hWt T0 H1) ∧ (Ab_277_43 n5 n4 n3 n2 n1 n0 H0 H1 ∧ preb_277 n5 n4 H0) ∧ some q0 = some (mub_277_43 n5 n4 n3 n2 n1 n0 H0 H1)) (f11 : n6 ≤ 240) (f12 : 0 ≤ n6) (f13 : n6 = hV H1 (n3).toNat 93) (f14 : n0 < n6) (f15 : n7 = 0) (f16 : n8 = 0) : Ab_277_57 n5 n4 n3 n2 n1 n0 n7 n8 H0 H1 ∧ ∀ q, some q0 = some q → mub_277_57 n5 n4 n3 n2 n1 n0 n7 n8 H0 H1 < q := by
  have g4 := f10.2.1.1
  unfold Ab_277_43 at g4
  have g3 := f10.2.1.2
  unfold preb_277 at g3
  have g5 := Option.some.inj f10.2.2
  unfold mub_277_43 at g5
  unfold Ab_277_57
  unfold mub_277_57
  have e1 : n6 = hV H0 285 93 := (by rw [f6] at f13; exact f13 : n6 = hV H1 285 93).trans ((f10.1.2.1.1 285 93 kF_277_285_93))
  have k0 := g4
  have p0 := g3.1
  have p1 := g3.2.1
  have p2 := g3.2.2
  clear g3
  clear g4
  clear f13
  subst e1
  try subst k0
  refine ⟨?_, fun q hq => ?_⟩
  · first | assumption | omega | trivial
  · have g6 := Option.some.inj hq
    subst g6
    omega
theorem c_277_43_1 {q0 : Nat} : vOkm T0 (eP e_277 L_277 A_277 mu_277 (some q0)) 2 ([(0, [8], [], 0), (0, [7], [], 0), (42, [5, 6], [], 0), (20, [6, 2], [1], 93), (90, [6], [], 0), (91, [6], [], 240), (5000, [0, 1, 2, 3, 4, 5], [0, 1], 43), (0, [0], [], 285), (90, [1], [], 0), (91, [1], [], 1007), (0, [2], [], 285), (90, [3], [], 0), (91, [3], [], 1007), (90, [4], [], 0), (91, [4], [], 2), (90, [5], [], 0), (91, [5], [], 240)], (4000, [2, 3, 4, 5, 7, 8], [1], 57)) := vOk_inI fun ρ η f0 f1 f2 f3 f4 f5 f6 f7 f8 f9 f10 f11 f12 f13 f14 f15 f16 => q_277_10 (q0 := q0) (n0 := ρ 5) (n1 := ρ 4) (n2 := ρ 3) (n3 := ρ 2) (n4 := ρ 1) (n5 := ρ 0) (n6 := ρ 6) (n7 := ρ 7) (n8 := ρ 8) (H0 := η 0) (H1 := η 1) f16 f15 f14 f13 f12 f11 f10 f9 f8 f7 f6 f5 f4 f3 f2 f1 f0
def p_277_43 : List vG := [([(42, [5, 6], [], 0), (20, [6, 2], [1], 93), (90, [6], [], 0), (91, [6], [], 240), (5000, [0, 1, 2, 3, 4, 5], [0, 1], 43), (0, [0], [], 285), (90, [1], [], 0), (91, [1], [], 1007), (0, [2], [], 285), (90, [3], [], 0), (91, [3], [], 1007), (90, [4], [], 0), (91, [4], [], 2), (90, [5], [], 0), (91, [5], [], 240)], (91, [5], [], 239)),
  ([(0, [8], [], 0), (0, [7], [], 0), (42, [5, 6], [], 0), (20, [6, 2], [1], 93), (90, [6], [], 0), (91, [6], [], 240), (5000, [0, 1, 2, 3, 4, 5], [0, 1], 43), (0, [0], [], 285), (90, [1], [], 0), (91, [1], [], 1007), (0, [2], [], 285), (90, [3], [], 0), (91, [3], [], 1007), (90, [4], [], 0), (91, [4], [], 2), (90, [5], [], 0), (91, [5], [], 240)], (4000, [2, 3, 4, 5, 7, 8], [1], 57))]
theorem r_277_43 : vCovO true (eRc e_277 L_277 cs_277 2000 (43, [(0, (3, 12, 285, 0)), (1, (0, 0, 1007, 0)), (2, (0, 0, 2, 0)), (3, (0, 0, 240, 0))])) p_277_43 = true := by decide +kernel
theorem q_277_11 {q0 : Nat} {n0 n1 n2 n3 n4 n5 n6 n7 n8 n9 : Int} {H0 H1 : gH} (f0 : n0 ≤ 5) (f1 : 0 ≤ n0) (f2 : n1 ≤ 239) (f3 : 0 ≤ n1) (f4 : n2 ≤ 2) (f5 : 0 ≤ n2) (f6 : n3 ≤ 1007) (f7 : 0 ≤ n3) (f8 : n4 = 285) (f9 : n5 ≤ 1007) (f10 : 0 ≤ n5) (f11 : n6 = 285) (f12 : (hLe T0 H0 H1 ∧ hFr s_277.2.2.2.2 H0 H1 ∧ hWt T0 H1) ∧ (Ab_277_57 n6 n5 n4 n3 n2 n1 n7 n0 H0 H1 ∧ preb_277 n6 n5 H0) ∧ some q0 = some (mub_277_57 n6 n5 n4 n3 n2 n1 n7 n0 H0 H1)) (f13 : n8 = 6) (f14 : n9 = w32 (n8 * n3)) : 0 ≤ n9 ∧ n9 < 6048 := by
  have g4 := f12.2.1.1
  unfold Ab_277_57 at g4
  have g3 := f12.2.1.2
  unfold preb_277 at g3
  have k0 := g4
  have p0 := g3.1
  have p1 := g3.2.1
  have p2 := g3.2.2
  clear g3
  clear g4
  rw [f13] at f14
  first
  | (have ix0 : n9 = 6 * n3 := Eq.trans f14 (w32_iv (Iml 6 rfl (Iat f7 f6)) (by decide)); subst ix0; clear f14)
  | (have ix0 : n9 = 6 * n3 := Eq.trans f14 (w32_id (by omega) (by omega)); subst ix0; clear f14)
  | (unfold w32 at f14; have ix0 : n9 = 6 * n3 := (by omega); subst ix0)
  | skip
  try unfold w32 at f14
  try subst k0
  omega
theorem c_277_57_0 {q0 : Nat} : vOkm T0 (eP e_277 L_277 A_277 mu_277 (some q0)) 2 ([(3, [10, 9, 3], [], 0), (0, [9], [], 6), (5000, [0, 1, 2, 3, 4, 5, 6, 7], [0, 1], 57), (0, [0], [], 285), (90, [1], [], 0), (91, [1], [], 1007), (0, [2], [], 285), (90, [3], [], 0), (91, [3], [], 1007), (90, [4], [], 0), (91, [4], [], 2), (90, [5], [], 0), (91, [5], [], 239), (90, [7], [], 0), (91, [7], [], 5)], (70, [10], [], 6048)) := vOk_inI fun ρ η f0 f1 f2 f3 f4 f5 f6 f7 f8 f9 f10 f11 f12 f13 f14 => q_277_11 (q0 := q0) (n0 := ρ 7) (n1 := ρ 5) (n2 := ρ 4) (n3 := ρ 3) (n4 := ρ 2) (n5 := ρ 1) (n6 := ρ 0) (n7 := ρ 6) (n8 := ρ 9) (n9 := ρ 10) (H0 := η 0) (H1 := η 1) f14 f13 f12 f11 f10 f9 f8 f7 f6 f5 f4 f3 f2 f1 f0
theorem kR_277_305 : vFreeR s_277.2.2.2.2 305 = true := by decide +kernel
theorem q_277_12 {q0 : Nat} {n0 n1 n2 n3 n4 n5 n6 n7 n8 n9 n10 n11 n12 n13 n14 : Int} {H0 H1 : gH} (f0 : n0 ≤ 5) (f1 : 0 ≤ n0) (f2 : n1 ≤ 239) (f3 : 0 ≤ n1) (f4 : n2 ≤ 2) (f5 : 0 ≤ n2) (f6 : n3 ≤ 1007) (f7 : 0 ≤ n3) (f8 : n4 = 285) (f9 : n5 ≤ 1007) (f10 : 0 ≤ n5) (f11 : n6 = 285) (f12 : (hLe T0 H0 H1 ∧ hFr s_277.2.2.2.2 H0 H1 ∧ hWt T0 H1) ∧ (Ab_277_57 n6 n5 n4 n3 n2 n1 n7 n0 H0 H1 ∧ preb_277 n6 n5 H0) ∧ some q0 = some (mub_277_57 n6 n5 n4 n3 n2 n1 n7 n0 H0 H1)) (f13 : n8 = 305) (f14 : n8 = hV H1 (n4).toNat 31) (f15 : n9 = 6) (f16 : n10 = w32 (n9 * n3)) (f17 : n11 ≤ 9999) (f18 : (-1) ≤ n11) (f19 : n11 = hV H1 (n8).toNat (n10).toNat) (f20 : n11 ≤ n0) (f21 : n12 = 240) (f22 : n13 = w32 (n12 * n2)) (f23 : n14 = w32 (n13 + n1)) : 0 ≤ n14 ∧ n14 < 720 := by
  have g4 := f12.2.1.1
  unfold Ab_277_57 at g4
  have g3 := f12.2.1.2
  unfold preb_277 at g3
  have e1 : n11 = hV H0 305 (n10).toNat := (by rw [f13] at f19; exact f19 : n11 = hV H1 305 (n10).toNat).trans ((congrFun (fRow f12.1.2.1 305 kR_277_305) _))
  have k0 := g4
  have p0 := g3.1
  have p1 := g3.2.1
  have p2 := g3.2.2
  clear g3
  clear g4
  clear f14 f19
  subst e1
  rw [f15] at f16
  rw [f21] at f22
  first
  | (have ix0 : n10 = 6 * n3 := Eq.trans f16 (w32_iv (Iml 6 rfl (Iat f7 f6)) (by decide)); subst ix0; clear f16)
  | (have ix0 : n10 = 6 * n3 := Eq.trans f16 (w32_id (by omega) (by omega)); subst ix0; clear f16)
  | (unfold w32 at f16; have ix0 : n10 = 6 * n3 := (by omega); subst ix0)
  | skip
  first
  | (have ix1 : n13 = 240 * n2 := Eq.trans f22 (w32_iv (Iml 240 rfl (Iat f5 f4)) (by decide)); subst ix1; clear f22)
  | (have ix1 : n13 = 240 * n2 := Eq.trans f22 (w32_id (by omega) (by omega)); subst ix1; clear f22)
  | (unfold w32 at f22; have ix1 : n13 = 240 * n2 := (by omega); subst ix1)
  | skip
  first
  | (have ix2 : n14 = (240 * n2) + n1 := Eq.trans f23 (w32_iv (Iad (Iml 240 rfl (Iat f5 f4)) (Iat f3 f2)) (by decide)); subst ix2; clear f23)
  | (have ix2 : n14 = (240 * n2) + n1 := Eq.trans f23 (w32_id (by omega) (by omega)); subst ix2; clear f23)
  | (unfold w32 at f23; have ix2 : n14 = (240 * n2) + n1 := (by omega); subst ix2)
  | skip
  try unfold w32 at f16
  try unfold w32 at f22
  try unfold w32 at f23
  try subst k0
  omega
theorem c_277_57_1 {q0 : Nat} : vOkm T0 (eP e_277 L_277 A_277 mu_277 (some q0)) 2 ([(1, [15, 14, 5], [], 0), (3, [14, 13, 4], [], 0), (0, [13], [], 240), (43, [7, 11], [], 0), (22, [11, 8, 10], [1], 0), (90, [11], [], -1), (91, [11], [], 9999), (3, [10, 9, 3], [], 0), (0, [9], [], 6), (20, [8, 2], [1], 31), (0, [8], [], 305), (5000, [0, 1, 2, 3, 4, 5, 6, 7], [0, 1], 57), (0, [0], [], 285), (90, [1], [], 0), (91, [1], [], 1007), (0, [2], [], 285), (90, [3], [], 0), (91, [3], [], 1007), (90, [4], [], 0), (91, [4], [], 2), (90, [5], [], 0), (91, [5], [], 239), (90, [7], [], 0), (91, [7], [], 5)], (70, [15], [], 720)) := vOk_inI fun ρ η f0 f1 f2 f3 f4 f5 f6 f7 f8 f9 f10 f11 f12 f13 f14 f15 f16 f17 f18 f19 f20 f21 f22 f23 => q_277_12 (q0 := q0) (n0 := ρ 7) (n1 := ρ 5) (n2 := ρ 4) (n3 := ρ 3) (n4 := ρ 2) (n5 := ρ 1) (n6 := ρ 0) (n7 := ρ 6) (n8 := ρ 8) (n9 := ρ 9) (n10 := ρ 10) (n11 := ρ 11) (n12 := ρ 13) (n13 := ρ 14) (n14 := ρ 15) (H0 := η 0) (H1 := η 1) f23 f22 f21 f20 f19 f18 f17 f16 f15 f14 f13 f12 f11 f10 f9 f8 f7 f6 f5 f4 f3 f2 f1 f0
theorem q_277_13 {q0 : Nat} {n0 n1 n2 n3 n4 n5 n6 n7 n8 n9 n10 n11 n12 n13 n14 n15 : Int} {H0 H1 : gH} (f0 : n0 ≤ 5) (f1 : 0 ≤ n0) (f2 : n1 ≤ 239) (f3 : 0 ≤ n1) (f4 : n2 ≤ 2) (f5 : 0 ≤ n2) (f6 : n3 ≤ 1007) (f7 : 0 ≤ n3) (f8 : n4 = 285) (f9 : n5 ≤ 1007) (f10 : 0 ≤ n5) (f11 : n6 = 285) (f12 : (hLe T0 H0 H1 ∧ hFr s_277.2.2.2.2 H0 H1 ∧ hWt T0 H1) ∧ (Ab_277_57 n6 n5 n4 n3 n2 n1 n7 n0 H0 H1 ∧ preb_277 n6 n5 H0) ∧ some q0 = some (mub_277_57 n6 n5 n4 n3 n2 n1 n7 n0 H0 H1)) (f13 : n8 = 305) (f14 : n8 = hV H1 (n4).toNat 31) (f15 : n9 = 6) (f16 : n10 = w32 (n9 * n3)) (f17 : n11 ≤ 9999) (f18 : (-1) ≤ n11) (f19 : n11 = hV H1 (n8).toNat (n10).toNat) (f20 : n11 ≤ n0) (f21 : n12 = 240) (f22 : n13 = w32 (n12 * n2)) (f23 : n14 = w32 (n13 + n1)) (f24 : n15 = w32 (n1 + 1)) : 0 ≤ n15 := by
  have g4 := f12.2.1.1
  unfold Ab_277_57 at g4
  have g3 := f12.2.1.2
  unfold preb_277 at g3
  have e1 : n11 = hV H0 305 (n10).toNat := (by rw [f13] at f19; exact f19 : n11 = hV H1 305 (n10).toNat).trans ((congrFun (fRow f12.1.2.1 305 kR_277_305) _))
  have k0 := g4
  have p0 := g3.1
  have p1 := g3.2.1
  have p2 := g3.2.2
  clear g3
  clear g4
  clear f14 f19
  subst e1
  rw [f15] at f16
  rw [f21] at f22
  first
  | (have ix0 : n10 = 6 * n3 := Eq.trans f16 (w32_iv (Iml 6 rfl (Iat f7 f6)) (by decide)); subst ix0; clear f16)
  | (have ix0 : n10 = 6 * n3 := Eq.trans f16 (w32_id (by omega) (by omega)); subst ix0; clear f16)
  | (unfold w32 at f16; have ix0 : n10 = 6 * n3 := (by omega); subst ix0)
  | skip
  first
  | (have ix1 : n15 = n1 + 1 := Eq.trans f24 (w32_iv (Iad (Iat f3 f2) (IC 1)) (by decide)); subst ix1; clear f24)
  | (have ix1 : n15 = n1 + 1 := Eq.trans f24 (w32_id (by omega) (by omega)); subst ix1; clear f24)
  | (unfold w32 at f24; have ix1 : n15 = n1 + 1 := (by omega); subst ix1)
  | skip
  try unfold w32 at f16
  try unfold w32 at f22
  try unfold w32 at f23
  try unfold w32 at f24
  try subst k0
  omega
theorem c_277_57_2 {q0 : Nat} : vOkm T0 (eP e_277 L_277 A_277 mu_277 (some q0)) 2 ([(10, [18, 5], [], 1), (1, [15, 14, 5], [], 0), (3, [14, 13, 4], [], 0), (0, [13], [], 240), (43, [7, 11], [], 0), (22, [11, 8, 10], [1], 0), (90, [11], [], -1), (91, [11], [], 9999), (3, [10, 9, 3], [], 0), (0, [9], [], 6), (20, [8, 2], [1], 31), (0, [8], [], 305), (5000, [0, 1, 2, 3, 4, 5, 6, 7], [0, 1], 57), (0, [0], [], 285), (90, [1], [], 0), (91, [1], [], 1007), (0, [2], [], 285), (90, [3], [], 0), (91, [3], [], 1007), (90, [4], [], 0), (91, [4], [], 2), (90, [5], [], 0), (91, [5], [], 239), (90, [7], [], 0), (91, [7], [], 5)], (90, [18], [], 0)) := vOk_inI fun ρ η f0 f1 f2 f3 f4 f5 f6 f7 f8 f9 f10 f11 f12 f13 f14 f15 f16 f17 f18 f19 f20 f21 f22 f23 f24 => q_277_13 (q0 := q0) (n0 := ρ 7) (n1 := ρ 5) (n2 := ρ 4) (n3 := ρ 3) (n4 := ρ 2) (n5 := ρ 1) (n6 := ρ 0) (n7 := ρ 6) (n8 := ρ 8) (n9 := ρ 9) (n10 := ρ 10) (n11 := ρ 11) (n12 := ρ 13) (n13 := ρ 14) (n14 := ρ 15) (n15 := ρ 18) (H0 := η 0) (H1 := η 1) f24 f23 f22 f21 f20 f19 f18 f17 f16 f15 f14 f13 f12 f11 f10 f9 f8 f7 f6 f5 f4 f3 f2 f1 f0
theorem q_277_14 {q0 : Nat} {n0 n1 n2 n3 n4 n5 n6 n7 n8 n9 n10 n11 n12 n13 n14 n15 : Int} {H0 H1 : gH} (f0 : n0 ≤ 5) (f1 : 0 ≤ n0) (f2 : n1 ≤ 239) (f3 : 0 ≤ n1) (f4 : n2 ≤ 2) (f5 : 0 ≤ n2) (f6 : n3 ≤ 1007) (f7 : 0 ≤ n3) (f8 : n4 = 285) (f9 : n5 ≤ 1007) (f10 : 0 ≤ n5) (f11 : n6 = 285) (f12 : (hLe T0 H0 H1 ∧ hFr s_277.2.2.2.2 H0 H1 ∧ hWt T0 H1) ∧ (Ab_277_57 n6 n5 n4 n3 n2 n1 n7 n0 H0 H1 ∧ preb_277 n6 n5 H0) ∧ some q0 = some (mub_277_57 n6 n5 n4 n3 n2 n1 n7 n0 H0 H1)) (f13 : n8 = 305) (f14 : n8 = hV H1 (n4).toNat 31) (f15 : n9 = 6) (f16 : n10 = w32 (n9 * n3)) (f17 : n11 ≤ 9999) (f18 : (-1) ≤ n11) (f19 : n11 = hV H1 (n8).toNat (n10).toNat) (f20 : n11 ≤ n0) (f21 : n12 = 240) (f22 : n13 = w32 (n12 * n2)) (f23 : n14 = w32 (n13 + n1)) (f24 : n15 = w32 (n1 + 1)) : n15 ≤ 240 := by
  have g4 := f12.2.1.1
  unfold Ab_277_57 at g4
  have g3 := f12.2.1.2
  unfold preb_277 at g3
  have e1 : n11 = hV H0 305 (n10).toNat := (by rw [f13] at f19; exact f19 : n11 = hV H1 305 (n10).toNat).trans ((congrFun (fRow f12.1.2.1 305 kR_277_305) _))
  have k0 := g4
  have p0 := g3.1
  have p1 := g3.2.1
  have p2 := g3.2.2
  clear g3
  clear g4
  clear f14 f19
  subst e1
  rw [f15] at f16
  rw [f21] at f22
  first
  | (have ix0 : n10 = 6 * n3 := Eq.trans f16 (w32_iv (Iml 6 rfl (Iat f7 f6)) (by decide)); subst ix0; clear f16)
  | (have ix0 : n10 = 6 * n3 := Eq.trans f16 (w32_id (by omega) (by omega)); subst ix0; clear f16)
  | (unfold w32 at f16; have ix0 : n10 = 6 * n3 := (by omega); subst ix0)
  | skip
  first
  | (have ix1 : n15 = n1 + 1 := Eq.trans f24 (w32_iv (Iad (Iat f3 f2) (IC 1)) (by decide)); subst ix1; clear f24)
  | (have ix1 : n15 = n1 + 1 := Eq.trans f24 (w32_id (by omega) (by omega)); subst ix1; clear f24)
  | (unfold w32 at f24; have ix1 : n15 = n1 + 1 := (by omega); subst ix1)
  | skip
  try unfold w32 at f16
  try unfold w32 at f22
  try unfold w32 at f23
  try unfold w32 at f24
  try subst k0
  omega
theorem c_277_57_3 {q0 : Nat} : vOkm T0 (eP e_277 L_277 A_277 mu_277 (some q0)) 2 ([(10, [18, 5], [], 1), (1, [15, 14, 5], [], 0), (3, [14, 13, 4], [], 0), (0, [13], [], 240), (43, [7, 11], [], 0), (22, [11, 8, 10], [1], 0), (90, [11], [], -1), (91, [11], [], 9999), (3, [10, 9, 3], [], 0), (0, [9], [], 6), (20, [8, 2], [1], 31), (0, [8], [], 305), (5000, [0, 1, 2, 3, 4, 5, 6, 7], [0, 1], 57), (0, [0], [], 285), (90, [1], [], 0), (91, [1], [], 1007), (0, [2], [], 285), (90, [3], [], 0), (91, [3], [], 1007), (90, [4], [], 0), (91, [4], [], 2), (90, [5], [], 0), (91, [5], [], 239), (90, [7], [], 0), (91, [7], [], 5)], (91, [18], [], 240)) := vOk_inI fun ρ η f0 f1 f2 f3 f4 f5 f6 f7 f8 f9 f10 f11 f12 f13 f14 f15 f16 f17 f18 f19 f20 f21 f22 f23 f24 => q_277_14 (q0 := q0) (n0 := ρ 7) (n1 := ρ 5) (n2 := ρ 4) (n3 := ρ 3) (n4 := ρ 2) (n5 := ρ 1) (n6 := ρ 0) (n7 := ρ 6) (n8 := ρ 8) (n9 := ρ 9) (n10 := ρ 10) (n11 := ρ 11) (n12 := ρ 13) (n13 := ρ 14) (n14 := ρ 15) (n15 := ρ 18) (H0 := η 0) (H1 := η 1) f24 f23 f22 f21 f20 f19 f18 f17 f16 f15 f14 f13 f12 f11 f10 f9 f8 f7 f6 f5 f4 f3 f2 f1 f0
theorem q_277_15 {q0 : Nat} {n0 n1 n2 n3 n4 n5 n6 n7 n8 n9 n10 n11 n12 n13 n14 n15 n16 n17 n18 : Int} {H0 H1 H2 : gH} (f0 : n0 ≤ 5) (f1 : 0 ≤ n0) (f2 : n1 ≤ 239) (f3 : 0 ≤ n1) (f4 : n2 ≤ 2) (f5 : 0 ≤ n2) (f6 : n3 ≤ 1007) (f7 : 0 ≤ n3) (f8 : n4 = 285) (f9 : n5 ≤ 1007) (f10 : 0 ≤ n5) (f11 : n6 = 285) (f12 : (hLe T0 H0 H1 ∧ hFr s_277.2.2.2.2 H0 H1 ∧ hWt T0 H1) ∧ (Ab_277_57 n6 n5 n4 n3 n2 n1 n7 n0 H0 H1 ∧ preb_277 n6 n5 H0) ∧ some q0 = some (mub_277_57 n6 n5 n4 n3 n2 n1 n7 n0 H0 H1)) (f13 : n8 = 305) (f14 : n8 = hV H1 (n4).toNat 31) (f15 : n9 = 6) (f16 : n10 = w32 (n9 * n3)) (f17 : n11 ≤ 9999) (f18 : (-1) ≤ n11) (f19 : n11 = hV H1 (n8).toNat (n10).toNat) (f20 : n11 ≤ n0) (f21 : n12 = 349) (f22 : n12 = hV H1 (n4).toNat 89) (f23 : n13 = 240) (f24 : n14 = w32 (n13 * n2)) (f25 : n15 = w32 (n14 + n1)) (f26 : n16 = 100) (f27 : n17 = o64 (fun x y => x / y) n7 n16) (f28 : hUpd H2 H1 n12 n15 n17) (f29 : n18 = w32 (n1 + 1)) : Ab_277_43 n6 n5 n4 n3 n2 n18 H0 H2 ∧ ∀ q, some q0 = some q → mub_277_43 n6 n5 n4 n3 n2 n18 H0 H2 < q := by
  have g4 := f12.2.1.1
  unfold Ab_277_57 at g4
  have g3 := f12.2.1.2
  unfold preb_277 at g3
  have g5 := Option.some.inj f12.2.2
  unfold mub_277_57 at g5
  unfold Ab_277_43
  unfold mub_277_43
  have e1 : n11 = hV H0 305 (n10).toNat := (by rw [f13] at f19; exact f19 : n11 = hV H1 305 (n10).toNat).trans ((congrFun (fRow f12.1.2.1 305 kR_277_305) _))
  have k0 := g4
  have p0 := g3.1
  have p1 := g3.2.1
  have p2 := g3.2.2
  clear g3
  clear g4
  clear f14 f19 f22
  subst e1
  rw [f15] at f16
  rw [f23] at f24
  first
  | (have ix0 : n10 = 6 * n3 := Eq.trans f16 (w32_iv (Iml 6 rfl (Iat f7 f6)) (by decide)); subst ix0; clear f16)
  | (have ix0 : n10 = 6 * n3 := Eq.trans f16 (w32_id (by omega) (by omega)); subst ix0; clear f16)
  | (unfold w32 at f16; have ix0 : n10 = 6 * n3 := (by omega); subst ix0)
  | skip
  first
  | (have ix1 : n14 = 240 * n2 := Eq.trans f24 (w32_iv (Iml 240 rfl (Iat f5 f4)) (by decide)); subst ix1; clear f24)
  | (have ix1 : n14 = 240 * n2 := Eq.trans f24 (w32_id (by omega) (by omega)); subst ix1; clear f24)
  | (unfold w32 at f24; have ix1 : n14 = 240 * n2 := (by omega); subst ix1)
  | skip
  first
  | (have ix2 : n15 = (240 * n2) + n1 := Eq.trans f25 (w32_iv (Iad (Iml 240 rfl (Iat f5 f4)) (Iat f3 f2)) (by decide)); subst ix2; clear f25)
  | (have ix2 : n15 = (240 * n2) + n1 := Eq.trans f25 (w32_id (by omega) (by omega)); subst ix2; clear f25)
  | (unfold w32 at f25; have ix2 : n15 = (240 * n2) + n1 := (by omega); subst ix2)
  | skip
  first
  | (have ix3 : n18 = n1 + 1 := Eq.trans f29 (w32_iv (Iad (Iat f3 f2) (IC 1)) (by decide)); subst ix3; clear f29)
  | (have ix3 : n18 = n1 + 1 := Eq.trans f29 (w32_id (by omega) (by omega)); subst ix3; clear f29)
  | (unfold w32 at f29; have ix3 : n18 = n1 + 1 := (by omega); subst ix3)
  | skip
  try unfold w32 at f16
  try unfold w32 at f24
  try unfold w32 at f25
  try unfold w32 at f29
  try subst k0
  refine ⟨?_, fun q hq => ?_⟩
  · first | assumption | omega | trivial
  · have g6 := Option.some.inj hq
    subst g6
    omega
theorem c_277_57_4 {q0 : Nat} : vOkm T0 (eP e_277 L_277 A_277 mu_277 (some q0)) 2 ([(10, [18, 5], [], 1), (80, [12, 15, 17], [2, 1], 1), (64, [17, 6, 16], [], 0), (0, [16], [], 100), (1, [15, 14, 5], [], 0), (3, [14, 13, 4], [], 0), (0, [13], [], 240), (20, [12, 2], [1], 89), (0, [12], [], 349), (43, [7, 11], [], 0), (22, [11, 8, 10], [1], 0), (90, [11], [], -1), (91, [11], [], 9999), (3, [10, 9, 3], [], 0), (0, [9], [], 6), (20, [8, 2], [1], 31), (0, [8], [], 305), (5000, [0, 1, 2, 3, 4, 5, 6, 7], [0, 1], 57), (0, [0], [], 285), (90, [1], [], 0), (91, [1], [], 1007), (0, [2], [], 285), (90, [3], [], 0), (91, [3], [], 1007), (90, [4], [], 0), (91, [4], [], 2), (90, [5], [], 0), (91, [5], [], 239), (90, [7], [], 0), (91, [7], [], 5)], (4000, [2, 3, 4, 18], [2], 43)) := vOk_inI fun ρ η f0 f1 f2 f3 f4 f5 f6 f7 f8 f9 f10 f11 f12 f13 f14 f15 f16 f17 f18 f19 f20 f21 f22 f23 f24 f25 f26 f27 f28 f29 => q_277_15 (q0 := q0) (n0 := ρ 7) (n1 := ρ 5) (n2 := ρ 4) (n3 := ρ 3) (n4 := ρ 2) (n5 := ρ 1) (n6 := ρ 0) (n7 := ρ 6) (n8 := ρ 8) (n9 := ρ 9) (n10 := ρ 10) (n11 := ρ 11) (n12 := ρ 12) (n13 := ρ 13) (n14 := ρ 14) (n15 := ρ 15) (n16 := ρ 16) (n17 := ρ 17) (n18 := ρ 18) (H0 := η 0) (H1 := η 1) (H2 := η 2) f29 f28 f27 f26 f25 f24 f23 f22 f21 f20 f19 f18 f17 f16 f15 f14 f13 f12 f11 f10 f9 f8 f7 f6 f5 f4 f3 f2 f1 f0
theorem q_277_16 {q0 : Nat} {n0 n1 n2 n3 n4 n5 n6 n7 n8 n9 n10 n11 n12 n13 n14 : Int} {H0 H1 : gH} (f0 : n0 ≤ 5) (f1 : 0 ≤ n0) (f2 : n1 ≤ 239) (f3 : 0 ≤ n1) (f4 : n2 ≤ 2) (f5 : 0 ≤ n2) (f6 : n3 ≤ 1007) (f7 : 0 ≤ n3) (f8 : n4 = 285) (f9 : n5 ≤ 1007) (f10 : 0 ≤ n5) (f11 : n6 = 285) (f12 : (hLe T0 H0 H1 ∧ hFr s_277.2.2.2.2 H0 H1 ∧ hWt T0 H1) ∧ (Ab_277_57 n6 n5 n4 n3 n2 n1 n7 n0 H0 H1 ∧ preb_277 n6 n5 H0) ∧ some q0 = some (mub_277_57 n6 n5 n4 n3 n2 n1 n7 n0 H0 H1)) (f13 : n8 = 305) (f14 : n8 = hV H1 (n4).toNat 31) (f15 : n9 = 6) (f16 : n10 = w32 (n9 * n3)) (f17 : n11 ≤ 9999) (f18 : (-1) ≤ n11) (f19 : n11 = hV H1 (n8).toNat (n10).toNat) (f20 : n0 < n11) (f21 : n1 < n0) (f22 : n12 = 240) (f23 : n13 = w32 (n12 * n2)) (f24 : n14 = w32 (n13 + n1)) : 0 ≤ n14 ∧ n14 < 720 := by
  have g4 := f12.2.1.1
  unfold Ab_277_57 at g4
  have g3 := f12.2.1.2
  unfold preb_277 at g3
  have e1 : n11 = hV H0 305 (n10).toNat := (by rw [f13] at f19; exact f19 : n11 = hV H1 305 (n10).toNat).trans ((congrFun (fRow f12.1.2.1 305 kR_277_305) _))
  have k0 := g4
  have p0 := g3.1
  have p1 := g3.2.1
  have p2 := g3.2.2
  clear g3
  clear g4
  clear f14 f19
  subst e1
  rw [f15] at f16
  rw [f22] at f23
  first
  | (have ix0 : n10 = 6 * n3 := Eq.trans f16 (w32_iv (Iml 6 rfl (Iat f7 f6)) (by decide)); subst ix0; clear f16)
  | (have ix0 : n10 = 6 * n3 := Eq.trans f16 (w32_id (by omega) (by omega)); subst ix0; clear f16)
  | (unfold w32 at f16; have ix0 : n10 = 6 * n3 := (by omega); subst ix0)
  | skip
  first
  | (have ix1 : n13 = 240 * n2 := Eq.trans f23 (w32_iv (Iml 240 rfl (Iat f5 f4)) (by decide)); subst ix1; clear f23)
  | (have ix1 : n13 = 240 * n2 := Eq.trans f23 (w32_id (by omega) (by omega)); subst ix1; clear f23)
  | (unfold w32 at f23; have ix1 : n13 = 240 * n2 := (by omega); subst ix1)
  | skip
  first
  | (have ix2 : n14 = (240 * n2) + n1 := Eq.trans f24 (w32_iv (Iad (Iml 240 rfl (Iat f5 f4)) (Iat f3 f2)) (by decide)); subst ix2; clear f24)
  | (have ix2 : n14 = (240 * n2) + n1 := Eq.trans f24 (w32_id (by omega) (by omega)); subst ix2; clear f24)
  | (unfold w32 at f24; have ix2 : n14 = (240 * n2) + n1 := (by omega); subst ix2)
  | skip
  try unfold w32 at f16
  try unfold w32 at f23
  try unfold w32 at f24
  try subst k0
  omega
theorem c_277_57_5 {q0 : Nat} : vOkm T0 (eP e_277 L_277 A_277 mu_277 (some q0)) 2 ([(1, [15, 14, 5], [], 0), (3, [14, 13, 4], [], 0), (0, [13], [], 240), (44, [7, 5], [], 0), (42, [7, 11], [], 0), (22, [11, 8, 10], [1], 0), (90, [11], [], -1), (91, [11], [], 9999), (3, [10, 9, 3], [], 0), (0, [9], [], 6), (20, [8, 2], [1], 31), (0, [8], [], 305), (5000, [0, 1, 2, 3, 4, 5, 6, 7], [0, 1], 57), (0, [0], [], 285), (90, [1], [], 0), (91, [1], [], 1007), (0, [2], [], 285), (90, [3], [], 0), (91, [3], [], 1007), (90, [4], [], 0), (91, [4], [], 2), (90, [5], [], 0), (91, [5], [], 239), (90, [7], [], 0), (91, [7], [], 5)], (70, [15], [], 720)) := vOk_inI fun ρ η f0 f1 f2 f3 f4 f5 f6 f7 f8 f9 f10 f11 f12 f13 f14 f15 f16 f17 f18 f19 f20 f21 f22 f23 f24 => q_277_16 (q0 := q0) (n0 := ρ 7) (n1 := ρ 5) (n2 := ρ 4) (n3 := ρ 3) (n4 := ρ 2) (n5 := ρ 1) (n6 := ρ 0) (n7 := ρ 6) (n8 := ρ 8) (n9 := ρ 9) (n10 := ρ 10) (n11 := ρ 11) (n12 := ρ 13) (n13 := ρ 14) (n14 := ρ 15) (H0 := η 0) (H1 := η 1) f24 f23 f22 f21 f20 f19 f18 f17 f16 f15 f14 f13 f12 f11 f10 f9 f8 f7 f6 f5 f4 f3 f2 f1 f0
theorem q_277_17 {q0 : Nat} {n0 n1 n2 n3 n4 n5 n6 n7 n8 n9 n10 n11 n12 n13 n14 n15 : Int} {H0 H1 : gH} (f0 : n0 ≤ 5) (f1 : 0 ≤ n0) (f2 : n1 ≤ 239) (f3 : 0 ≤ n1) (f4 : n2 ≤ 2) (f5 : 0 ≤ n2) (f6 : n3 ≤ 1007) (f7 : 0 ≤ n3) (f8 : n4 = 285) (f9 : n5 ≤ 1007) (f10 : 0 ≤ n5) (f11 : n6 = 285) (f12 : (hLe T0 H0 H1 ∧ hFr s_277.2.2.2.2 H0 H1 ∧ hWt T0 H1) ∧ (Ab_277_57 n6 n5 n4 n3 n2 n1 n7 n0 H0 H1 ∧ preb_277 n6 n5 H0) ∧ some q0 = some (mub_277_57 n6 n5 n4 n3 n2 n1 n7 n0 H0 H1)) (f13 : n8 = 305) (f14 : n8 = hV H1 (n4).toNat 31) (f15 : n9 = 6) (f16 : n10 = w32 (n9 * n3)) (f17 : n11 ≤ 9999) (f18 : (-1) ≤ n11) (f19 : n11 = hV H1 (n8).toNat (n10).toNat) (f20 : n0 < n11) (f21 : n1 < n0) (f22 : n12 = 240) (f23 : n13 = w32 (n12 * n2)) (f24 : n14 = w32 (n13 + n1)) (f25 : n15 = w32 (n1 + 1)) : 0 ≤ n15 := by
  have g4 := f12.2.1.1
  unfold Ab_277_57 at g4
  have g3 := f12.2.1.2
  unfold preb_277 at g3
  have e1 : n11 = hV H0 305 (n10).toNat := (by rw [f13] at f19; exact f19 : n11 = hV H1 305 (n10).toNat).trans ((congrFun (fRow f12.1.2.1 305 kR_277_305) _))
  have k0 := g4
  have p0 := g3.1
  have p1 := g3.2.1
  have p2 := g3.2.2
  clear g3
  clear g4
  clear f14 f19
  subst e1
  rw [f15] at f16
  rw [f22] at f23
  first
  | (have ix0 : n10 = 6 * n3 := Eq.trans f16 (w32_iv (Iml 6 rfl (Iat f7 f6)) (by decide)); subst ix0; clear f16)
  | (have ix0 : n10 = 6 * n3 := Eq.trans f16 (w32_id (by omega) (by omega)); subst ix0; clear f16)
  | (unfold w32 at f16; have ix0 : n10 = 6 * n3 := (by omega); subst ix0)
  | skip
  first
  | (have ix1 : n15 = n1 + 1 := Eq.trans f25 (w32_iv (Iad (Iat f3 f2) (IC 1)) (by decide)); subst ix1; clear f25)
  | (have ix1 : n15 = n1 + 1 := Eq.trans f25 (w32_id (by omega) (by omega)); subst ix1; clear f25)
  | (unfold w32 at f25; have ix1 : n15 = n1 + 1 := (by omega); subst ix1)
  | skip
  try unfold w32 at f16
  try unfold w32 at f23
  try unfold w32 at f24
  try unfold w32 at f25
  try subst k0
  omega
theorem c_277_57_6 {q0 : Nat} : vOkm T0 (eP e_277 L_277 A_277 mu_277 (some q0)) 2 ([(10, [18, 5], [], 1), (1, [15, 14, 5], [], 0), (3, [14, 13, 4], [], 0), (0, [13], [], 240), (44, [7, 5], [], 0), (42, [7, 11], [], 0), (22, [11, 8, 10], [1], 0), (90, [11], [], -1), (91, [11], [], 9999), (3, [10, 9, 3], [], 0), (0, [9], [], 6), (20, [8, 2], [1], 31), (0, [8], [], 305), (5000, [0, 1, 2, 3, 4, 5, 6, 7], [0, 1], 57), (0, [0], [], 285), (90, [1], [], 0), (91, [1], [], 1007), (0, [2], [], 285), (90, [3], [], 0), (91, [3], [], 1007), (90, [4], [], 0), (91, [4], [], 2), (90, [5], [], 0), (91, [5], [], 239), (90, [7], [], 0), (91, [7], [], 5)], (90, [18], [], 0)) := vOk_inI fun ρ η f0 f1 f2 f3 f4 f5 f6 f7 f8 f9 f10 f11 f12 f13 f14 f15 f16 f17 f18 f19 f20 f21 f22 f23 f24 f25 => q_277_17 (q0 := q0) (n0 := ρ 7) (n1 := ρ 5) (n2 := ρ 4) (n3 := ρ 3) (n4 := ρ 2) (n5 := ρ 1) (n6 := ρ 0) (n7 := ρ 6) (n8 := ρ 8) (n9 := ρ 9) (n10 := ρ 10) (n11 := ρ 11) (n12 := ρ 13) (n13 := ρ 14) (n14 := ρ 15) (n15 := ρ 18) (H0 := η 0) (H1 := η 1) f25 f24 f23 f22 f21 f20 f19 f18 f17 f16 f15 f14 f13 f12 f11 f10 f9 f8 f7 f6 f5 f4 f3 f2 f1 f0
theorem q_277_18 {q0 : Nat} {n0 n1 n2 n3 n4 n5 n6 n7 n8 n9 n10 n11 n12 n13 n14 n15 : Int} {H0 H1 : gH} (f0 : n0 ≤ 5) (f1 : 0 ≤ n0) (f2 : n1 ≤ 239) (f3 : 0 ≤ n1) (f4 : n2 ≤ 2) (f5 : 0 ≤ n2) (f6 : n3 ≤ 1007) (f7 : 0 ≤ n3) (f8 : n4 = 285) (f9 : n5 ≤ 1007) (f10 : 0 ≤ n5) (f11 : n6 = 285) (f12 : (hLe T0 H0 H1 ∧ hFr s_277.2.2.2.2 H0 H1 ∧ hWt T0 H1) ∧ (Ab_277_57 n6 n5 n4 n3 n2 n1 n7 n0 H0 H1 ∧ preb_277 n6 n5 H0) ∧ some q0 = some (mub_277_57 n6 n5 n4 n3 n2 n1 n7 n0 H0 H1)) (f13 : n8 = 305) (f14 : n8 = hV H1 (n4).toNat 31) (f15 : n9 = 6) (f16 : n10 = w32 (n9 * n3)) (f17 : n11 ≤ 9999) (f18 : (-1) ≤ n11) (f19 : n11 = hV H1 (n8).toNat (n10).toNat) (f20 : n0 < n11) (f21 : n1 < n0) (f22 : n12 = 240) (f23 : n13 = w32 (n12 * n2)) (f24 : n14 = w32 (n13 + n1)) (f25 : n15 = w32 (n1 + 1)) : n15 ≤ 240 := by
  have g4 := f12.2.1.1
  unfold Ab_277_57 at g4
  have g3 := f12.2.1.2
  unfold preb_277 at g3
  have e1 : n11 = hV H0 305 (n10).toNat := (by rw [f13] at f19; exact f19 : n11 = hV H1 305 (n10).toNat).trans ((congrFun (fRow f12.1.2.1 305 kR_277_305) _))
  have k0 := g4
  have p0 := g3.1
  have p1 := g3.2.1
  have p2 := g3.2.2
  clear g3
  clear g4
  clear f14 f19
  subst e1
  rw [f15] at f16
  rw [f22] at f23
  first
  | (have ix0 : n10 = 6 * n3 := Eq.trans f16 (w32_iv (Iml 6 rfl (Iat f7 f6)) (by decide)); subst ix0; clear f16)
  | (have ix0 : n10 = 6 * n3 := Eq.trans f16 (w32_id (by omega) (by omega)); subst ix0; clear f16)
  | (unfold w32 at f16; have ix0 : n10 = 6 * n3 := (by omega); subst ix0)
  | skip
  first
  | (have ix1 : n15 = n1 + 1 := Eq.trans f25 (w32_iv (Iad (Iat f3 f2) (IC 1)) (by decide)); subst ix1; clear f25)
  | (have ix1 : n15 = n1 + 1 := Eq.trans f25 (w32_id (by omega) (by omega)); subst ix1; clear f25)
  | (unfold w32 at f25; have ix1 : n15 = n1 + 1 := (by omega); subst ix1)
  | skip
  try unfold w32 at f16
  try unfold w32 at f23
  try unfold w32 at f24
  try unfold w32 at f25
  try subst k0
  omega
theorem c_277_57_7 {q0 : Nat} : vOkm T0 (eP e_277 L_277 A_277 mu_277 (some q0)) 2 ([(10, [18, 5], [], 1), (1, [15, 14, 5], [], 0), (3, [14, 13, 4], [], 0), (0, [13], [], 240), (44, [7, 5], [], 0), (42, [7, 11], [], 0), (22, [11, 8, 10], [1], 0), (90, [11], [], -1), (91, [11], [], 9999), (3, [10, 9, 3], [], 0), (0, [9], [], 6), (20, [8, 2], [1], 31), (0, [8], [], 305), (5000, [0, 1, 2, 3, 4, 5, 6, 7], [0, 1], 57), (0, [0], [], 285), (90, [1], [], 0), (91, [1], [], 1007), (0, [2], [], 285), (90, [3], [], 0), (91, [3], [], 1007), (90, [4], [], 0), (91, [4], [], 2), (90, [5], [], 0), (91, [5], [], 239), (90, [7], [], 0), (91, [7], [], 5)], (91, [18], [], 240)) := vOk_inI fun ρ η f0 f1 f2 f3 f4 f5 f6 f7 f8 f9 f10 f11 f12 f13 f14 f15 f16 f17 f18 f19 f20 f21 f22 f23 f24 f25 => q_277_18 (q0 := q0) (n0 := ρ 7) (n1 := ρ 5) (n2 := ρ 4) (n3 := ρ 3) (n4 := ρ 2) (n5 := ρ 1) (n6 := ρ 0) (n7 := ρ 6) (n8 := ρ 8) (n9 := ρ 9) (n10 := ρ 10) (n11 := ρ 11) (n12 := ρ 13) (n13 := ρ 14) (n14 := ρ 15) (n15 := ρ 18) (H0 := η 0) (H1 := η 1) f25 f24 f23 f22 f21 f20 f19 f18 f17 f16 f15 f14 f13 f12 f11 f10 f9 f8 f7 f6 f5 f4 f3 f2 f1 f0
theorem q_277_19 {q0 : Nat} {n0 n1 n2 n3 n4 n5 n6 n7 n8 n9 n10 n11 n12 n13 n14 n15 n16 n17 n18 : Int} {H0 H1 H2 : gH} (f0 : n0 ≤ 5) (f1 : 0 ≤ n0) (f2 : n1 ≤ 239) (f3 : 0 ≤ n1) (f4 : n2 ≤ 2) (f5 : 0 ≤ n2) (f6 : n3 ≤ 1007) (f7 : 0 ≤ n3) (f8 : n4 = 285) (f9 : n5 ≤ 1007) (f10 : 0 ≤ n5) (f11 : n6 = 285) (f12 : (hLe T0 H0 H1 ∧ hFr s_277.2.2.2.2 H0 H1 ∧ hWt T0 H1) ∧ (Ab_277_57 n6 n5 n4 n3 n2 n1 n7 n0 H0 H1 ∧ preb_277 n6 n5 H0) ∧ some q0 = some (mub_277_57 n6 n5 n4 n3 n2 n1 n7 n0 H0 H1)) (f13 : n8 = 305) (f14 : n8 = hV H1 (n4).toNat 31) (f15 : n9 = 6) (f16 : n10 = w32 (n9 * n3)) (f17 : n11 ≤ 9999) (f18 : (-1) ≤ n11) (f19 : n11 = hV H1 (n8).toNat (n10).toNat) (f20 : n0 < n11) (f21 : n1 < n0) (f22 : n12 = 349) (f23 : n12 = hV H1 (n4).toNat 89) (f24 : n13 = 240) (f25 : n14 = w32 (n13 * n2)) (f26 : n15 = w32 (n14 + n1)) (f27 : n16 = 100) (f28 : n17 = o64 (fun x y => x / y) n7 n16) (f29 : hUpd H2 H1 n12 n15 n17) (f30 : n18 = w32 (n1 + 1)) : Ab_277_43 n6 n5 n4 n3 n2 n18 H0 H2 ∧ ∀ q, some q0 = some q → mub_277_43 n6 n5 n4 n3 n2 n18 H0 H2 < q := by
  have g4 := f12.2.1.1
  unfold Ab_277_57 at g4
  have g3 := f12.2.1.2
  unfold preb_277 at g3
  have g5 := Option.some.inj f12.2.2
  unfold mub_277_57 at g5
  unfold Ab_277_43
  unfold mub_277_43
  have e1 : n11 = hV H0 305 (n10).toNat := (by rw [f13] at f19; exact f19 : n11 = hV H1 305 (n10).toNat).trans ((congrFun (fRow f12.1.2.1 305 kR_277_305) _))
  have k0 := g4
  have p0 := g3.1
  have p1 := g3.2.1
  have p2 := g3.2.2
  clear g3
  clear g4
  clear f14 f19 f23
  subst e1
  rw [f15] at f16
  rw [f24] at f25
  first
  | (have ix0 : n10 = 6 * n3 := Eq.trans f16 (w32_iv (Iml 6 rfl (Iat f7 f6)) (by decide)); subst ix0; clear f16)
  | (have ix0 : n10 = 6 * n3 := Eq.trans f16 (w32_id (by omega) (by omega)); subst ix0; clear f16)
  | (unfold w32 at f16; have ix0 : n10 = 6 * n3 := (by omega); subst ix0)
  | skip
  first
  | (have ix1 : n14 = 240 * n2 := Eq.trans f25 (w32_iv (Iml 240 rfl (Iat f5 f4)) (by decide)); subst ix1; clear f25)
  | (have ix1 : n14 = 240 * n2 := Eq.trans f25 (w32_id (by omega) (by omega)); subst ix1; clear f25)
  | (unfold w32 at f25; have ix1 : n14 = 240 * n2 := (by omega); subst ix1)
  | skip
  first
  | (have ix2 : n15 = (240 * n2) + n1 := Eq.trans f26 (w32_iv (Iad (Iml 240 rfl (Iat f5 f4)) (Iat f3 f2)) (by decide)); subst ix2; clear f26)
  | (have ix2 : n15 = (240 * n2) + n1 := Eq.trans f26 (w32_id (by omega) (by omega)); subst ix2; clear f26)
  | (unfold w32 at f26; have ix2 : n15 = (240 * n2) + n1 := (by omega); subst ix2)
  | skip
  first
  | (have ix3 : n18 = n1 + 1 := Eq.trans f30 (w32_iv (Iad (Iat f3 f2) (IC 1)) (by decide)); subst ix3; clear f30)
  | (have ix3 : n18 = n1 + 1 := Eq.trans f30 (w32_id (by omega) (by omega)); subst ix3; clear f30)
  | (unfold w32 at f30; have ix3 : n18 = n1 + 1 := (by omega); subst ix3)
  | skip
  try unfold w32 at f16
  try unfold w32 at f25
  try unfold w32 at f26
  try unfold w32 at f30
  try subst k0
  refine ⟨?_, fun q hq => ?_⟩
  · first | assumption | omega | trivial
  · have g6 := Option.some.inj hq
    subst g6
    omega
theorem c_277_57_8 {q0 : Nat} : vOkm T0 (eP e_277 L_277 A_277 mu_277 (some q0)) 2 ([(10, [18, 5], [], 1), (80, [12, 15, 17], [2, 1], 1), (64, [17, 6, 16], [], 0), (0, [16], [], 100), (1, [15, 14, 5], [], 0), (3, [14, 13, 4], [], 0), (0, [13], [], 240), (20, [12, 2], [1], 89), (0, [12], [], 349), (44, [7, 5], [], 0), (42, [7, 11], [], 0), (22, [11, 8, 10], [1], 0), (90, [11], [], -1), (91, [11], [], 9999), (3, [10, 9, 3], [], 0), (0, [9], [], 6), (20, [8, 2], [1], 31), (0, [8], [], 305), (5000, [0, 1, 2, 3, 4, 5, 6, 7], [0, 1], 57), (0, [0], [], 285), (90, [1], [], 0), (91, [1], [], 1007), (0, [2], [], 285), (90, [3], [], 0), (91, [3], [], 1007), (90, [4], [], 0), (91, [4], [], 2), (90, [5], [], 0), (91, [5], [], 239), (90, [7], [], 0), (91, [7], [], 5)], (4000, [2, 3, 4, 18], [2], 43)) := vOk_inI fun ρ η f0 f1 f2 f3 f4 f5 f6 f7 f8 f9 f10 f11 f12 f13 f14 f15 f16 f17 f18 f19 f20 f21 f22 f23 f24 f25 f26 f27 f28 f29 f30 => q_277_19 (q0 := q0) (n0 := ρ 7) (n1 := ρ 5) (n2 := ρ 4) (n3 := ρ 3) (n4 := ρ 2) (n5 := ρ 1) (n6 := ρ 0) (n7 := ρ 6) (n8 := ρ 8) (n9 := ρ 9) (n10 := ρ 10) (n11 := ρ 11) (n12 := ρ 12) (n13 := ρ 13) (n14 := ρ 14) (n15 := ρ 15) (n16 := ρ 16) (n17 := ρ 17) (n18 := ρ 18) (H0 := η 0) (H1 := η 1) (H2 := η 2) f30 f29 f28 f27 f26 f25 f24 f23 f22 f21 f20 f19 f18 f17 f16 f15 f14 f13 f12 f11 f10 f9 f8 f7 f6 f5 f4 f3 f2 f1 f0
theorem q_277_20 {q0 : Nat} {n0 n1 n2 n3 n4 n5 n6 n7 n8 n9 n10 n11 n12 : Int} {H0 H1 : gH} (f0 : n0 ≤ 5) (f1 : 0 ≤ n0) (f2 : n1 ≤ 239) (f3 : 0 ≤ n1) (f4 : n2 ≤ 2) (f5 : 0 ≤ n2) (f6 : n3 ≤ 1007) (f7 : 0 ≤ n3) (f8 : n4 = 285) (f9 : n5 ≤ 1007) (f10 : 0 ≤ n5) (f11 : n6 = 285) (f12 : (hLe T0 H0 H1 ∧ hFr s_277.2.2.2.2 H0 H1 ∧ hWt T0 H1) ∧ (Ab_277_57 n6 n5 n4 n3 n2 n1 n7 n0 H0 H1 ∧ preb_277 n6 n5 H0) ∧ some q0 = some (mub_277_57 n6 n5 n4 n3 n2 n1 n7 n0 H0 H1)) (f13 : n8 = 305) (f14 : n8 = hV H1 (n4).toNat 31) (f15 : n9 = 6) (f16 : n10 = w32 (n9 * n3)) (f17 : n11 ≤ 9999) (f18 : (-1) ≤ n11) (f19 : n11 = hV H1 (n8).toNat (n10).toNat) (f20 : n0 < n11) (f21 : n0 ≤ n1) (f22 : n12 = w32 (n1 - n0)) : 0 ≤ n12 ∧ n12 < 240 := by
  have g4 := f12.2.1.1
  unfold Ab_277_57 at g4
  have g3 := f12.2.1.2
  unfold preb_277 at g3
  have e1 : n11 = hV H0 305 (n10).toNat := (by rw [f13] at f19; exact f19 : n11 = hV H1 305 (n10).toNat).trans ((congrFun (fRow f12.1.2.1 305 kR_277_305) _))
  have k0 := g4
  have p0 := g3.1
  have p1 := g3.2.1
  have p2 := g3.2.2
  clear g3
  clear g4
  clear f14 f19
  subst e1
  rw [f15] at f16
  first
  | (have ix0 : n10 = 6 * n3 := Eq.trans f16 (w32_iv (Iml 6 rfl (Iat f7 f6)) (by decide)); subst ix0; clear f16)
  | (have ix0 : n10 = 6 * n3 := Eq.trans f16 (w32_id (by omega) (by omega)); subst ix0; clear f16)
  | (unfold w32 at f16; have ix0 : n10 = 6 * n3 := (by omega); subst ix0)
  | skip
  first
  | (have ix1 : n12 = n1 - n0 := Eq.trans f22 (w32_iv (Isu (Iat f3 f2) (Iat f1 f0)) (by decide)); subst ix1; clear f22)
  | (have ix1 : n12 = n1 - n0 := Eq.trans f22 (w32_id (by omega) (by omega)); subst ix1; clear f22)
  | (unfold w32 at f22; have ix1 : n12 = n1 - n0 := (by omega); subst ix1)
  | skip
  try unfold w32 at f16
  try unfold w32 at f22
  try subst k0
  omega
theorem c_277_57_9 {q0 : Nat} : vOkm T0 (eP e_277 L_277 A_277 mu_277 (some q0)) 2 ([(2, [13, 5, 7], [], 0), (45, [7, 5], [], 0), (42, [7, 11], [], 0), (22, [11, 8, 10], [1], 0), (90, [11], [], -1), (91, [11], [], 9999), (3, [10, 9, 3], [], 0), (0, [9], [], 6), (20, [8, 2], [1], 31), (0, [8], [], 305), (5000, [0, 1, 2, 3, 4, 5, 6, 7], [0, 1], 57), (0, [0], [], 285), (90, [1], [], 0), (91, [1], [], 1007), (0, [2], [], 285), (90, [3], [], 0), (91, [3], [], 1007), (90, [4], [], 0), (91, [4], [], 2), (90, [5], [], 0), (91, [5], [], 239), (90, [7], [], 0), (91, [7], [], 5)], (70, [13], [], 240)) := vOk_inI fun ρ η f0 f1 f2 f3 f4 f5 f6 f7 f8 f9 f10 f11 f12 f13 f14 f15 f16 f17 f18 f19 f20 f21 f22 => q_277_20 (q0 := q0) (n0 := ρ 7) (n1 := ρ 5) (n2 := ρ 4) (n3 := ρ 3) (n4 := ρ 2) (n5 := ρ 1) (n6 := ρ 0) (n7 := ρ 6) (n8 := ρ 8) (n9 := ρ 9) (n10 := ρ 10) (n11 := ρ 11) (n12 := ρ 13) (H0 := η 0) (H1 := η 1) f22 f21 f20 f19 f18 f17 f16 f15 f14 f13 f12 f11 f10 f9 f8 f7 f6 f5 f4 f3 f2 f1 f0
theorem q_277_21 {q0 : Nat} {n0 n1 n2 n3 n4 n5 n6 n7 n8 n9 n10 n11 n12 n13 n14 n15 n16 n17 n18 : Int} {H0 H1 : gH} (f0 : n0 ≤ 5) (f1 : 0 ≤ n0) (f2 : n1 ≤ 239) (f3 : 0 ≤ n1) (f4 : n2 ≤ 2) (f5 : 0 ≤ n2) (f6 : n3 ≤ 1007) (f7 : 0 ≤ n3) (f8 : n4 = 285) (f9 : n5 ≤ 1007) (f10 : 0 ≤ n5) (f11 : n6 = 285) (f12 : (hLe T0 H0 H1 ∧ hFr s_277.2.2.2.2 H0 H1 ∧ hWt T0 H1) ∧ (Ab_277_57 n6 n5 n4 n3 n2 n1 n7 n0 H0 H1 ∧ preb_277 n6 n5 H0) ∧ some q0 = some (mub_277_57 n6 n5 n4 n3 n2 n1 n7 n0 H0 H1)) (f13 : n8 = 305) (f14 : n8 = hV H1 (n4).toNat 31) (f15 : n9 = 6) (f16 : n10 = w32 (n9 * n3)) (f17 : n11 ≤ 9999) (f18 : (-1) ≤ n11) (f19 : n11 = hV H1 (n8).toNat (n10).toNat) (f20 : n0 < n11) (f21 : n0 ≤ n1) (f22 : n12 = w32 (n1 - n0)) (f23 : n13 = 305) (f24 : n13 = hV H1 (n4).toNat 31) (f25 : n14 = 6) (f26 : n15 = w32 (n14 * n3)) (f27 : n16 = 1) (f28 : n17 = w32 (n15 + n16)) (f29 : n18 = w32 (n17 + n0)) : 0 ≤ n18 ∧ n18 < 6048 := by
  have g4 := f12.2.1.1
  unfold Ab_277_57 at g4
  have g3 := f12.2.1.2
  unfold preb_277 at g3
  have e1 : n11 = hV H0 305 (n10).toNat := (by rw [f13] at f19; exact f19 : n11 = hV H1 305 (n10).toNat).trans ((congrFun (fRow f12.1.2.1 305 kR_277_305) _))
  have k0 := g4
  have p0 := g3.1
  have p1 := g3.2.1
  have p2 := g3.2.2
  clear g3
  clear g4
  clear f14 f19 f24
  subst e1
  rw [f15] at f16
  rw [f25] at f26
  first
  | (have ix0 : n10 = 6 * n3 := Eq.trans f16 (w32_iv (Iml 6 rfl (Iat f7 f6)) (by decide)); subst ix0; clear f16)
  | (have ix0 : n10 = 6 * n3 := Eq.trans f16 (w32_id (by omega) (by omega)); subst ix0; clear f16)
  | (unfold w32 at f16; have ix0 : n10 = 6 * n3 := (by omega); subst ix0)
  | skip
  first
  | (have ix1 : n15 = 6 * n3 := Eq.trans f26 (w32_iv (Iml 6 rfl (Iat f7 f6)) (by decide)); subst ix1; clear f26)
  | (have ix1 : n15 = 6 * n3 := Eq.trans f26 (w32_id (by omega) (by omega)); subst ix1; clear f26)
  | (unfold w32 at f26; have ix1 : n15 = 6 * n3 := (by omega); subst ix1)
  | skip
  first
  | (have ix2 : n17 = (6 * n3) + 1 := Eq.trans f28 (w32_iv (Iad (Iml 6 rfl (Iat f7 f6)) (IC 1)) (by decide)); subst ix2; clear f28)
  | (have ix2 : n17 = (6 * n3) + 1 := Eq.trans f28 (w32_id (by omega) (by omega)); subst ix2; clear f28)
  | (unfold w32 at f28; have ix2 : n17 = (6 * n3) + 1 := (by omega); subst ix2)
  | skip
  first
  | (have ix3 : n18 = ((6 * n3) + 1) + n0 := Eq.trans f29 (w32_iv (Iad (Iad (Iml 6 rfl (Iat f7 f6)) (IC 1)) (Iat f1 f0)) (by decide)); subst ix3; clear f29)
  | (have ix3 : n18 = ((6 * n3) + 1) + n0 := Eq.trans f29 (w32_id (by omega) (by omega)); subst ix3; clear f29)
  | (unfold w32 at f29; have ix3 : n18 = ((6 * n3) + 1) + n0 := (by omega); subst ix3)
  | skip
  try unfold w32 at f16
  try unfold w32 at f22
  try unfold w32 at f26
  try unfold w32 at f28
  try unfold w32 at f29
  try subst k0
  omega
theorem c_277_57_10 {q0 : Nat} : vOkm T0 (eP e_277 L_277 A_277 mu_277 (some q0)) 2 ([(1, [20, 19, 7], [], 0), (1, [19, 17, 18], [], 0), (0, [18], [], 1), (3, [17, 16, 3], [], 0), (0, [16], [], 6), (20, [15, 2], [1], 31), (0, [15], [], 305), (2, [13, 5, 7], [], 0), (45, [7, 5], [], 0), (42, [7, 11], [], 0), (22, [11, 8, 10], [1], 0), (90, [11], [], -1), (91, [11], [], 9999), (3, [10, 9, 3], [], 0), (0, [9], [], 6), (20, [8, 2], [1], 31), (0, [8], [], 305), (5000, [0, 1, 2, 3, 4, 5, 6, 7], [0, 1], 57), (0, [0], [], 285), (90, [1], [], 0), (91, [1], [], 1007), (0, [2], [], 285), (90, [3], [], 0), (91, [3], [], 1007), (90, [4], [], 0), (91, [4], [], 2), (90, [5], [], 0), (91, [5], [], 239), (90, [7], [], 0), (91, [7], [], 5)], (70, [20], [], 6048)) := vOk_inI fun ρ η f0 f1 f2 f3 f4 f5 f6 f7 f8 f9 f10 f11 f12 f13 f14 f15 f16 f17 f18 f19 f20 f21 f22 f23 f24 f25 f26 f27 f28 f29 => q_277_21 (q0 := q0) (n0 := ρ 7) (n1 := ρ 5) (n2 := ρ 4) (n3 := ρ 3) (n4 := ρ 2) (n5 := ρ 1) (n6 := ρ 0) (n7 := ρ 6) (n8 := ρ 8) (n9 := ρ 9) (n10 := ρ 10) (n11 := ρ 11) (n12 := ρ 13) (n13 := ρ 15) (n14 := ρ 16) (n15 := ρ 17) (n16 := ρ 18) (n17 := ρ 19) (n18 := ρ 20) (H0 := η 0) (H1 := η 1) f29 f28 f27 f26 f25 f24 f23 f22 f21 f20 f19 f18 f17 f16 f15 f14 f13 f12 f11 f10 f9 f8 f7 f6 f5 f4 f3 f2 f1 f0
theorem q_277_22 {q0 : Nat} {n0 n1 n2 n3 n4 n5 n6 n7 n8 n9 n10 n11 n12 n13 n14 n15 n16 n17 n18 n19 n20 n21 : Int} {H0 H1 : gH} (f0 : n0 ≤ 5) (f1 : 0 ≤ n0) (f2 : n1 ≤ 239) (f3 : 0 ≤ n1) (f4 : n2 ≤ 2) (f5 : 0 ≤ n2) (f6 : n3 ≤ 1007) (f7 : 0 ≤ n3) (f8 : n4 = 285) (f9 : n5 ≤ 1007) (f10 : 0 ≤ n5) (f11 : n6 = 285) (f12 : (hLe T0 H0 H1 ∧ hFr s_277.2.2.2.2 H0 H1 ∧ hWt T0 H1) ∧ (Ab_277_57 n6 n5 n4 n3 n2 n1 n7 n0 H0 H1 ∧ preb_277 n6 n5 H0) ∧ some q0 = some (mub_277_57 n6 n5 n4 n3 n2 n1 n7 n0 H0 H1)) (f13 : n8 = 305) (f14 : n8 = hV H1 (n4).toNat 31) (f15 : n9 = 6) (f16 : n10 = w32 (n9 * n3)) (f17 : n11 ≤ 9999) (f18 : (-1) ≤ n11) (f19 : n11 = hV H1 (n8).toNat (n10).toNat) (f20 : n0 < n11) (f21 : n0 ≤ n1) (f22 : n12 = w32 (n1 - n0)) (f23 : n13 = 305) (f24 : n13 = hV H1 (n4).toNat 31) (f25 : n14 = 6) (f26 : n15 = w32 (n14 * n3)) (f27 : n16 = 1) (f28 : n17 = w32 (n15 + n16)) (f29 : n18 = w32 (n17 + n0)) (f30 : n19 ≤ 9999) (f31 : (-1) ≤ n19) (f32 : n19 = hV H1 (n13).toNat (n18).toNat) (f33 : n20 = n19) (f34 : n21 = w32 (n0 + 1)) : 0 ≤ n21 := by
  have g4 := f12.2.1.1
  unfold Ab_277_57 at g4
  have g3 := f12.2.1.2
  unfold preb_277 at g3
  have e1 : n11 = hV H0 305 (n10).toNat := (by rw [f13] at f19; exact f19 : n11 = hV H1 305 (n10).toNat).trans ((congrFun (fRow f12.1.2.1 305 kR_277_305) _))
  have e2 : n19 = hV H0 305 (n18).toNat := (by rw [f23] at f32; exact f32 : n19 = hV H1 305 (n18).toNat).trans ((congrFun (fRow f12.1.2.1 305 kR_277_305) _))
  have k0 := g4
  have p0 := g3.1
  have p1 := g3.2.1
  have p2 := g3.2.2
  clear g3
  clear g4
  clear f14 f19 f24 f32
  subst e1
  subst e2
  rw [f15] at f16
  rw [f25] at f26
  first
  | (have ix0 : n10 = 6 * n3 := Eq.trans f16 (w32_iv (Iml 6 rfl (Iat f7 f6)) (by decide)); subst ix0; clear f16)
  | (have ix0 : n10 = 6 * n3 := Eq.trans f16 (w32_id (by omega) (by omega)); subst ix0; clear f16)
  | (unfold w32 at f16; have ix0 : n10 = 6 * n3 := (by omega); subst ix0)
  | skip
  first
  | (have ix1 : n15 = 6 * n3 := Eq.trans f26 (w32_iv (Iml 6 rfl (Iat f7 f6)) (by decide)); subst ix1; clear f26)
  | (have ix1 : n15 = 6 * n3 := Eq.trans f26 (w32_id (by omega) (by omega)); subst ix1; clear f26)
  | (unfold w32 at f26; have ix1 : n15 = 6 * n3 := (by omega); subst ix1)
  | skip
  first
  | (have ix2 : n17 = (6 * n3) + 1 := Eq.trans f28 (w32_iv (Iad (Iml 6 rfl (Iat f7 f6)) (IC 1)) (by decide)); subst ix2; clear f28)
  | (have ix2 : n17 = (6 * n3) + 1 := Eq.trans f28 (w32_id (by omega) (by omega)); subst ix2; clear f28)
  | (unfold w32 at f28; have ix2 : n17 = (6 * n3) + 1 := (by omega); subst ix2)
  | skip
  first
  | (have ix3 : n18 = ((6 * n3) + 1) + n0 := Eq.trans f29 (w32_iv (Iad (Iad (Iml 6 rfl (Iat f7 f6)) (IC 1)) (Iat f1 f0)) (by decide)); subst ix3; clear f29)
  | (have ix3 : n18 = ((6 * n3) + 1) + n0 := Eq.trans f29 (w32_id (by omega) (by omega)); subst ix3; clear f29)
  | (unfold w32 at f29; have ix3 : n18 = ((6 * n3) + 1) + n0 := (by omega); subst ix3)
  | skip
  first
  | (have ix4 : n21 = n0 + 1 := Eq.trans f34 (w32_iv (Iad (Iat f1 f0) (IC 1)) (by decide)); subst ix4; clear f34)
  | (have ix4 : n21 = n0 + 1 := Eq.trans f34 (w32_id (by omega) (by omega)); subst ix4; clear f34)
  | (unfold w32 at f34; have ix4 : n21 = n0 + 1 := (by omega); subst ix4)
  | skip
  try unfold w32 at f16
  try unfold w32 at f22
  try unfold w32 at f26
  try unfold w32 at f28
  try unfold w32 at f29
  try unfold w32 at f34
  try subst k0
  omega
theorem c_277_57_11 {q0 : Nat} : vOkm T0 (eP e_277 L_277 A_277 mu_277 (some q0)) 2 ([(10, [25, 7], [], 1), (17, [22, 21], [], 0), (22, [21, 15, 20], [1], 0), (90, [21], [], -1), (91, [21], [], 9999), (1, [20, 19, 7], [], 0), (1, [19, 17, 18], [], 0), (0, [18], [], 1), (3, [17, 16, 3], [], 0), (0, [16], [], 6), (20, [15, 2], [1], 31), (0, [15], [], 305), (2, [13, 5, 7], [], 0), (45, [7, 5], [], 0), (42, [7, 11], [], 0), (22, [11, 8, 10], [1], 0), (90, [11], [], -1), (91, [11], [], 9999), (3, [10, 9, 3], [], 0), (0, [9], [], 6), (20, [8, 2], [1], 31), (0, [8], [], 305), (5000, [0, 1, 2, 3, 4, 5, 6, 7], [0, 1], 57), (0, [0], [], 285), (90, [1], [], 0), (91, [1], [], 1007), (0, [2], [], 285), (90, [3], [], 0), (91, [3], [], 1007), (90, [4], [], 0), (91, [4], [], 2), (90, [5], [], 0), (91, [5], [], 239), (90, [7], [], 0), (91, [7], [], 5)], (90, [25], [], 0)) := vOk_inI fun ρ η f0 f1 f2 f3 f4 f5 f6 f7 f8 f9 f10 f11 f12 f13 f14 f15 f16 f17 f18 f19 f20 f21 f22 f23 f24 f25 f26 f27 f28 f29 f30 f31 f32 f33 f34 => q_277_22 (q0 := q0) (n0 := ρ 7) (n1 := ρ 5) (n2 := ρ 4) (n3 := ρ 3) (n4 := ρ 2) (n5 := ρ 1) (n6 := ρ 0) (n7 := ρ 6) (n8 := ρ 8) (n9 := ρ 9) (n10 := ρ 10) (n11 := ρ 11) (n12 := ρ 13) (n13 := ρ 15) (n14 := ρ 16) (n15 := ρ 17) (n16 := ρ 18) (n17 := ρ 19) (n18 := ρ 20) (n19 := ρ 21) (n20 := ρ 22) (n21 := ρ 25) (H0 := η 0) (H1 := η 1) f34 f33 f32 f31 f30 f29 f28 f27 f26 f25 f24 f23 f22 f21 f20 f19 f18 f17 f16 f15 f14 f13 f12 f11 f10 f9 f8 f7 f6 f5 f4 f3 f2 f1 f0
theorem q_277_23 {q0 : Nat} {n0 n1 n2 n3 n4 n5 n6 n7 n8 n9 n10 n11 n12 n13 n14 n15 n16 n17 n18 n19 n20 n21 : Int} {H0 H1 : gH} (f0 : n0 ≤ 5) (f1 : 0 ≤ n0) (f2 : n1 ≤ 239) (f3 : 0 ≤ n1) (f4 : n2 ≤ 2) (f5 : 0 ≤ n2) (f6 : n3 ≤ 1007) (f7 : 0 ≤ n3) (f8 : n4 = 285) (f9 : n5 ≤ 1007) (f10 : 0 ≤ n5) (f11 : n6 = 285) (f12 : (hLe T0 H0 H1 ∧ hFr s_277.2.2.2.2 H0 H1 ∧ hWt T0 H1) ∧ (Ab_277_57 n6 n5 n4 n3 n2 n1 n7 n0 H0 H1 ∧ preb_277 n6 n5 H0) ∧ some q0 = some (mub_277_57 n6 n5 n4 n3 n2 n1 n7 n0 H0 H1)) (f13 : n8 = 305) (f14 : n8 = hV H1 (n4).toNat 31) (f15 : n9 = 6) (f16 : n10 = w32 (n9 * n3)) (f17 : n11 ≤ 9999) (f18 : (-1) ≤ n11) (f19 : n11 = hV H1 (n8).toNat (n10).toNat) (f20 : n0 < n11) (f21 : n0 ≤ n1) (f22 : n12 = w32 (n1 - n0)) (f23 : n13 = 305) (f24 : n13 = hV H1 (n4).toNat 31) (f25 : n14 = 6) (f26 : n15 = w32 (n14 * n3)) (f27 : n16 = 1) (f28 : n17 = w32 (n15 + n16)) (f29 : n18 = w32 (n17 + n0)) (f30 : n19 ≤ 9999) (f31 : (-1) ≤ n19) (f32 : n19 = hV H1 (n13).toNat (n18).toNat) (f33 : n20 = n19) (f34 : n21 = w32 (n0 + 1)) : n21 ≤ 5 := by
  have g4 := f12.2.1.1
  unfold Ab_277_57 at g4
  have g3 := f12.2.1.2
  unfold preb_277 at g3
  have e1 : n11 = hV H0 305 (n10).toNat := (by rw [f13] at f19; exact f19 : n11 = hV H1 305 (n10).toNat).trans ((congrFun (fRow f12.1.2.1 305 kR_277_305) _))
  have e2 : n19 = hV H0 305 (n18).toNat := (by rw [f23] at f32; exact f32 : n19 = hV H1 305 (n18).toNat).trans ((congrFun (fRow f12.1.2.1 305 kR_277_305) _))
  have k0 := g4
  have p0 := g3.1
  have p1 := g3.2.1
  have p2 := g3.2.2
  clear g3
  clear g4
  clear f14 f19 f24 f32
  subst e1
  subst e2
  rw [f15] at f16
  rw [f25] at f26
  first
  | (have ix0 : n10 = 6 * n3 := Eq.trans f16 (w32_iv (Iml 6 rfl (Iat f7 f6)) (by decide)); subst ix0; clear f16)
  | (have ix0 : n10 = 6 * n3 := Eq.trans f16 (w32_id (by omega) (by omega)); subst ix0; clear f16)
  | (unfold w32 at f16; have ix0 : n10 = 6 * n3 := (by omega); subst ix0)
  | skip
  first
  | (have ix1 : n15 = 6 * n3 := Eq.trans f26 (w32_iv (Iml 6 rfl (Iat f7 f6)) (by decide)); subst ix1; clear f26)
  | (have ix1 : n15 = 6 * n3 := Eq.trans f26 (w32_id (by omega) (by omega)); subst ix1; clear f26)
  | (unfold w32 at f26; have ix1 : n15 = 6 * n3 := (by omega); subst ix1)
  | skip
  first
  | (have ix2 : n17 = (6 * n3) + 1 := Eq.trans f28 (w32_iv (Iad (Iml 6 rfl (Iat f7 f6)) (IC 1)) (by decide)); subst ix2; clear f28)
  | (have ix2 : n17 = (6 * n3) + 1 := Eq.trans f28 (w32_id (by omega) (by omega)); subst ix2; clear f28)
  | (unfold w32 at f28; have ix2 : n17 = (6 * n3) + 1 := (by omega); subst ix2)
  | skip
  first
  | (have ix3 : n18 = ((6 * n3) + 1) + n0 := Eq.trans f29 (w32_iv (Iad (Iad (Iml 6 rfl (Iat f7 f6)) (IC 1)) (Iat f1 f0)) (by decide)); subst ix3; clear f29)
  | (have ix3 : n18 = ((6 * n3) + 1) + n0 := Eq.trans f29 (w32_id (by omega) (by omega)); subst ix3; clear f29)
  | (unfold w32 at f29; have ix3 : n18 = ((6 * n3) + 1) + n0 := (by omega); subst ix3)
  | skip
  first
  | (have ix4 : n21 = n0 + 1 := Eq.trans f34 (w32_iv (Iad (Iat f1 f0) (IC 1)) (by decide)); subst ix4; clear f34)
  | (have ix4 : n21 = n0 + 1 := Eq.trans f34 (w32_id (by omega) (by omega)); subst ix4; clear f34)
  | (unfold w32 at f34; have ix4 : n21 = n0 + 1 := (by omega); subst ix4)
  | skip
  try unfold w32 at f16
  try unfold w32 at f22
  try unfold w32 at f26
  try unfold w32 at f28
  try unfold w32 at f29
  try unfold w32 at f34
  try subst k0
  omega
theorem c_277_57_12 {q0 : Nat} : vOkm T0 (eP e_277 L_277 A_277 mu_277 (some q0)) 2 ([(10, [25, 7], [], 1), (17, [22, 21], [], 0), (22, [21, 15, 20], [1], 0), (90, [21], [], -1), (91, [21], [], 9999), (1, [20, 19, 7], [], 0), (1, [19, 17, 18], [], 0), (0, [18], [], 1), (3, [17, 16, 3], [], 0), (0, [16], [], 6), (20, [15, 2], [1], 31), (0, [15], [], 305), (2, [13, 5, 7], [], 0), (45, [7, 5], [], 0), (42, [7, 11], [], 0), (22, [11, 8, 10], [1], 0), (90, [11], [], -1), (91, [11], [], 9999), (3, [10, 9, 3], [], 0), (0, [9], [], 6), (20, [8, 2], [1], 31), (0, [8], [], 305), (5000, [0, 1, 2, 3, 4, 5, 6, 7], [0, 1], 57), (0, [0], [], 285), (90, [1], [], 0), (91, [1], [], 1007), (0, [2], [], 285), (90, [3], [], 0), (91, [3], [], 1007), (90, [4], [], 0), (91, [4], [], 2), (90, [5], [], 0), (91, [5], [], 239), (90, [7], [], 0), (91, [7], [], 5)], (91, [25], [], 5)) := vOk_inI fun ρ η f0 f1 f2 f3 f4 f5 f6 f7 f8 f9 f10 f11 f12 f13 f14 f15 f16 f17 f18 f19 f20 f21 f22 f23 f24 f25 f26 f27 f28 f29 f30 f31 f32 f33 f34 => q_277_23 (q0 := q0) (n0 := ρ 7) (n1 := ρ 5) (n2 := ρ 4) (n3 := ρ 3) (n4 := ρ 2) (n5 := ρ 1) (n6 := ρ 0) (n7 := ρ 6) (n8 := ρ 8) (n9 := ρ 9) (n10 := ρ 10) (n11 := ρ 11) (n12 := ρ 13) (n13 := ρ 15) (n14 := ρ 16) (n15 := ρ 17) (n16 := ρ 18) (n17 := ρ 19) (n18 := ρ 20) (n19 := ρ 21) (n20 := ρ 22) (n21 := ρ 25) (H0 := η 0) (H1 := η 1) f34 f33 f32 f31 f30 f29 f28 f27 f26 f25 f24 f23 f22 f21 f20 f19 f18 f17 f16 f15 f14 f13 f12 f11 f10 f9 f8 f7 f6 f5 f4 f3 f2 f1 f0
theorem q_277_24 {q0 : Nat} {n0 n1 n2 n3 n4 n5 n6 n7 n8 n9 n10 n11 n12 n13 n14 n15 n16 n17 n18 n19 n20 n21 n22 n23 n24 n25 : Int} {H0 H1 : gH} (f0 : n0 ≤ 5) (f1 : 0 ≤ n0) (f2 : n1 ≤ 239) (f3 : 0 ≤ n1) (f4 : n2 ≤ 2) (f5 : 0 ≤ n2) (f6 : n3 ≤ 1007) (f7 : 0 ≤ n3) (f8 : n4 = 285) (f9 : n5 ≤ 1007) (f10 : 0 ≤ n5) (f11 : n6 = 285) (f12 : (hLe T0 H0 H1 ∧ hFr s_277.2.2.2.2 H0 H1 ∧ hWt T0 H1) ∧ (Ab_277_57 n6 n5 n4 n3 n2 n1 n7 n0 H0 H1 ∧ preb_277 n6 n5 H0) ∧ some q0 = some (mub_277_57 n6 n5 n4 n3 n2 n1 n7 n0 H0 H1)) (f13 : n8 = 305) (f14 : n8 = hV H1 (n4).toNat 31) (f15 : n9 = 6) (f16 : n10 = w32 (n9 * n3)) (f17 : n11 ≤ 9999) (f18 : (-1) ≤ n11) (f19 : n11 = hV H1 (n8).toNat (n10).toNat) (f20 : n0 < n11) (f21 : n0 ≤ n1) (f22 : n12 = 351) (f23 : n12 = hV H1 (n4).toNat 91) (f24 : n13 = w32 (n1 - n0)) (f25 : n14 = hV H1 (n12).toNat (n13).toNat) (f26 : n15 = 305) (f27 : n15 = hV H1 (n4).toNat 31) (f28 : n16 = 6) (f29 : n17 = w32 (n16 * n3)) (f30 : n18 = 1) (f31 : n19 = w32 (n17 + n18)) (f32 : n20 = w32 (n19 + n0)) (f33 : n21 ≤ 9999) (f34 : (-1) ≤ n21) (f35 : n21 = hV H1 (n15).toNat (n20).toNat) (f36 : n22 = n21) (f37 : n23 = o64 (fun x y => x * y) n14 n22) (f38 : n24 = o64 (fun x y => x + y) n7 n23) (f39 : n25 = w32 (n0 + 1)) : Ab_277_57 n6 n5 n4 n3 n2 n1 n24 n25 H0 H1 ∧ ∀ q, some q0 = some q → mub_277_57 n6 n5 n4 n3 n2 n1 n24 n25 H0 H1 < q := by
  have g4 := f12.2.1.1
  unfold Ab_277_57 at g4
  have g3 := f12.2.1.2
  unfold preb_277 at g3
  have g5 := Option.some.inj f12.2.2
  unfold mub_277_57 at g5
  unfold Ab_277_57
  unfold mub_277_57
  have e1 : n11 = hV H0 305 (n10).toNat := (by rw [f13] at f19; exact f19 : n11 = hV H1 305 (n10).toNat).trans ((congrFun (fRow f12.1.2.1 305 kR_277_305) _))
  have e2 : n14 = hV H1 351 (n13).toNat := (by rw [f22] at f25; exact f25 : n14 = hV H1 351 (n13).toNat)
  have e3 : n21 = hV H0 305 (n20).toNat := (by rw [f26] at f35; exact f35 : n21 = hV H1 305 (n20).toNat).trans ((congrFun (fRow f12.1.2.1 305 kR_277_305) _))
  have k0 := g4
  have p0 := g3.1
  have p1 := g3.2.1
  have p2 := g3.2.2
  clear g3
  clear g4
  clear f14 f19 f23 f25 f27 f35
  subst e1
  subst e2
  subst e3
  rw [f15] at f16
  rw [f28] at f29
  first
  | (have ix0 : n10 = 6 * n3 := Eq.trans f16 (w32_iv (Iml 6 rfl (Iat f7 f6)) (by decide)); subst ix0; clear f16)
  | (have ix0 : n10 = 6 * n3 := Eq.trans f16 (w32_id (by omega) (by omega)); subst ix0; clear f16)
  | (unfold w32 at f16; have ix0 : n10 = 6 * n3 := (by omega); subst ix0)
  | skip
  first
  | (have ix1 : n13 = n1 - n0 := Eq.trans f24 (w32_iv (Isu (Iat f3 f2) (Iat f1 f0)) (by decide)); subst ix1; clear f24)
  | (have ix1 : n13 = n1 - n0 := Eq.trans f24 (w32_id (by omega) (by omega)); subst ix1; clear f24)
  | (unfold w32 at f24; have ix1 : n13 = n1 - n0 := (by omega); subst ix1)
  | skip
  first
  | (have ix2 : n17 = 6 * n3 := Eq.trans f29 (w32_iv (Iml 6 rfl (Iat f7 f6)) (by decide)); subst ix2; clear f29)
  | (have ix2 : n17 = 6 * n3 := Eq.trans f29 (w32_id (by omega) (by omega)); subst ix2; clear f29)
  | (unfold w32 at f29; have ix2 : n17 = 6 * n3 := (by omega); subst ix2)
  | skip
  first
  | (have ix3 : n19 = (6 * n3) + 1 := Eq.trans f31 (w32_iv (Iad (Iml 6 rfl (Iat f7 f6)) (IC 1)) (by decide)); subst ix3; clear f31)
  | (have ix3 : n19 = (6 * n3) + 1 := Eq.trans f31 (w32_id (by omega) (by omega)); subst ix3; clear f31)
  | (unfold w32 at f31; have ix3 : n19 = (6 * n3) + 1 := (by omega); subst ix3)
  | skip
  first
  | (have ix4 : n20 = ((6 * n3) + 1) + n0 := Eq.trans f32 (w32_iv (Iad (Iad (Iml 6 rfl (Iat f7 f6)) (IC 1)) (Iat f1 f0)) (by decide)); subst ix4; clear f32)
  | (have ix4 : n20 = ((6 * n3) + 1) + n0 := Eq.trans f32 (w32_id (by omega) (by omega)); subst ix4; clear f32)
  | (unfold w32 at f32; have ix4 : n20 = ((6 * n3) + 1) + n0 := (by omega); subst ix4)
  | skip
  first
  | (have ix5 : n25 = n0 + 1 := Eq.trans f39 (w32_iv (Iad (Iat f1 f0) (IC 1)) (by decide)); subst ix5; clear f39)
  | (have ix5 : n25 = n0 + 1 := Eq.trans f39 (w32_id (by omega) (by omega)); subst ix5; clear f39)
  | (unfold w32 at f39; have ix5 : n25 = n0 + 1 := (by omega); subst ix5)
  | skip
  try unfold w32 at f16
  try unfold w32 at f24
  try unfold w32 at f29
  try unfold w32 at f31
  try unfold w32 at f32
  try unfold w32 at f39
  try subst k0
  refine ⟨?_, fun q hq => ?_⟩
  · first | assumption | omega | trivial
  · have g6 := Option.some.inj hq
    subst g6
    omega
theorem c_277_57_13 {q0 : Nat} : vOkm T0 (eP e_277 L_277 A_277 mu_277 (some q0)) 2 ([(10, [25, 7], [], 1), (61, [24, 6, 23], [], 0), (63, [23, 14, 22], [], 0), (17, [22, 21], [], 0), (22, [21, 15, 20], [1], 0), (90, [21], [], -1), (91, [21], [], 9999), (1, [20, 19, 7], [], 0), (1, [19, 17, 18], [], 0), (0, [18], [], 1), (3, [17, 16, 3], [], 0), (0, [16], [], 6), (20, [15, 2], [1], 31), (0, [15], [], 305), (22, [14, 12, 13], [1], 0), (2, [13, 5, 7], [], 0), (20, [12, 2], [1], 91), (0, [12], [], 351), (45, [7, 5], [], 0), (42, [7, 11], [], 0), (22, [11, 8, 10], [1], 0), (90, [11], [], -1), (91, [11], [], 9999), (3, [10, 9, 3], [], 0), (0, [9], [], 6), (20, [8, 2], [1], 31), (0, [8], [], 305), (5000, [0, 1, 2, 3, 4, 5, 6, 7], [0, 1], 57), (0, [0], [], 285), (90, [1], [], 0), (91, [1], [], 1007), (0, [2], [], 285), (90, [3], [], 0), (91, [3], [], 1007), (90, [4], [], 0), (91, [4], [], 2), (90, [5], [], 0), (91, [5], [], 239), (90, [7], [], 0), (91, [7], [], 5)], (4000, [2, 3, 4, 5, 24, 25], [1], 57)) := vOk_inI fun ρ η f0 f1 f2 f3 f4 f5 f6 f7 f8 f9 f10 f11 f12 f13 f14 f15 f16 f17 f18 f19 f20 f21 f22 f23 f24 f25 f26 f27 f28 f29 f30 f31 f32 f33 f34 f35 f36 f37 f38 f39 => q_277_24 (q0 := q0) (n0 := ρ 7) (n1 := ρ 5) (n2 := ρ 4) (n3 := ρ 3) (n4 := ρ 2) (n5 := ρ 1) (n6 := ρ 0) (n7 := ρ 6) (n8 := ρ 8) (n9 := ρ 9) (n10 := ρ 10) (n11 := ρ 11) (n12 := ρ 12) (n13 := ρ 13) (n14 := ρ 14) (n15 := ρ 15) (n16 := ρ 16) (n17 := ρ 17) (n18 := ρ 18) (n19 := ρ 19) (n20 := ρ 20) (n21 := ρ 21) (n22 := ρ 22) (n23 := ρ 23) (n24 := ρ 24) (n25 := ρ 25) (H0 := η 0) (H1 := η 1) f39 f38 f37 f36 f35 f34 f33 f32 f31 f30 f29 f28 f27 f26 f25 f24 f23 f22 f21 f20 f19 f18 f17 f16 f15 f14 f13 f12 f11 f10 f9 f8 f7 f6 f5 f4 f3 f2 f1 f0
def p_277_57 : List vG := [([(3, [10, 9, 3], [], 0), (0, [9], [], 6), (5000, [0, 1, 2, 3, 4, 5, 6, 7], [0, 1], 57), (0, [0], [], 285), (90, [1], [], 0), (91, [1], [], 1007), (0, [2], [], 285), (90, [3], [], 0), (91, [3], [], 1007), (90, [4], [], 0), (91, [4], [], 2), (90, [5], [], 0), (91, [5], [], 239), (90, [7], [], 0), (91, [7], [], 5)], (70, [10], [], 6048)),
  ([(1, [15, 14, 5], [], 0), (3, [14, 13, 4], [], 0), (0, [13], [], 240), (43, [7, 11], [], 0), (22, [11, 8, 10], [1], 0), (90, [11], [], -1), (91, [11], [], 9999), (3, [10, 9, 3], [], 0), (0, [9], [], 6), (20, [8, 2], [1], 31), (0, [8], [], 305), (5000, [0, 1, 2, 3, 4, 5, 6, 7], [0, 1], 57), (0, [0], [], 285), (90, [1], [], 0), (91, [1], [], 1007), (0, [2], [], 285), (90, [3], [], 0), (91, [3], [], 1007), (90, [4], [], 0), (91, [4], [], 2), (90, [5], [], 0), (91, [5], [], 239), (90, [7], [], 0), (91, [7], [], 5)], (70, [15], [], 720)),
  ([(10, [18, 5], [], 1), (1, [15, 14, 5], [], 0), (3, [14, 13, 4], [], 0), (0, [13], [], 240), (43, [7, 11], [], 0), (22, [11, 8, 10], [1], 0), (90, [11], [], -1), (91, [11], [], 9999), (3, [10, 9, 3], [], 0), (0, [9], [], 6), (20, [8, 2], [1], 31), (0, [8], [], 305), (5000, [0, 1, 2, 3, 4, 5, 6, 7], [0, 1], 57), (0, [0], [], 285), (90, [1], [], 0), (91, [1], [], 1007), (0, [2], [], 285), (90, [3], [], 0), (91, [3], [], 1007), (90, [4], [], 0), (91, [4], [], 2), (90, [5], [], 0), (91, [5], [], 239), (90, [7], [], 0), (91, [7], [], 5)], (90, [18], [], 0)),
  ([(10, [18, 5], [], 1), (1, [15, 14, 5], [], 0), (3, [14, 13, 4], [], 0), (0, [13], [], 240), (43, [7, 11], [], 0), (22, [11, 8, 10], [1], 0), (90, [11], [], -1), (91, [11], [], 9999), (3, [10, 9, 3], [], 0), (0, [9], [], 6), (20, [8, 2], [1], 31), (0, [8], [], 305), (5000, [0, 1, 2, 3, 4, 5, 6, 7], [0, 1], 57), (0, [0], [], 285), (90, [1], [], 0), (91, [1], [], 1007), (0, [2], [], 285), (90, [3], [], 0), (91, [3], [], 1007), (90, [4], [], 0), (91, [4], [], 2), (90, [5], [], 0), (91, [5], [], 239), (90, [7], [], 0), (91, [7], [], 5)], (91, [18], [], 240)),
  ([(10, [18, 5], [], 1), (80, [12, 15, 17], [2, 1], 1), (64, [17, 6, 16], [], 0), (0, [16], [], 100), (1, [15, 14, 5], [], 0), (3, [14, 13, 4], [], 0), (0, [13], [], 240), (20, [12, 2], [1], 89), (0, [12], [], 349), (43, [7, 11], [], 0), (22, [11, 8, 10], [1], 0), (90, [11], [], -1), (91, [11], [], 9999), (3, [10, 9, 3], [], 0), (0, [9], [], 6), (20, [8, 2], [1], 31), (0, [8], [], 305), (5000, [0, 1, 2, 3, 4, 5, 6, 7], [0, 1], 57), (0, [0], [], 285), (90, [1], [], 0), (91, [1], [], 1007), (0, [2], [], 285), (90, [3], [], 0), (91, [3], [], 1007), (90, [4], [], 0), (91, [4], [], 2), (90, [5], [], 0), (91, [5], [], 239), (90, [7], [], 0), (91, [7], [], 5)], (4000, [2, 3, 4, 18], [2], 43)),
  ([(1, [15, 14, 5], [], 0), (3, [14, 13, 4], [], 0), (0, [13], [], 240), (44, [7, 5], [], 0), (42, [7, 11], [], 0), (22, [11, 8, 10], [1], 0), (90, [11], [], -1), (91, [11], [], 9999), (3, [10, 9, 3], [], 0), (0, [9], [], 6), (20, [8, 2], [1], 31), (0, [8], [], 305), (5000, [0, 1, 2, 3, 4, 5, 6, 7], [0, 1], 57), (0, [0], [], 285), (90, [1], [], 0), (91, [1], [], 1007), (0, [2], [], 285), (90, [3], [], 0), (91, [3], [], 1007), (90, [4], [], 0), (91, [4], [], 2), (90, [5], [], 0), (91, [5], [], 239), (90, [7], [], 0), (91, [7], [], 5)], (70, [15], [], 720)),
  ([(10, [18, 5], [], 1), (1, [15, 14, 5], [], 0), (3, [14, 13, 4], [], 0), (0, [13], [], 240), (44, [7, 5], [], 0), (42, [7, 11], [], 0), (22, [11, 8, 10], [1], 0), (90, [11], [], -1), (91, [11], [], 9999), (3, [10, 9, 3], [], 0), (0, [9], [], 6), (20, [8, 2], [1], 31), (0, [8], [], 305), (5000, [0, 1, 2, 3, 4, 5, 6, 7], [0, 1], 57), (0, [0], [], 285), (90, [1], [], 0), (91, [1], [], 1007), (0, [2], [], 285), (90, [3], [], 0), (91, [3], [], 1007), (90, [4], [], 0), (91, [4], [], 2), (90, [5], [], 0), (91, [5], [], 239), (90, [7], [], 0), (91, [7], [], 5)], (90, [18], [], 0)),
  ([(10, [18, 5], [], 1), (1, [15, 14, 5], [], 0), (3, [14, 13, 4], [], 0), (0, [13], [], 240), (44, [7, 5], [], 0), (42, [7, 11], [], 0), (22, [11, 8, 10], [1], 0), (90, [11], [], -1), (91, [11], [], 9999), (3, [10, 9, 3], [], 0), (0, [9], [], 6), (20, [8, 2], [1], 31), (0, [8], [], 305), (5000, [0, 1, 2, 3, 4, 5, 6, 7], [0, 1], 57), (0, [0], [], 285), (90, [1], [], 0), (91, [1], [], 1007), (0, [2], [], 285), (90, [3], [], 0), (91, [3], [], 1007), (90, [4], [], 0), (91, [4], [], 2), (90, [5], [], 0), (91, [5], [], 239), (90, [7], [], 0), (91, [7], [], 5)], (91, [18], [], 240)),
  ([(10, [18, 5], [], 1), (80, [12, 15, 17], [2, 1], 1), (64, [17, 6, 16], [], 0), (0, [16], [], 100), (1, [15, 14, 5], [], 0), (3, [14, 13, 4], [], 0), (0, [13], [], 240), (20, [12, 2], [1], 89), (0, [12], [], 349), (44, [7, 5], [], 0), (42, [7, 11], [], 0), (22, [11, 8, 10], [1], 0), (90, [11], [], -1), (91, [11], [], 9999), (3, [10, 9, 3], [], 0), (0, [9], [], 6), (20, [8, 2], [1], 31), (0, [8], [], 305), (5000, [0, 1, 2, 3, 4, 5, 6, 7], [0, 1], 57), (0, [0], [], 285), (90, [1], [], 0), (91, [1], [], 1007), (0, [2], [], 285), (90, [3], [], 0), (91, [3], [], 1007), (90, [4], [], 0), (91, [4], [], 2), (90, [5], [], 0), (91, [5], [], 239), (90, [7], [], 0), (91, [7], [], 5)], (4000, [2, 3, 4, 18], [2], 43)),
  ([(2, [13, 5, 7], [], 0), (45, [7, 5], [], 0), (42, [7, 11], [], 0), (22, [11, 8, 10], [1], 0), (90, [11], [], -1), (91, [11], [], 9999), (3, [10, 9, 3], [], 0), (0, [9], [], 6), (20, [8, 2], [1], 31), (0, [8], [], 305), (5000, [0, 1, 2, 3, 4, 5, 6, 7], [0, 1], 57), (0, [0], [], 285), (90, [1], [], 0), (91, [1], [], 1007), (0, [2], [], 285), (90, [3], [], 0), (91, [3], [], 1007), (90, [4], [], 0), (91, [4], [], 2), (90, [5], [], 0), (91, [5], [], 239), (90, [7], [], 0), (91, [7], [], 5)], (70, [13], [], 240)),
  ([(1, [20, 19, 7], [], 0), (1, [19, 17, 18], [], 0), (0, [18], [], 1), (3, [17, 16, 3], [], 0), (0, [16], [], 6), (20, [15, 2], [1], 31), (0, [15], [], 305), (2, [13, 5, 7], [], 0), (45, [7, 5], [], 0), (42, [7, 11], [], 0), (22, [11, 8, 10], [1], 0), (90, [11], [], -1), (91, [11], [], 9999), (3, [10, 9, 3], [], 0), (0, [9], [], 6), (20, [8, 2], [1], 31), (0, [8], [], 305), (5000, [0, 1, 2, 3, 4, 5, 6, 7], [0, 1], 57), (0, [0], [], 285), (90, [1], [], 0), (91, [1], [], 1007), (0, [2], [], 285), (90, [3], [], 0), (91, [3], [], 1007), (90, [4], [], 0), (91, [4], [], 2), (90, [5], [], 0), (91, [5], [], 239), (90, [7], [], 0), (91, [7], [], 5)], (70, [20], [], 6048)),
  ([(10, [25, 7], [], 1), (17, [22, 21], [], 0), (22, [21, 15, 20], [1], 0), (90, [21], [], -1), (91, [21], [], 9999), (1, [20, 19, 7], [], 0), (1, [19, 17, 18], [], 0), (0, [18], [], 1), (3, [17, 16, 3], [], 0), (0, [16], [], 6), (20, [15, 2], [1], 31), (0, [15], [], 305), (2, [13, 5, 7], [], 0), (45, [7, 5], [], 0), (42, [7, 11], [], 0), (22, [11, 8, 10], [1], 0), (90, [11], [], -1), (91, [11], [], 9999), (3, [10, 9, 3], [], 0), (0, [9], [], 6), (20, [8, 2], [1], 31), (0, [8], [], 305), (5000, [0, 1, 2, 3, 4, 5, 6, 7], [0, 1], 57), (0, [0], [], 285), (90, [1], [], 0), (91, [1], [], 1007), (0, [2], [], 285), (90, [3], [], 0), (91, [3], [], 1007), (90, [4], [], 0), (91, [4], [], 2), (90, [5], [], 0), (91, [5], [], 239), (90, [7], [], 0), (91, [7], [], 5)], (90, [25], [], 0)),
  ([(10, [25, 7], [], 1), (17, [22, 21], [], 0), (22, [21, 15, 20], [1], 0), (90, [21], [], -1), (91, [21], [], 9999), (1, [20, 19, 7], [], 0), (1, [19, 17, 18], [], 0), (0, [18], [], 1), (3, [17, 16, 3], [], 0), (0, [16], [], 6), (20, [15, 2], [1], 31), (0, [15], [], 305), (2, [13, 5, 7], [], 0), (45, [7, 5], [], 0), (42, [7, 11], [], 0), (22, [11, 8, 10], [1], 0), (90, [11], [], -1), (91, [11], [], 9999), (3, [10, 9, 3], [], 0), (0, [9], [], 6), (20, [8, 2], [1], 31), (0, [8], [], 305), (5000, [0, 1, 2, 3, 4, 5, 6, 7], [0, 1], 57), (0, [0], [], 285), (90, [1], [], 0), (91, [1], [], 1007), (0, [2], [], 285), (90, [3], [], 0), (91, [3], [], 1007), (90, [4], [], 0), (91, [4], [], 2), (90, [5], [], 0), (91, [5], [], 239), (90, [7], [], 0), (91, [7], [], 5)], (91, [25], [], 5)),
  ([(10, [25, 7], [], 1), (61, [24, 6, 23], [], 0), (63, [23, 14, 22], [], 0), (17, [22, 21], [], 0), (22, [21, 15, 20], [1], 0), (90, [21], [], -1), (91, [21], [], 9999), (1, [20, 19, 7], [], 0), (1, [19, 17, 18], [], 0), (0, [18], [], 1), (3, [17, 16, 3], [], 0), (0, [16], [], 6), (20, [15, 2], [1], 31), (0, [15], [], 305), (22, [14, 12, 13], [1], 0), (2, [13, 5, 7], [], 0), (20, [12, 2], [1], 91), (0, [12], [], 351), (45, [7, 5], [], 0), (42, [7, 11], [], 0), (22, [11, 8, 10], [1], 0), (90, [11], [], -1), (91, [11], [], 9999), (3, [10, 9, 3], [], 0), (0, [9], [], 6), (20, [8, 2], [1], 31), (0, [8], [], 305), (5000, [0, 1, 2, 3, 4, 5, 6, 7], [0, 1], 57), (0, [0], [], 285), (90, [1], [], 0), (91, [1], [], 1007), (0, [2], [], 285), (90, [3], [], 0), (91, [3], [], 1007), (90, [4], [], 0), (91, [4], [], 2), (90, [5], [], 0), (91, [5], [], 239), (90, [7], [], 0), (91, [7], [], 5)], (4000, [2, 3, 4, 5, 24, 25], [1], 57))]
theorem r_277_57 : vCovO true (eRc e_277 L_277 cs_277 2000 (57, [(0, (3, 12, 285, 0)), (1, (0, 0, 1007, 0)), (2, (0, 0, 2, 0)), (3, (0, 0, 239, 0)), (4, (1, 0, 0, 0)), (6, (0, 0, 5, 0))])) p_277_57 = true := by decide +kernel
theorem m_277 (d : Nat) : eC e_277 (d + 1) := eC_ok (e := e_277) (L := L_277) (cs := cs_277) (n := 2000) (d := d + 0) (A := A_277) (μ := mu_277) (tp := true) (p0 := p_277_s) rfl trivial rfl (.inl rfl) (by decide +kernel) (fun _ => post0_ok) r_277_s (allC c_277_s_0 (allC c_277_s_1 (allC c_277_s_2 allN))) (allC (.inl ⟨p_277_9, r_277_9, fun q0 => (allC c_277_9_0 (allC c_277_9_1 (allC c_277_9_2 (allC c_277_9_3 (allC c_277_9_4 (allC c_277_9_5 allN))))))⟩) (allC (.inl ⟨p_277_43, r_277_43, fun q0 => (allC c_277_43_0 (allC c_277_43_1 allN))⟩) (allC (.inl ⟨p_277_57, r_277_57, fun q0 => (allC c_277_57_0 (allC c_277_57_1 (allC c_277_57_2 (allC c_277_57_3 (allC c_277_57_4 (allC c_277_57_5 (allC c_277_57_6 (allC c_277_57_7 (allC c_277_57_8 (allC c_277_57_9 (allC c_277_57_10 (allC c_277_57_11 (allC c_277_57_12 (allC c_277_57_13 allN))))))))))))))⟩) allN)))
