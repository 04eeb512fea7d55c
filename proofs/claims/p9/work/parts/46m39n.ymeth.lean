/-! CONTRACTS of methods (printed by wip/gen/emit.py). -/
/- MixStageModel.tellCues ()V -/
noncomputable def s_226 : vM := ([(3, 12, 285, 0)], (9, 0, 0, 0), 1, 0, [(12, 11), (12, 13), (12, 14), (12, 15), (12, 16), (196, 0), (204, 0), (212, 0), (220, 0), (228, 0), (236, 0), (244, 0), (252, 0), (260, 0), (268, 0)])
def preb_226 (a0 : Int) (h : gH) : Prop := PA h ∧ PQ h ∧ hV h 285 32 = hV h 285 18 ∧ hV h 285 18 ≤ 7 ∧ (hV h 285 13 = 0 → hV h 285 15 = 0 → PB h) ∧ 7 * hV h 285 32 + hV h 294 ((hV h 285 32).toNat) ≤ hV h 285 33 ∧ hV h 285 33 ≤ 7 * hV h 285 32 + 6
def pre_226 : List Int → gH → Prop := fun xs h => match xs with
  | [a0] => preb_226 a0 h
  | _ => False
def postb_226 (a0 : Int) (h0 h : gH) : Prop := PA h ∧ (hV h 285 13 = 0 → hV h 285 15 = 0 → PW h) ∧ PQ h ∧ hV h0 285 11 ≤ hV h 285 11 ∧ hV h0 285 11 + 1 ≤ hV h 285 11 + hV h 285 13 ∧ hV h0 285 13 ≤ hV h 285 13 ∧ hV h0 285 15 ≤ 6 * hV h 285 15 ∧ hV h0 285 15 ≤ 6
def post_226 : List Int → gH → gH → Prop := fun xs h0 h => match xs with
  | [a0] => postb_226 a0 h0 h
  | _ => True
noncomputable def e_226 : vE := (226, s_226, pre_226, post_226)
noncomputable def L_226 : List vE := [e_216, e_220, e_227]
def cs_226 : List vC := [(20, [(0, (3, 12, 285, 0))])]
def Ab_226_20 (a0 x0 : Int) (h0 h : gH) : Prop := PA h ∧ (hV h 285 13 = 0 → hV h 285 15 = 0 → PW h) ∧ PQ h ∧ hV h0 285 11 ≤ hV h 285 11 ∧ hV h0 285 13 ≤ hV h 285 13 ∧ hV h0 285 15 ≤ 6 * hV h 285 15 ∧ hV h0 285 15 ≤ 6
def mub_226_20 (a0 x0 : Int) (h0 h : gH) : Nat := (1002 - 2 * hV h 285 11 - hV h 285 13).toNat
def A_226 : Int → List Int → gH → gH → Prop := fun c xs h0 h => match c.toNat with
  | 20 => PA h ∧ (hV h 285 13 = 0 → hV h 285 15 = 0 → PW h) ∧ PQ h ∧ hV h0 285 11 ≤ hV h 285 11 ∧ hV h0 285 13 ≤ hV h 285 13 ∧ hV h0 285 15 ≤ 6 * hV h 285 15 ∧ hV h0 285 15 ≤ 6
  | _ => True
def mu_226 : Int → List Int → gH → gH → Nat := fun c xs h0 h => match c.toNat with
  | 20 => (match xs with
    | [a0, x0] => mub_226_20 a0 x0 h0 h
    | _ => 0)
  | _ => 0
set_option maxHeartbeats 20000000 in
theorem q_226_0 {n0 n1 n2 n3 n4 n5 n6 : Int} {H0 H1 H2 : gH} (f0 : n0 = 285) (f1 : hWt T0 H0 ∧ preb_226 n0 H0) (f2 : n1 = 296) (f3 : n1 = hV H0 (n0).toNat 22) (f4 : n2 ≤ 62) (f5 : 0 ≤ n2) (f6 : n2 = hV H0 (n0).toNat 33) (f7 : n3 = 0) (f8 : hUpd H1 H0 n1 n2 n3) (f9 : n4 = 297) (f10 : n4 = hV H1 (n0).toNat 23) (f11 : n5 ≤ 62) (f12 : 0 ≤ n5) (f13 : n5 = hV H1 (n0).toNat 33) (f14 : n6 = 0) (f15 : hUpd H2 H1 n4 n5 n6) : Ab_226_20 n0 n0 H0 H2 ∧ ∀ q, none = some q → mub_226_20 n0 n0 H0 H2 < q := by
  unfold preb_226 at f1
  unfold Ab_226_20
  have e0 : n2 = hV H0 285 33 := (by rw [f0] at f6; exact f6 : n2 = hV H0 285 33)
  have e2 : n5 = hV H0 285 33 := (by rw [f0] at f13; exact f13 : n5 = hV H1 285 33).trans ((uPlace f8 285 33 (iS (show n1 = ((296 : Nat) : Int) from f2) rfl)))
  have e5 : hV H2 285 11 = hV H0 285 11 := ((uPlace f15 285 11 (iS (show n4 = ((297 : Nat) : Int) from f9) rfl))).trans (uPlace f8 285 11 (iS (show n1 = ((296 : Nat) : Int) from f2) rfl))
  have e8 : hV H2 285 13 = hV H0 285 13 := ((uPlace f15 285 13 (iS (show n4 = ((297 : Nat) : Int) from f9) rfl))).trans (uPlace f8 285 13 (iS (show n1 = ((296 : Nat) : Int) from f2) rfl))
  have e11 : hV H2 285 15 = hV H0 285 15 := ((uPlace f15 285 15 (iS (show n4 = ((297 : Nat) : Int) from f9) rfl))).trans (uPlace f8 285 15 (iS (show n1 = ((296 : Nat) : Int) from f2) rfl))
  have e14 : hV H2 285 18 = hV H0 285 18 := ((uPlace f15 285 18 (iS (show n4 = ((297 : Nat) : Int) from f9) rfl))).trans (uPlace f8 285 18 (iS (show n1 = ((296 : Nat) : Int) from f2) rfl))
  have e17 : hV H2 285 32 = hV H0 285 32 := ((uPlace f15 285 32 (iS (show n4 = ((297 : Nat) : Int) from f9) rfl))).trans (uPlace f8 285 32 (iS (show n1 = ((296 : Nat) : Int) from f2) rfl))
  have e19 : hV H2 285 33 = hV H0 285 33 := ((uPlace f15 285 33 (iS (show n4 = ((297 : Nat) : Int) from f9) rfl))).trans (uPlace f8 285 33 (iS (show n1 = ((296 : Nat) : Int) from f2) rfl))
  have e22 : hV H2 285 64 = hV H0 285 64 := ((uPlace f15 285 64 (iS (show n4 = ((297 : Nat) : Int) from f9) rfl))).trans (uPlace f8 285 64 (iS (show n1 = ((296 : Nat) : Int) from f2) rfl))
  have e25 : hV H2 294 = hV H0 294 := (uRowNe f15 294 (iS (show n4 = ((297 : Nat) : Int) from f9) rfl)).trans (uRowNe f8 294 (iS (show n1 = ((296 : Nat) : Int) from f2) rfl))
  have e28 : hV H2 296 = (uF (hV H0 296) n2 n3) := (uRowNe f15 296 (iS (show n4 = ((297 : Nat) : Int) from f9) rfl)).trans (uRow f8 296 f2.symm)
  have e31 : hV H2 297 = (uF (hV H0 297) n5 n6) := (uRow f15 297 f9.symm).trans (congrArg (fun z => uF z n5 n6) (uRowNe f8 297 (iS (show n1 = ((296 : Nat) : Int) from f2) rfl)))
  have e34 : hV H2 298 = hV H0 298 := (uRowNe f15 298 (iS (show n4 = ((297 : Nat) : Int) from f9) rfl)).trans (uRowNe f8 298 (iS (show n1 = ((296 : Nat) : Int) from f2) rfl))
  have e37 : hV H2 300 = hV H0 300 := (uRowNe f15 300 (iS (show n4 = ((297 : Nat) : Int) from f9) rfl)).trans (uRowNe f8 300 (iS (show n1 = ((296 : Nat) : Int) from f2) rfl))
  have e40 : hV H2 301 = hV H0 301 := (uRowNe f15 301 (iS (show n4 = ((297 : Nat) : Int) from f9) rfl)).trans (uRowNe f8 301 (iS (show n1 = ((296 : Nat) : Int) from f2) rfl))
  have e43 : hV H2 302 = hV H0 302 := (uRowNe f15 302 (iS (show n4 = ((297 : Nat) : Int) from f9) rfl)).trans (uRowNe f8 302 (iS (show n1 = ((296 : Nat) : Int) from f2) rfl))
  have e46 : hV H2 303 = hV H0 303 := (uRowNe f15 303 (iS (show n4 = ((297 : Nat) : Int) from f9) rfl)).trans (uRowNe f8 303 (iS (show n1 = ((296 : Nat) : Int) from f2) rfl))
  have e49 : hV H2 305 = hV H0 305 := (uRowNe f15 305 (iS (show n4 = ((297 : Nat) : Int) from f9) rfl)).trans (uRowNe f8 305 (iS (show n1 = ((296 : Nat) : Int) from f2) rfl))
  have e52 : hV H2 328 = hV H0 328 := (uRowNe f15 328 (iS (show n4 = ((297 : Nat) : Int) from f9) rfl)).trans (uRowNe f8 328 (iS (show n1 = ((296 : Nat) : Int) from f2) rfl))
  have e55 : hV H2 332 = hV H0 332 := (uRowNe f15 332 (iS (show n4 = ((297 : Nat) : Int) from f9) rfl)).trans (uRowNe f8 332 (iS (show n1 = ((296 : Nat) : Int) from f2) rfl))
  have e58 : hV H2 335 = hV H0 335 := (uRowNe f15 335 (iS (show n4 = ((297 : Nat) : Int) from f9) rfl)).trans (uRowNe f8 335 (iS (show n1 = ((296 : Nat) : Int) from f2) rfl))
  have e59 : (0 : Int) ≤ hV H0 285 11 ∧ hV H0 285 11 ≤ 500 := f1.1 285 11 _ _ kW_285_11
  have e60 : (0 : Int) ≤ hV H0 285 13 ∧ hV H0 285 13 ≤ 2 := f1.1 285 13 _ _ kW_285_13
  have e61 : (0 : Int) ≤ hV H0 285 15 ∧ hV H0 285 15 ≤ 6 := f1.1 285 15 _ _ kW_285_15
  have e62 : (0 : Int) ≤ hV H0 285 18 ∧ hV H0 285 18 ≤ 8 := f1.1 285 18 _ _ kW_285_18
  have e63 : (0 : Int) ≤ hV H0 285 32 ∧ hV H0 285 32 ≤ 7 := f1.1 285 32 _ _ kW_285_32
  have e64 : (0 : Int) ≤ hV H0 285 33 ∧ hV H0 285 33 ≤ 62 := f1.1 285 33 _ _ kW_285_33
  have e65 : (0 : Int) ≤ hV H0 285 64 ∧ hV H0 285 64 ≤ 20 := f1.1 285 64 _ _ kW_285_64
  try simp only [PA, PB, PW, PQ]
  try simp only [e5, e8, e11, e14, e17, e19, e22, e25, e28, e31, e34, e37, e40, e43, e46, e49, e52, e55, e58]
  have p0 := f1.2.1
  have p1 := f1.2.2.1
  have p2 := f1.2.2.2.1
  have p3 := f1.2.2.2.2.1
  have p4 := f1.2.2.2.2.2.1
  have p5 := f1.2.2.2.2.2.2.1
  have p6 := f1.2.2.2.2.2.2.2
  try simp only [PA] at p0
  try simp only [PQ] at p1
  try simp only [PB] at p4
  have wb0 := (p1 (hV H0 285 32).toNat).1
  have wp0 := (p1 (hV H0 285 33).toNat).2
  clear f3 f6 f10 f13 e5 e8 e11 e14 e17 e19 e22 e25 e28 e31 e34 e37 e40 e43 e46 e49 e52 e55 e58
  clear f1
  subst e0
  subst e2

  refine ⟨⟨?_, ?_, ?_, ?_⟩, fun q hq => ?_⟩
  · refine PA_pm ?_ (by omega)
    exact p0
  · intro z1 z2
    exact PW_new (p4 (by omega) (by omega)) (by omega) (by omega) (by omega) (by omega) (by omega) (by omega) (by omega)
  · refine PQ_up ?_ (by omega) (by omega)
    refine PQ_pm ?_ (by omega)
    exact p1
  · (try clear p0 p1 p4)
    first
    | omega
    | (refine ⟨?_, ?_, ?_, ?_⟩ <;> first | exact True.intro | omega)
  · exact nomatch hq
def g_226_s_0 : vG := ([(80, [4, 5, 6], [2, 1], 0), (0, [6], [], 0), (20, [5, 0], [1], 33), (90, [5], [], 0), (91, [5], [], 62), (20, [4, 0], [1], 23), (0, [4], [], 297), (80, [1, 2, 3], [1, 0], 0), (0, [3], [], 0), (20, [2, 0], [0], 33), (90, [2], [], 0), (91, [2], [], 62), (20, [1, 0], [0], 22), (0, [1], [], 296), (6000, [0], [0], 0), (0, [0], [], 285)], (4000, [0], [2], 20))
theorem c_226_s_0 : vOkm T0 (eP e_226 L_226 A_226 mu_226 none) 1 g_226_s_0 := vOk_inI fun ρ η f0 f1 f2 f3 f4 f5 f6 f7 f8 f9 f10 f11 f12 f13 f14 f15 => q_226_0 (n0 := ρ 0) (n1 := ρ 1) (n2 := ρ 2) (n3 := ρ 3) (n4 := ρ 4) (n5 := ρ 5) (n6 := ρ 6) (H0 := η 0) (H1 := η 1) (H2 := η 2) f15 f14 f13 f12 f11 f10 f9 f8 f7 f6 f5 f4 f3 f2 f1 f0
def p_226_s : List vG := [g_226_s_0]
theorem r_226_s : vCovO false (eR0 e_226 L_226 cs_226 2000) p_226_s = true := by decide +kernel
set_option maxHeartbeats 20000000 in
theorem kF_226_285_18 : vFree s_226.2.2.2.2 285 18 = true := by decide +kernel
theorem kF_226_285_32 : vFree s_226.2.2.2.2 285 32 = true := by decide +kernel
theorem kF_226_285_33 : vFree s_226.2.2.2.2 285 33 = true := by decide +kernel
theorem q_226_1 {q0 : Nat} {n0 n1 n2 n3 : Int} {H0 H1 H2 : gH} (f0 : n0 = 285) (f1 : n1 = 285) (f2 : (hLe T0 H0 H1 ∧ hFr s_226.2.2.2.2 H0 H1 ∧ hWt T0 H1) ∧ (Ab_226_20 n1 n0 H0 H1 ∧ preb_226 n1 H0) ∧ some q0 = some (mub_226_20 n1 n0 H0 H1)) (f3 : n2 ≤ 2) (f4 : 0 ≤ n2) (f5 : n2 = hV H1 (n0).toNat 13) (f6 : n2 ≠ 0) (f7 : n3 = 21) (f8 : (hLe T0 H1 H2 ∧ hFr s_220.2.2.2.2 H1 H2 ∧ ((0 : Int) = 0 → H2.length = H1.length) ∧ hWt T0 H2) ∧ postb_220 n0 n3 H1 H2) : postb_226 n1 H0 H2 := by
  have g4 := f2.2.1.1
  unfold Ab_226_20 at g4
  have g3 := f2.2.1.2
  unfold preb_226 at g3
  unfold postb_220 at f8
  unfold postb_226
  have e0 : n2 = hV H1 285 13 := (by rw [f0] at f5; exact f5 : n2 = hV H1 285 13)
  have e2 : hV H1 285 18 = hV H0 285 18 := (f2.1.2.1.1 285 18 kF_226_285_18)
  have e4 : hV H1 285 32 = hV H0 285 32 := (f2.1.2.1.1 285 32 kF_226_285_32)
  have e6 : hV H1 285 33 = hV H0 285 33 := (f2.1.2.1.1 285 33 kF_226_285_33)
  have e8 : hV H2 285 15 = hV H1 285 15 := (f8.1.2.1.1 285 15 kF_220_285_15)
  have e12 : PA H2 = PA H1 := PA_fr f8.1.2.1 (by decide +kernel)
  have e13 : PQ H2 = PQ H1 := PQ_fr f8.1.2.1 (by decide +kernel)
  have e14 : PW H2 = PW H1 := PW_fr f8.1.2.1 (by decide +kernel)
  have e15 : (0 : Int) ≤ hV H1 285 11 ∧ hV H1 285 11 ≤ 500 := f2.1.2.2 285 11 _ _ kW_285_11
  have e16 : (0 : Int) ≤ hV H1 285 13 ∧ hV H1 285 13 ≤ 2 := f2.1.2.2 285 13 _ _ kW_285_13
  have e17 : (0 : Int) ≤ hV H1 285 15 ∧ hV H1 285 15 ≤ 6 := f2.1.2.2 285 15 _ _ kW_285_15
  have e18 : (0 : Int) ≤ hV H0 285 18 ∧ hV H0 285 18 ≤ 8 := bTo e2 (f2.1.2.2 285 18 _ _ kW_285_18)
  have e19 : (0 : Int) ≤ hV H0 285 32 ∧ hV H0 285 32 ≤ 7 := bTo e4 (f2.1.2.2 285 32 _ _ kW_285_32)
  have e20 : (0 : Int) ≤ hV H0 285 33 ∧ hV H0 285 33 ≤ 62 := bTo e6 (f2.1.2.2 285 33 _ _ kW_285_33)
  have e21 : (0 : Int) ≤ hV H2 285 11 ∧ hV H2 285 11 ≤ 500 := f8.1.2.2.2 285 11 _ _ kW_285_11
  have e22 : (0 : Int) ≤ hV H2 285 13 ∧ hV H2 285 13 ≤ 2 := f8.1.2.2.2 285 13 _ _ kW_285_13
  try simp only [e8, e12, e13, e14]
  have y0 := g4.1
  have y1 := g4.2.1
  have y2 := g4.2.2.1
  have y3 := g4.2.2.2.1
  have y4 := g4.2.2.2.2.1
  have y5 := g4.2.2.2.2.2.1
  have y6 := g4.2.2.2.2.2.2
  have p0 := g3.1
  have p1 := g3.2.1
  have p2 := g3.2.2.1
  have p3 := g3.2.2.2.1
  have p4 := g3.2.2.2.2.1
  have p5 := g3.2.2.2.2.2.1
  have p6 := g3.2.2.2.2.2.2
  have r0_0 := f8.2.1
  have r0_1 := f8.2.2.1
  have r0_2 := f8.2.2.2.1
  have r0_3 := f8.2.2.2.2.1
  clear g3
  clear g4
  have wb0 := (y2 (hV H0 285 32).toNat).1
  have wp0 := (y2 (hV H0 285 33).toNat).2
  try simp only [e2, e4, e6] at wb0
  try simp only [e2, e4, e6] at wp0
  clear f5 e2 e4 e6 e8 e12 e13 e14
  clear f2 f8
  subst e0

  refine ⟨?_, ?_, ?_, ?_⟩
  · exact y0
  · intro z1 z2
    exact y1 (by omega) (by omega)
  · exact y2
  · (try clear y0 y1 y2 p0 p1 p4)
    first
    | omega
    | (refine ⟨?_, ?_, ?_, ?_, ?_⟩ <;> first | exact True.intro | omega)
def g_226_20_0 : vG := ([(1220, [1, 3], [1, 2], 0), (0, [3], [], 21), (31, [2], [], 0), (20, [2, 1], [1], 13), (90, [2], [], 0), (91, [2], [], 2), (5000, [0, 1], [0, 1], 20), (0, [0], [], 285), (0, [1], [], 285)], (3000, [], [2], 49))
theorem c_226_20_0 {q0 : Nat} : vOkm T0 (eP e_226 L_226 A_226 mu_226 (some q0)) 1 g_226_20_0 := vOk_inI fun ρ η f0 f1 f2 f3 f4 f5 f6 f7 f8 => q_226_1 (q0 := q0) (n0 := ρ 1) (n1 := ρ 0) (n2 := ρ 2) (n3 := ρ 3) (H0 := η 0) (H1 := η 1) (H2 := η 2) f8 f7 f6 f5 f4 f3 f2 f1 f0
set_option maxHeartbeats 20000000 in
theorem kR_226_288 : vFreeR s_226.2.2.2.2 288 = true := by decide +kernel
theorem q_226_2 {q0 : Nat} {n0 n1 n2 n3 n4 n5 : Int} {H0 H1 H2 H3 : gH} (f0 : n0 = 285) (f1 : n1 = 285) (f2 : (hLe T0 H0 H1 ∧ hFr s_226.2.2.2.2 H0 H1 ∧ hWt T0 H1) ∧ (Ab_226_20 n1 n0 H0 H1 ∧ preb_226 n1 H0) ∧ some q0 = some (mub_226_20 n1 n0 H0 H1)) (f3 : n2 ≤ 2) (f4 : 0 ≤ n2) (f5 : n2 = hV H1 (n0).toNat 13) (f6 : n2 = 0) (f7 : n3 = 21) (f8 : n4 ≤ 1) (f9 : 0 ≤ n4) (f10 : (hLe T0 H1 H2 ∧ hFr s_216.2.2.2.2 H1 H2 ∧ ((0 : Int) = 0 → H2.length = H1.length) ∧ hWt T0 H2) ∧ postb_216 n4 n0 n3 H1 H2) (f11 : n4 ≠ 0) (f12 : n5 = 21) (f13 : (hLe T0 H2 H3 ∧ hFr s_220.2.2.2.2 H2 H3 ∧ ((0 : Int) = 0 → H3.length = H2.length) ∧ hWt T0 H3) ∧ postb_220 n0 n5 H2 H3) : postb_226 n1 H0 H3 := by
  have g4 := f2.2.1.1
  unfold Ab_226_20 at g4
  have g3 := f2.2.1.2
  unfold preb_226 at g3
  unfold postb_216 at f10
  unfold postb_220 at f13
  unfold postb_226
  have e0 : n2 = hV H1 285 13 := (by rw [f0] at f5; exact f5 : n2 = hV H1 285 13)
  have e2 : hV H1 285 18 = hV H0 285 18 := (f2.1.2.1.1 285 18 kF_226_285_18)
  have e4 : hV H1 285 32 = hV H0 285 32 := (f2.1.2.1.1 285 32 kF_226_285_32)
  have e6 : hV H1 285 33 = hV H0 285 33 := (f2.1.2.1.1 285 33 kF_226_285_33)
  have e8 : hV H2 285 11 = hV H1 285 11 := (f10.1.2.1.1 285 11 kF_216_285_11)
  have e10 : hV H2 285 13 = hV H1 285 13 := (f10.1.2.1.1 285 13 kF_216_285_13)
  have e13 : hV H2 288 = hV H0 288 := (fRow f10.1.2.1 288 kR_216_288).trans (fRow f2.1.2.1 288 kR_226_288)
  have e16 : hV H3 285 15 = hV H1 285 15 := ((f13.1.2.1.1 285 15 kF_220_285_15)).trans (f10.1.2.1.1 285 15 kF_216_285_15)
  have e19 : PA H2 = PA H1 := PA_fr f10.1.2.1 (by decide +kernel)
  have e20 : PA H3 = PA H2 := PA_fr f13.1.2.1 (by decide +kernel)
  have e21 : PA H3 = PA H1 := e20.trans e19
  have e22 : PQ H2 = PQ H1 := PQ_fr f10.1.2.1 (by decide +kernel)
  have e23 : PQ H3 = PQ H2 := PQ_fr f13.1.2.1 (by decide +kernel)
  have e24 : PQ H3 = PQ H1 := e23.trans e22
  have e25 : PW H2 = PW H1 := PW_fr f10.1.2.1 (by decide +kernel)
  have e26 : PW H3 = PW H2 := PW_fr f13.1.2.1 (by decide +kernel)
  have e27 : PW H3 = PW H1 := e26.trans e25
  have e28 : (0 : Int) ≤ hV H1 285 11 ∧ hV H1 285 11 ≤ 500 := f2.1.2.2 285 11 _ _ kW_285_11
  have e29 : (0 : Int) ≤ hV H1 285 13 ∧ hV H1 285 13 ≤ 2 := f2.1.2.2 285 13 _ _ kW_285_13
  have e30 : (0 : Int) ≤ hV H1 285 15 ∧ hV H1 285 15 ≤ 6 := f2.1.2.2 285 15 _ _ kW_285_15
  have e31 : (0 : Int) ≤ hV H0 285 18 ∧ hV H0 285 18 ≤ 8 := bTo e2 (f2.1.2.2 285 18 _ _ kW_285_18)
  have e32 : (0 : Int) ≤ hV H0 285 32 ∧ hV H0 285 32 ≤ 7 := bTo e4 (f2.1.2.2 285 32 _ _ kW_285_32)
  have e33 : (0 : Int) ≤ hV H0 285 33 ∧ hV H0 285 33 ≤ 62 := bTo e6 (f2.1.2.2 285 33 _ _ kW_285_33)
  have e36 : (0 : Int) ≤ hV H3 285 11 ∧ hV H3 285 11 ≤ 500 := f13.1.2.2.2 285 11 _ _ kW_285_11
  have e37 : (0 : Int) ≤ hV H3 285 13 ∧ hV H3 285 13 ≤ 2 := f13.1.2.2.2 285 13 _ _ kW_285_13
  try simp only [e16, e21, e24, e27]
  have y0 := g4.1
  have y1 := g4.2.1
  have y2 := g4.2.2.1
  have y3 := g4.2.2.2.1
  have y4 := g4.2.2.2.2.1
  have y5 := g4.2.2.2.2.2.1
  have y6 := g4.2.2.2.2.2.2
  have p0 := g3.1
  have p1 := g3.2.1
  have p2 := g3.2.2.1
  have p3 := g3.2.2.2.1
  have p4 := g3.2.2.2.2.1
  have p5 := g3.2.2.2.2.2.1
  have p6 := g3.2.2.2.2.2.2
  have r0_0 := f10.2.1
  have r0_1 := f10.2.2.resolve_right (fun z => f11 z.1)
  have r1_0 := f13.2.1
  have r1_1 := f13.2.2.1
  have r1_2 := f13.2.2.2.1
  have r1_3 := f13.2.2.2.2.1
  try simp only [e10] at r0_0
  try simp only [e2, e4, e6, e8, e10, e13] at r0_1
  try simp only [e8] at r1_0
  try simp only [e8] at r1_1
  try simp only [e10] at r1_2
  try simp only [e8] at r1_3
  clear g3
  clear g4
  have wb0 := (y2 (hV H0 285 32).toNat).1
  have wp0 := (y2 (hV H0 285 33).toNat).2
  try simp only [e2, e4, e6] at wb0
  try simp only [e2, e4, e6] at wp0
  clear f5 e2 e4 e6 e8 e10 e13 e16 e19 e20 e21 e22 e23 e24 e25 e26 e27
  clear f2 f10 f13
  subst e0

  refine ⟨?_, ?_, ?_, ?_⟩
  · exact y0
  · intro z1 z2
    exact y1 (by omega) (by omega)
  · exact y2
  · (try clear y0 y1 y2 p0 p1 p4)
    first
    | omega
    | (refine ⟨?_, ?_, ?_, ?_, ?_⟩ <;> first | exact True.intro | omega)
def g_226_20_1 : vG := ([(1220, [1, 5], [2, 3], 0), (0, [5], [], 21), (31, [4], [], 0), (1216, [4, 1, 3], [1, 2], 0), (90, [4], [], 0), (91, [4], [], 1), (0, [3], [], 21), (30, [2], [], 0), (20, [2, 1], [1], 13), (90, [2], [], 0), (91, [2], [], 2), (5000, [0, 1], [0, 1], 20), (0, [0], [], 285), (0, [1], [], 285)], (3000, [], [3], 49))
theorem c_226_20_1 {q0 : Nat} : vOkm T0 (eP e_226 L_226 A_226 mu_226 (some q0)) 1 g_226_20_1 := vOk_inI fun ρ η f0 f1 f2 f3 f4 f5 f6 f7 f8 f9 f10 f11 f12 f13 => q_226_2 (q0 := q0) (n0 := ρ 1) (n1 := ρ 0) (n2 := ρ 2) (n3 := ρ 3) (n4 := ρ 4) (n5 := ρ 5) (H0 := η 0) (H1 := η 1) (H2 := η 2) (H3 := η 3) f13 f12 f11 f10 f9 f8 f7 f6 f5 f4 f3 f2 f1 f0
set_option maxHeartbeats 20000000 in
theorem kR_226_294 : vFreeR s_226.2.2.2.2 294 = true := by decide +kernel
theorem q_226_3 {q0 : Nat} {n0 n1 n2 n3 n4 : Int} {H0 H1 H2 : gH} (f0 : n0 = 285) (f1 : n1 = 285) (f2 : (hLe T0 H0 H1 ∧ hFr s_226.2.2.2.2 H0 H1 ∧ hWt T0 H1) ∧ (Ab_226_20 n1 n0 H0 H1 ∧ preb_226 n1 H0) ∧ some q0 = some (mub_226_20 n1 n0 H0 H1)) (f3 : n2 ≤ 2) (f4 : 0 ≤ n2) (f5 : n2 = hV H1 (n0).toNat 13) (f6 : n2 = 0) (f7 : n3 = 21) (f8 : n4 ≤ 1) (f9 : 0 ≤ n4) (f10 : (hLe T0 H1 H2 ∧ hFr s_216.2.2.2.2 H1 H2 ∧ ((0 : Int) = 0 → H2.length = H1.length) ∧ hWt T0 H2) ∧ postb_216 n4 n0 n3 H1 H2) (f11 : n4 = 0) : preb_227 n0 H2 := by
  have g4 := f2.2.1.1
  unfold Ab_226_20 at g4
  have g3 := f2.2.1.2
  unfold preb_226 at g3
  unfold postb_216 at f10
  unfold preb_227
  have e0 : n2 = hV H1 285 13 := (by rw [f0] at f5; exact f5 : n2 = hV H1 285 13)
  have e2 : hV H1 285 18 = hV H0 285 18 := (f2.1.2.1.1 285 18 kF_226_285_18)
  have e4 : hV H1 285 32 = hV H0 285 32 := (f2.1.2.1.1 285 32 kF_226_285_32)
  have e6 : hV H1 285 33 = hV H0 285 33 := (f2.1.2.1.1 285 33 kF_226_285_33)
  have e10 : hV H2 285 13 = hV H1 285 13 := (f10.1.2.1.1 285 13 kF_216_285_13)
  have e12 : hV H2 285 15 = hV H1 285 15 := (f10.1.2.1.1 285 15 kF_216_285_15)
  have e14 : hV H2 285 18 = hV H0 285 18 := ((f10.1.2.1.1 285 18 kF_216_285_18)).trans (f2.1.2.1.1 285 18 kF_226_285_18)
  have e16 : hV H2 285 32 = hV H0 285 32 := ((f10.1.2.1.1 285 32 kF_216_285_32)).trans (f2.1.2.1.1 285 32 kF_226_285_32)
  have e18 : hV H2 285 33 = hV H0 285 33 := ((f10.1.2.1.1 285 33 kF_216_285_33)).trans (f2.1.2.1.1 285 33 kF_226_285_33)
  have e24 : hV H2 294 = hV H0 294 := (fRow f10.1.2.1 294 kR_216_294).trans (fRow f2.1.2.1 294 kR_226_294)
  have e25 : PA H2 = PA H1 := PA_fr f10.1.2.1 (by decide +kernel)
  have e26 : PQ H2 = PQ H1 := PQ_fr f10.1.2.1 (by decide +kernel)
  have e27 : PW H2 = PW H1 := PW_fr f10.1.2.1 (by decide +kernel)
  have e28 : (0 : Int) ≤ hV H1 285 11 ∧ hV H1 285 11 ≤ 500 := f2.1.2.2 285 11 _ _ kW_285_11
  have e29 : (0 : Int) ≤ hV H1 285 13 ∧ hV H1 285 13 ≤ 2 := f2.1.2.2 285 13 _ _ kW_285_13
  have e30 : (0 : Int) ≤ hV H1 285 15 ∧ hV H1 285 15 ≤ 6 := f2.1.2.2 285 15 _ _ kW_285_15
  have e31 : (0 : Int) ≤ hV H0 285 18 ∧ hV H0 285 18 ≤ 8 := bTo e2 (f2.1.2.2 285 18 _ _ kW_285_18)
  have e32 : (0 : Int) ≤ hV H0 285 32 ∧ hV H0 285 32 ≤ 7 := bTo e4 (f2.1.2.2 285 32 _ _ kW_285_32)
  have e33 : (0 : Int) ≤ hV H0 285 33 ∧ hV H0 285 33 ≤ 62 := bTo e6 (f2.1.2.2 285 33 _ _ kW_285_33)
  try simp only [e10, e12, e14, e16, e18, e24, e25, e26, e27]
  have y0 := g4.1
  have y1 := g4.2.1
  have y2 := g4.2.2.1
  have y3 := g4.2.2.2.1
  have y4 := g4.2.2.2.2.1
  have y5 := g4.2.2.2.2.2.1
  have y6 := g4.2.2.2.2.2.2
  have p0 := g3.1
  have p1 := g3.2.1
  have p2 := g3.2.2.1
  have p3 := g3.2.2.2.1
  have p4 := g3.2.2.2.2.1
  have p5 := g3.2.2.2.2.2.1
  have p6 := g3.2.2.2.2.2.2
  have r0_0 := f10.2.1
  try simp only [e10] at r0_0
  clear g3
  clear g4
  have wb0 := (y2 (hV H0 285 32).toNat).1
  have wp0 := (y2 (hV H0 285 33).toNat).2
  try simp only [e2, e4, e6] at wb0
  try simp only [e2, e4, e6] at wp0
  clear f5 e2 e4 e6 e10 e12 e14 e16 e18 e24 e25 e26 e27
  clear f2 f10
  subst e0

  refine ⟨?_, ?_, ?_, ?_, ?_, ?_, ?_⟩
  · exact y0
  · (try clear y0 y1 y2 p0 p1 p4)
    first | exact True.intro | omega
  · (try clear y0 y1 y2 p0 p1 p4)
    first | exact True.intro | omega
  · (try clear y0 y1 y2 p0 p1 p4)
    first | exact True.intro | omega
  · (try clear y0 y1 y2 p0 p1 p4)
    first | exact True.intro | omega
  · intro z1 z2
    exact y1 (by omega) (by omega)
  · exact y2

def g_226_20_2 : vG := ([(30, [4], [], 0), (1216, [4, 1, 3], [1, 2], 0), (90, [4], [], 0), (91, [4], [], 1), (0, [3], [], 21), (30, [2], [], 0), (20, [2, 1], [1], 13), (90, [2], [], 0), (91, [2], [], 2), (5000, [0, 1], [0, 1], 20), (0, [0], [], 285), (0, [1], [], 285)], (2227, [1], [2], 0))
theorem c_226_20_2 {q0 : Nat} : vOkm T0 (eP e_226 L_226 A_226 mu_226 (some q0)) 1 g_226_20_2 := vOk_inI fun ρ η f0 f1 f2 f3 f4 f5 f6 f7 f8 f9 f10 f11 => q_226_3 (q0 := q0) (n0 := ρ 1) (n1 := ρ 0) (n2 := ρ 2) (n3 := ρ 3) (n4 := ρ 4) (H0 := η 0) (H1 := η 1) (H2 := η 2) f11 f10 f9 f8 f7 f6 f5 f4 f3 f2 f1 f0
set_option maxHeartbeats 20000000 in
theorem q_226_4 {q0 : Nat} {n0 n1 n2 n3 n4 : Int} {H0 H1 H2 H3 : gH} (f0 : n0 = 285) (f1 : n1 = 285) (f2 : (hLe T0 H0 H1 ∧ hFr s_226.2.2.2.2 H0 H1 ∧ hWt T0 H1) ∧ (Ab_226_20 n1 n0 H0 H1 ∧ preb_226 n1 H0) ∧ some q0 = some (mub_226_20 n1 n0 H0 H1)) (f3 : n2 ≤ 2) (f4 : 0 ≤ n2) (f5 : n2 = hV H1 (n0).toNat 13) (f6 : n2 = 0) (f7 : n3 = 21) (f8 : n4 ≤ 1) (f9 : 0 ≤ n4) (f10 : (hLe T0 H1 H2 ∧ hFr s_216.2.2.2.2 H1 H2 ∧ ((0 : Int) = 0 → H2.length = H1.length) ∧ hWt T0 H2) ∧ postb_216 n4 n0 n3 H1 H2) (f11 : n4 = 0) (f12 : (hLe T0 H2 H3 ∧ hFr s_227.2.2.2.2 H2 H3 ∧ ((0 : Int) = 0 → H3.length = H2.length) ∧ hWt T0 H3) ∧ postb_227 n0 H2 H3) : Ab_226_20 n1 n0 H0 H3 ∧ ∀ q, some q0 = some q → mub_226_20 n1 n0 H0 H3 < q := by
  have g4 := f2.2.1.1
  unfold Ab_226_20 at g4
  have g3 := f2.2.1.2
  unfold preb_226 at g3
  have g5 := Option.some.inj f2.2.2
  unfold mub_226_20 at g5
  unfold postb_216 at f10
  unfold postb_227 at f12
  unfold Ab_226_20
  unfold mub_226_20
  have e0 : n2 = hV H1 285 13 := (by rw [f0] at f5; exact f5 : n2 = hV H1 285 13)
  have e2 : hV H1 285 18 = hV H0 285 18 := (f2.1.2.1.1 285 18 kF_226_285_18)
  have e4 : hV H1 285 32 = hV H0 285 32 := (f2.1.2.1.1 285 32 kF_226_285_32)
  have e6 : hV H1 285 33 = hV H0 285 33 := (f2.1.2.1.1 285 33 kF_226_285_33)
  have e8 : hV H2 285 11 = hV H1 285 11 := (f10.1.2.1.1 285 11 kF_216_285_11)
  have e10 : hV H2 285 13 = hV H1 285 13 := (f10.1.2.1.1 285 13 kF_216_285_13)
  have e12 : hV H2 285 15 = hV H1 285 15 := (f10.1.2.1.1 285 15 kF_216_285_15)
  have e16 : (0 : Int) ≤ hV H1 285 11 ∧ hV H1 285 11 ≤ 500 := f2.1.2.2 285 11 _ _ kW_285_11
  have e17 : (0 : Int) ≤ hV H1 285 13 ∧ hV H1 285 13 ≤ 2 := f2.1.2.2 285 13 _ _ kW_285_13
  have e18 : (0 : Int) ≤ hV H1 285 15 ∧ hV H1 285 15 ≤ 6 := f2.1.2.2 285 15 _ _ kW_285_15
  have e19 : (0 : Int) ≤ hV H0 285 18 ∧ hV H0 285 18 ≤ 8 := bTo e2 (f2.1.2.2 285 18 _ _ kW_285_18)
  have e20 : (0 : Int) ≤ hV H0 285 32 ∧ hV H0 285 32 ≤ 7 := bTo e4 (f2.1.2.2 285 32 _ _ kW_285_32)
  have e21 : (0 : Int) ≤ hV H0 285 33 ∧ hV H0 285 33 ≤ 62 := bTo e6 (f2.1.2.2 285 33 _ _ kW_285_33)
  have e25 : (0 : Int) ≤ hV H3 285 11 ∧ hV H3 285 11 ≤ 500 := f12.1.2.2.2 285 11 _ _ kW_285_11
  have e26 : (0 : Int) ≤ hV H3 285 13 ∧ hV H3 285 13 ≤ 2 := f12.1.2.2.2 285 13 _ _ kW_285_13
  have e27 : (0 : Int) ≤ hV H3 285 15 ∧ hV H3 285 15 ≤ 6 := f12.1.2.2.2 285 15 _ _ kW_285_15
  try simp only [PB]
  have y0 := g4.1
  have y1 := g4.2.1
  have y2 := g4.2.2.1
  have y3 := g4.2.2.2.1
  have y4 := g4.2.2.2.2.1
  have y5 := g4.2.2.2.2.2.1
  have y6 := g4.2.2.2.2.2.2
  have p0 := g3.1
  have p1 := g3.2.1
  have p2 := g3.2.2.1
  have p3 := g3.2.2.2.1
  have p4 := g3.2.2.2.2.1
  have p5 := g3.2.2.2.2.2.1
  have p6 := g3.2.2.2.2.2.2
  have r0_0 := f10.2.1
  have r1_0 := f12.2.1
  have r1_1 := f12.2.2.1
  have r1_2 := f12.2.2.2.1
  have r1_3 := f12.2.2.2.2.1
  have r1_4 := f12.2.2.2.2.2.1
  have r1_5 := f12.2.2.2.2.2.2.1
  have r1_6 := f12.2.2.2.2.2.2.2.1
  have r1_7 := f12.2.2.2.2.2.2.2.2
  try simp only [PB] at p4
  try simp only [e10] at r0_0
  try simp only [e8] at r1_3
  try simp only [e8] at r1_4
  try simp only [e10] at r1_5
  try simp only [e12] at r1_6
  try simp only [e12] at r1_7
  clear g3
  clear g4
  have wb0 := (y2 (hV H0 285 32).toNat).1
  have wp0 := (y2 (hV H0 285 33).toNat).2
  try simp only [e2, e4, e6] at wb0
  try simp only [e2, e4, e6] at wp0
  clear f5 e2 e4 e6 e8 e10 e12
  clear f2 f10 f12
  subst e0

  refine ⟨⟨?_, ?_, ?_, ?_⟩, fun q hq => ?_⟩
  · exact r1_0
  · intro z1 z2
    exact r1_1 (by omega) (by omega)
  · exact r1_2
  · (try clear y0 y1 y2 p0 p1 p4 r1_0 r1_1 r1_2)
    first
    | omega
    | (refine ⟨?_, ?_, ?_, ?_⟩ <;> first | exact True.intro | omega)
  · (try clear y0 y1 y2 p0 p1 p4 r1_0 r1_1 r1_2)
    have g6 := Option.some.inj hq
    subst g6
    omega
def g_226_20_3 : vG := ([(1227, [1], [2, 3], 0), (30, [4], [], 0), (1216, [4, 1, 3], [1, 2], 0), (90, [4], [], 0), (91, [4], [], 1), (0, [3], [], 21), (30, [2], [], 0), (20, [2, 1], [1], 13), (90, [2], [], 0), (91, [2], [], 2), (5000, [0, 1], [0, 1], 20), (0, [0], [], 285), (0, [1], [], 285)], (4000, [1], [3], 20))
theorem c_226_20_3 {q0 : Nat} : vOkm T0 (eP e_226 L_226 A_226 mu_226 (some q0)) 1 g_226_20_3 := vOk_inI fun ρ η f0 f1 f2 f3 f4 f5 f6 f7 f8 f9 f10 f11 f12 => q_226_4 (q0 := q0) (n0 := ρ 1) (n1 := ρ 0) (n2 := ρ 2) (n3 := ρ 3) (n4 := ρ 4) (H0 := η 0) (H1 := η 1) (H2 := η 2) (H3 := η 3) f12 f11 f10 f9 f8 f7 f6 f5 f4 f3 f2 f1 f0
def p_226_20 : List vG := [g_226_20_0,
  g_226_20_1,
  g_226_20_2,
  g_226_20_3]
theorem r_226_20 : vCovO false (eRc e_226 L_226 cs_226 2000 (20, [(0, (3, 12, 285, 0))])) p_226_20 = true := by decide +kernel
theorem m_226 (d : Nat) : eC e_226 (d + 8) := eC_ok (e := e_226) (L := L_226) (cs := cs_226) (n := 2000) (d := d + 7) (A := A_226) (μ := mu_226) (tp := false) (p0 := p_226_s) rfl ⟨m_216 (d + 6), ⟨m_220 (d + 4), ⟨m_227 d, trivial⟩⟩⟩ rfl (.inl rfl) (by decide +kernel) (fun z => nomatch z) r_226_s (allC c_226_s_0 allN) (allC (.inl ⟨p_226_20, r_226_20, fun q0 => (allC c_226_20_0 (allC c_226_20_1 (allC c_226_20_2 (allC c_226_20_3 allN))))⟩) allN)
