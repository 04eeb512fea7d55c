/-! CONTRACTS of methods (printed by wip/gen/emit.py). -/
/- MixStageModel.tellTaps (I)V -/
noncomputable def s_230 : vM := ([(3, 12, 285, 0), (0, 0, 1007, 0)], (9, 0, 0, 0), 1, 0, [(12, 11), (12, 13), (12, 14), (12, 15), (12, 16), (228, 0), (268, 0)])
def preb_230 (a0 a1 : Int) (h : gH) : Prop := PA h ∧ hV h 285 32 = hV h 285 18 ∧ hV h 285 18 ≤ 7 ∧ 7 * hV h 285 32 + hV h 294 ((hV h 285 32).toNat) ≤ hV h 285 33 ∧ hV h 285 33 ≤ 7 * hV h 285 32 + 6 ∧ (hV h 285 13 = 0 → hV h 285 15 = 0 → PW h) ∧ 16 * hV h 285 33 + hV h 296 ((hV h 285 33).toNat) ≤ a1 ∧ PQ h
def pre_230 : List Int → gH → Prop := fun xs h => match xs with
  | [a0, a1] => preb_230 a0 a1 h
  | _ => False
def postb_230 (a0 a1 : Int) (h0 h : gH) : Prop := PA h ∧ (hV h 285 13 = 0 → hV h 285 15 = 0 → PW h) ∧ hV h0 285 11 ≤ hV h 285 11 ∧ hV h0 285 11 + 1 ≤ hV h 285 11 + hV h 285 13 ∧ hV h0 285 13 ≤ hV h 285 13 ∧ hV h0 285 15 ≤ 6 * hV h 285 15 ∧ hV h0 285 15 ≤ 6 ∧ 0 ≤ hV h 300 ((a1).toNat) ∧ hV h 300 ((a1).toNat) ≤ 2 + 9999 * (hV h 285 13 + hV h 285 15) ∧ hV h 300 ((a1).toNat) ≤ 9999 ∧ hV h 305 ((6 * a1).toNat) ≤ 4 + 9999 * (hV h 285 13 + hV h 285 15)
def post_230 : List Int → gH → gH → Prop := fun xs h0 h => match xs with
  | [a0, a1] => postb_230 a0 a1 h0 h
  | _ => True
noncomputable def e_230 : vE := (230, s_230, pre_230, post_230)
noncomputable def L_230 : List vE := [e_216, e_217, e_219, e_220, e_223]
def cs_230 : List vC := [(22, [(0, (3, 12, 285, 0)), (1, (0, 0, 1007, 0)), (2, (0, 0, 5, 0)), (3, (0, 0, 1, 0))])]
def Ab_230_22 (a0 a1 x0 x1 x2 x3 : Int) (h0 h : gH) : Prop := x1 = a1 ∧ PA h ∧ (hV h 285 13 = 0 → hV h 285 15 = 0 → PW h) ∧ hV h0 285 11 ≤ hV h 285 11 ∧ hV h0 285 11 + 1 ≤ hV h 285 11 + hV h 285 13 ∧ hV h0 285 13 ≤ hV h 285 13 ∧ hV h0 285 15 ≤ 6 * hV h 285 15 ∧ hV h0 285 15 ≤ 6 ∧ 0 ≤ hV h 300 ((a1).toNat) ∧ hV h 300 ((a1).toNat) ≤ 2 + 9999 * (hV h 285 13 + hV h 285 15) ∧ hV h 300 ((a1).toNat) ≤ 9999 ∧ x2 ≤ 4 + hV h 285 13
def mub_230_22 (a0 a1 x0 x1 x2 x3 : Int) (h0 h : gH) : Nat := (1002 - 2 * hV h 285 11 - hV h 285 13).toNat
def A_230 : Int → List Int → gH → gH → Prop := fun c xs h0 h => match c.toNat with
  | 22 => (match xs with
    | [a0, a1, x0, x1, x2, x3] => Ab_230_22 a0 a1 x0 x1 x2 x3 h0 h
    | _ => False)
  | _ => True
def mu_230 : Int → List Int → gH → gH → Nat := fun c xs h0 h => match c.toNat with
  | 22 => (match xs with
    | [a0, a1, x0, x1, x2, x3] => mub_230_22 a0 a1 x0 x1 x2 x3 h0 h
    | _ => 0)
  | _ => 0
set_option maxHeartbeats 20000000 in
theorem kR_220_294 : vFreeR s_220.2.2.2.2 294 = true := by decide +kernel
theorem kR_223_294 : vFreeR s_223.2.2.2.2 294 = true := by decide +kernel
theorem kR_220_296 : vFreeR s_220.2.2.2.2 296 = true := by decide +kernel
theorem kR_223_296 : vFreeR s_223.2.2.2.2 296 = true := by decide +kernel
theorem kR_220_297 : vFreeR s_220.2.2.2.2 297 = true := by decide +kernel
theorem kR_223_297 : vFreeR s_223.2.2.2.2 297 = true := by decide +kernel
theorem kR_220_298 : vFreeR s_220.2.2.2.2 298 = true := by decide +kernel
theorem kR_223_298 : vFreeR s_223.2.2.2.2 298 = true := by decide +kernel
theorem kR_220_300 : vFreeR s_220.2.2.2.2 300 = true := by decide +kernel
theorem kR_223_300 : vFreeR s_223.2.2.2.2 300 = true := by decide +kernel
theorem kR_220_301 : vFreeR s_220.2.2.2.2 301 = true := by decide +kernel
theorem kR_220_302 : vFreeR s_220.2.2.2.2 302 = true := by decide +kernel
theorem kR_220_303 : vFreeR s_220.2.2.2.2 303 = true := by decide +kernel
theorem kR_220_305 : vFreeR s_220.2.2.2.2 305 = true := by decide +kernel
theorem kR_223_305 : vFreeR s_223.2.2.2.2 305 = true := by decide +kernel
theorem kR_220_328 : vFreeR s_220.2.2.2.2 328 = true := by decide +kernel
theorem kR_223_328 : vFreeR s_223.2.2.2.2 328 = true := by decide +kernel
theorem kR_220_332 : vFreeR s_220.2.2.2.2 332 = true := by decide +kernel
theorem kR_223_332 : vFreeR s_223.2.2.2.2 332 = true := by decide +kernel
theorem kR_220_335 : vFreeR s_220.2.2.2.2 335 = true := by decide +kernel
theorem kR_223_335 : vFreeR s_223.2.2.2.2 335 = true := by decide +kernel
theorem kF_220_285_18 : vFree s_220.2.2.2.2 285 18 = true := by decide +kernel
theorem kF_223_285_18 : vFree s_223.2.2.2.2 285 18 = true := by decide +kernel
theorem kF_220_285_32 : vFree s_220.2.2.2.2 285 32 = true := by decide +kernel
theorem kF_223_285_32 : vFree s_223.2.2.2.2 285 32 = true := by decide +kernel
theorem kF_220_285_33 : vFree s_220.2.2.2.2 285 33 = true := by decide +kernel
theorem kF_223_285_33 : vFree s_223.2.2.2.2 285 33 = true := by decide +kernel
theorem kF_220_285_64 : vFree s_220.2.2.2.2 285 64 = true := by decide +kernel
theorem kF_223_285_64 : vFree s_223.2.2.2.2 285 64 = true := by decide +kernel
theorem q_230_0 {n0 n1 n2 n3 n4 n5 n6 n7 n8 : Int} {H0 H1 H2 H3 : gH} (f0 : n0 ≤ 1007) (f1 : 0 ≤ n0) (f2 : n1 = 285) (f3 : hWt T0 H0 ∧ preb_230 n1 n0 H0) (f4 : n2 = 300) (f5 : n2 = hV H0 (n1).toNat 26) (f6 : n3 = 0) (f7 : n4 = 2) (f8 : n5 ≤ 9999) (f9 : 0 ≤ n5) (f10 : (hLe T0 H0 H1 ∧ hFr s_223.2.2.2.2 H0 H1 ∧ ((0 : Int) = 0 → H1.length = H0.length) ∧ hWt T0 H1) ∧ postb_223 n5 n1 n3 n4 H0 H1) (f11 : hUpd H2 H1 n2 n0 n5) (f12 : n6 = 38) (f13 : (hLe T0 H2 H3 ∧ hFr s_220.2.2.2.2 H2 H3 ∧ ((0 : Int) = 0 → H3.length = H2.length) ∧ hWt T0 H3) ∧ postb_220 n1 n6 H2 H3) (f14 : n7 = 0) (f15 : n8 = 1) : Ab_230_22 n1 n0 n1 n0 n7 n8 H0 H3 ∧ ∀ q, none = some q → mub_230_22 n1 n0 n1 n0 n7 n8 H0 H3 < q := by
  unfold preb_230 at f3
  unfold postb_223 at f10
  unfold postb_220 at f13
  unfold Ab_230_22
  have e0 : hV H1 288 = hV H0 288 := fRow f10.1.2.1 288 kR_223_288
  have e2 : hV H2 285 11 = hV H1 285 11 := (uPlace f11 285 11 (iS (show n2 = ((300 : Nat) : Int) from f4) rfl))
  have e4 : hV H2 285 13 = hV H1 285 13 := (uPlace f11 285 13 (iS (show n2 = ((300 : Nat) : Int) from f4) rfl))
  have e7 : hV H3 285 15 = hV H1 285 15 := ((f13.1.2.1.1 285 15 kF_220_285_15)).trans (uPlace f11 285 15 (iS (show n2 = ((300 : Nat) : Int) from f4) rfl))
  have e11 : hV H3 285 18 = hV H0 285 18 := ((f13.1.2.1.1 285 18 kF_220_285_18)).trans (((uPlace f11 285 18 (iS (show n2 = ((300 : Nat) : Int) from f4) rfl))).trans (f10.1.2.1.1 285 18 kF_223_285_18))
  have e15 : hV H3 285 32 = hV H0 285 32 := ((f13.1.2.1.1 285 32 kF_220_285_32)).trans (((uPlace f11 285 32 (iS (show n2 = ((300 : Nat) : Int) from f4) rfl))).trans (f10.1.2.1.1 285 32 kF_223_285_32))
  have e19 : hV H3 285 33 = hV H0 285 33 := ((f13.1.2.1.1 285 33 kF_220_285_33)).trans (((uPlace f11 285 33 (iS (show n2 = ((300 : Nat) : Int) from f4) rfl))).trans (f10.1.2.1.1 285 33 kF_223_285_33))
  have e23 : hV H3 285 64 = hV H0 285 64 := ((f13.1.2.1.1 285 64 kF_220_285_64)).trans (((uPlace f11 285 64 (iS (show n2 = ((300 : Nat) : Int) from f4) rfl))).trans (f10.1.2.1.1 285 64 kF_223_285_64))
  have e27 : hV H3 288 = hV H0 288 := (fRow f13.1.2.1 288 kR_220_288).trans ((uRowNe f11 288 (iS (show n2 = ((300 : Nat) : Int) from f4) rfl)).trans e0)
  have e32 : hV H3 294 = hV H0 294 := (fRow f13.1.2.1 294 kR_220_294).trans ((uRowNe f11 294 (iS (show n2 = ((300 : Nat) : Int) from f4) rfl)).trans (fRow f10.1.2.1 294 kR_223_294))
  have e37 : hV H3 296 = hV H0 296 := (fRow f13.1.2.1 296 kR_220_296).trans ((uRowNe f11 296 (iS (show n2 = ((300 : Nat) : Int) from f4) rfl)).trans (fRow f10.1.2.1 296 kR_223_296))
  have e42 : hV H3 297 = hV H0 297 := (fRow f13.1.2.1 297 kR_220_297).trans ((uRowNe f11 297 (iS (show n2 = ((300 : Nat) : Int) from f4) rfl)).trans (fRow f10.1.2.1 297 kR_223_297))
  have e47 : hV H3 298 = hV H0 298 := (fRow f13.1.2.1 298 kR_220_298).trans ((uRowNe f11 298 (iS (show n2 = ((300 : Nat) : Int) from f4) rfl)).trans (fRow f10.1.2.1 298 kR_223_298))
  have e52 : hV H3 300 = (uF (hV H0 300) n0 n5) := (fRow f13.1.2.1 300 kR_220_300).trans ((uRow f11 300 f4.symm).trans (congrArg (fun z => uF z n0 n5) (fRow f10.1.2.1 300 kR_223_300)))
  have e57 : hV H3 301 = hV H0 301 := (fRow f13.1.2.1 301 kR_220_301).trans ((uRowNe f11 301 (iS (show n2 = ((300 : Nat) : Int) from f4) rfl)).trans (fRow f10.1.2.1 301 kR_223_301))
  have e62 : hV H3 302 = hV H0 302 := (fRow f13.1.2.1 302 kR_220_302).trans ((uRowNe f11 302 (iS (show n2 = ((300 : Nat) : Int) from f4) rfl)).trans (fRow f10.1.2.1 302 kR_223_302))
  have e67 : hV H3 303 = hV H0 303 := (fRow f13.1.2.1 303 kR_220_303).trans ((uRowNe f11 303 (iS (show n2 = ((300 : Nat) : Int) from f4) rfl)).trans (fRow f10.1.2.1 303 kR_223_303))
  have e72 : hV H3 305 = hV H0 305 := (fRow f13.1.2.1 305 kR_220_305).trans ((uRowNe f11 305 (iS (show n2 = ((300 : Nat) : Int) from f4) rfl)).trans (fRow f10.1.2.1 305 kR_223_305))
  have e77 : hV H3 328 = hV H0 328 := (fRow f13.1.2.1 328 kR_220_328).trans ((uRowNe f11 328 (iS (show n2 = ((300 : Nat) : Int) from f4) rfl)).trans (fRow f10.1.2.1 328 kR_223_328))
  have e82 : hV H3 332 = hV H0 332 := (fRow f13.1.2.1 332 kR_220_332).trans ((uRowNe f11 332 (iS (show n2 = ((300 : Nat) : Int) from f4) rfl)).trans (fRow f10.1.2.1 332 kR_223_332))
  have e87 : hV H3 335 = hV H0 335 := (fRow f13.1.2.1 335 kR_220_335).trans ((uRowNe f11 335 (iS (show n2 = ((300 : Nat) : Int) from f4) rfl)).trans (fRow f10.1.2.1 335 kR_223_335))
  have e88 : (0 : Int) ≤ hV H0 285 11 ∧ hV H0 285 11 ≤ 500 := f3.1 285 11 _ _ kW_285_11
  have e89 : (0 : Int) ≤ hV H0 285 13 ∧ hV H0 285 13 ≤ 2 := f3.1 285 13 _ _ kW_285_13
  have e90 : (0 : Int) ≤ hV H0 285 15 ∧ hV H0 285 15 ≤ 6 := f3.1 285 15 _ _ kW_285_15
  have e91 : (0 : Int) ≤ hV H0 285 18 ∧ hV H0 285 18 ≤ 8 := f3.1 285 18 _ _ kW_285_18
  have e92 : (0 : Int) ≤ hV H0 285 32 ∧ hV H0 285 32 ≤ 7 := f3.1 285 32 _ _ kW_285_32
  have e93 : (0 : Int) ≤ hV H0 285 33 ∧ hV H0 285 33 ≤ 62 := f3.1 285 33 _ _ kW_285_33
  have e94 : (0 : Int) ≤ hV H0 285 64 ∧ hV H0 285 64 ≤ 20 := f3.1 285 64 _ _ kW_285_64
  have e95 : (0 : Int) ≤ hV H1 285 11 ∧ hV H1 285 11 ≤ 500 := f10.1.2.2.2 285 11 _ _ kW_285_11
  have e96 : (0 : Int) ≤ hV H1 285 13 ∧ hV H1 285 13 ≤ 2 := f10.1.2.2.2 285 13 _ _ kW_285_13
  have e97 : (0 : Int) ≤ hV H1 285 15 ∧ hV H1 285 15 ≤ 6 := f10.1.2.2.2 285 15 _ _ kW_285_15
  have e98 : (0 : Int) ≤ hV H3 285 11 ∧ hV H3 285 11 ≤ 500 := f13.1.2.2.2 285 11 _ _ kW_285_11
  have e99 : (0 : Int) ≤ hV H3 285 13 ∧ hV H3 285 13 ≤ 2 := f13.1.2.2.2 285 13 _ _ kW_285_13
  try simp only [PA, PW]
  try simp only [e7, e11, e15, e19, e23, e32, e37, e42, e47, e52, e57, e62, e67, e72, e77, e82, e87]
  have p0 := f3.2.1
  have p1 := f3.2.2.1
  have p2 := f3.2.2.2.1
  have p3 := f3.2.2.2.2.1
  have p4 := f3.2.2.2.2.2.1
  have p5 := f3.2.2.2.2.2.2.1
  have p6 := f3.2.2.2.2.2.2.2.1
  have p7 := f3.2.2.2.2.2.2.2.2
  have r0_0 := f10.2.1
  have r0_1 := f10.2.2.1
  have r0_2 := f10.2.2.2.1
  have r0_3 := f10.2.2.2.2.1
  have r0_4 := f10.2.2.2.2.2.1
  have r0_5 := f10.2.2.2.2.2.2.1
  have r0_6 := f10.2.2.2.2.2.2.2.1
  have r0_7 := f10.2.2.2.2.2.2.2.2
  have r1_0 := f13.2.1
  have r1_1 := f13.2.2.1
  have r1_2 := f13.2.2.2.1
  have r1_3 := f13.2.2.2.2.1
  have r1_4 := f13.2.2.2.2.2
  try simp only [PA] at p0
  try simp only [PW] at p5
  try simp only [e0] at r0_7
  try simp only [e2] at r1_0
  try simp only [e2] at r1_1
  try simp only [e4] at r1_2
  try simp only [e2] at r1_3
  try simp only [e2, e27] at r1_4
  have wb0 := (p7 (hV H0 285 32).toNat).1
  have wp0 := (p7 (hV H0 285 33).toNat).2
  clear f5 e0 e2 e4 e7 e11 e15 e19 e23 e27 e32 e37 e42 e47 e52 e57 e62 e67 e72 e77 e82 e87
  clear f3 f10 f13

  refine ⟨⟨?_, ?_, ?_, ?_, ?_, ?_, ?_, ?_, ?_, ?_, ?_, ?_⟩, fun q hq => ?_⟩
  · first | exact True.intro | rfl | omega
  · refine PA_cw ?_ (by omega)
    exact p0
  · intro z1 z2
    refine PW_cw ?_ (by omega) (by omega) (by omega) (by omega)
    exact p5 (by omega) (by omega)
  · (try clear p0 p5 p7)
    first | exact True.intro | omega
  · (try clear p0 p5 p7)
    first | exact True.intro | omega
  · (try clear p0 p5 p7)
    first | exact True.intro | omega
  · (try clear p0 p5 p7)
    first | exact True.intro | omega
  · (try clear p0 p5 p7)
    first | exact True.intro | omega
  · (try clear p0 p5 p7)
    first | (simp only [uF_at]; omega) | omega
  · (try clear p0 p5 p7)
    first | (simp only [uF_at]; omega) | omega
  · (try clear p0 p5 p7)
    first | (simp only [uF_at]; omega) | omega
  · (try clear p0 p5 p7)
    first | exact True.intro | omega
  · exact nomatch hq
def g_230_s_0 : vG := ([(0, [8], [], 1), (0, [7], [], 0), (1220, [0, 6], [2, 3], 0), (0, [6], [], 38), (80, [2, 1, 5], [2, 1], 0), (1223, [5, 0, 3, 4], [0, 1], 0), (90, [5], [], 0), (91, [5], [], 9999), (0, [4], [], 2), (0, [3], [], 0), (20, [2, 0], [0], 26), (0, [2], [], 300), (6000, [0, 1], [0], 0), (0, [0], [], 285), (90, [1], [], 0), (91, [1], [], 1007)], (4000, [0, 1, 7, 8], [3], 22))
theorem c_230_s_0 : vOkm T0 (eP e_230 L_230 A_230 mu_230 none) 2 g_230_s_0 := vOk_inI fun ρ η f0 f1 f2 f3 f4 f5 f6 f7 f8 f9 f10 f11 f12 f13 f14 f15 => q_230_0 (n0 := ρ 1) (n1 := ρ 0) (n2 := ρ 2) (n3 := ρ 3) (n4 := ρ 4) (n5 := ρ 5) (n6 := ρ 6) (n7 := ρ 7) (n8 := ρ 8) (H0 := η 0) (H1 := η 1) (H2 := η 2) (H3 := η 3) f15 f14 f13 f12 f11 f10 f9 f8 f7 f6 f5 f4 f3 f2 f1 f0
def p_230_s : List vG := [g_230_s_0]
theorem r_230_s : vCovO false (eR0 e_230 L_230 cs_230 2000) p_230_s = true := by decide +kernel
set_option maxHeartbeats 20000000 in
theorem kF_230_285_18 : vFree s_230.2.2.2.2 285 18 = true := by decide +kernel
theorem kF_230_285_32 : vFree s_230.2.2.2.2 285 32 = true := by decide +kernel
theorem kF_230_285_33 : vFree s_230.2.2.2.2 285 33 = true := by decide +kernel
theorem q_230_1 {q0 : Nat} {n0 n1 n2 n3 n4 n5 n6 n7 : Int} {H0 H1 : gH} (f0 : n0 ≤ 1) (f1 : 0 ≤ n0) (f2 : n1 ≤ 5) (f3 : 0 ≤ n1) (f4 : n2 ≤ 1007) (f5 : 0 ≤ n2) (f6 : n3 = 285) (f7 : n4 ≤ 1007) (f8 : 0 ≤ n4) (f9 : n5 = 285) (f10 : (hLe T0 H0 H1 ∧ hFr s_230.2.2.2.2 H0 H1 ∧ hWt T0 H1) ∧ (Ab_230_22 n5 n4 n3 n2 n1 n0 H0 H1 ∧ preb_230 n5 n4 H0) ∧ some q0 = some (mub_230_22 n5 n4 n3 n2 n1 n0 H0 H1)) (f11 : n0 = 0) (f12 : n6 = 6) (f13 : n7 = w32 (n6 * n2)) : 0 ≤ n7 ∧ n7 < 6048 := by
  have g4 := f10.2.1.1
  unfold Ab_230_22 at g4
  have g3 := f10.2.1.2
  unfold preb_230 at g3
  have e1 : hV H1 285 18 = hV H0 285 18 := (f10.1.2.1.1 285 18 kF_230_285_18)
  have e3 : hV H1 285 32 = hV H0 285 32 := (f10.1.2.1.1 285 32 kF_230_285_32)
  have e5 : hV H1 285 33 = hV H0 285 33 := (f10.1.2.1.1 285 33 kF_230_285_33)
  have e6 : (0 : Int) ≤ hV H1 285 11 ∧ hV H1 285 11 ≤ 500 := f10.1.2.2 285 11 _ _ kW_285_11
  have e7 : (0 : Int) ≤ hV H1 285 13 ∧ hV H1 285 13 ≤ 2 := f10.1.2.2 285 13 _ _ kW_285_13
  have e8 : (0 : Int) ≤ hV H1 285 15 ∧ hV H1 285 15 ≤ 6 := f10.1.2.2 285 15 _ _ kW_285_15
  have e9 : (0 : Int) ≤ hV H0 285 18 ∧ hV H0 285 18 ≤ 8 := bTo e1 (f10.1.2.2 285 18 _ _ kW_285_18)
  have e10 : (0 : Int) ≤ hV H0 285 32 ∧ hV H0 285 32 ≤ 7 := bTo e3 (f10.1.2.2 285 32 _ _ kW_285_32)
  have e11 : (0 : Int) ≤ hV H0 285 33 ∧ hV H0 285 33 ≤ 62 := bTo e5 (f10.1.2.2 285 33 _ _ kW_285_33)
  have k0 := g4.1
  have y0 := g4.2.1
  have y1 := g4.2.2.1
  have y2 := g4.2.2.2.1
  have y3 := g4.2.2.2.2.1
  have y4 := g4.2.2.2.2.2.1
  have y5 := g4.2.2.2.2.2.2.1
  have y6 := g4.2.2.2.2.2.2.2.1
  have y7 := g4.2.2.2.2.2.2.2.2.1
  have y8 := g4.2.2.2.2.2.2.2.2.2.1
  have y9 := g4.2.2.2.2.2.2.2.2.2.2.1
  have y10 := g4.2.2.2.2.2.2.2.2.2.2.2
  have p0 := g3.1
  have p1 := g3.2.1
  have p2 := g3.2.2.1
  have p3 := g3.2.2.2.1
  have p4 := g3.2.2.2.2.1
  have p5 := g3.2.2.2.2.2.1
  have p6 := g3.2.2.2.2.2.2.1
  have p7 := g3.2.2.2.2.2.2.2
  clear g3
  clear g4
  have wb0 := (p7 (hV H0 285 32).toNat).1
  have wp0 := (p7 (hV H0 285 33).toNat).2
  try simp only [e1, e3, e5] at wb0
  try simp only [e1, e3, e5] at wp0
  clear e1 e3 e5
  clear f10
  rw [f12] at f13
  first
  | (have ix0 : n7 = 6 * n2 := Eq.trans f13 (w32_iv (Iml 6 rfl (Iat f5 f4)) (by decide)); subst ix0; clear f13)
  | (have ix0 : n7 = 6 * n2 := Eq.trans f13 (w32_id (by omega) (by omega)); subst ix0; clear f13)
  | (unfold w32 at f13; have ix0 : n7 = 6 * n2 := (by omega); subst ix0)
  | skip
  try unfold w32 at f13

  (try clear y0 y1 p0 p5 p7)
  omega
def g_230_22_0 : vG := ([(3, [8, 7, 3], [], 0), (0, [7], [], 6), (30, [5], [], 0), (5000, [0, 1, 2, 3, 4, 5], [0, 1], 22), (0, [0], [], 285), (90, [1], [], 0), (91, [1], [], 1007), (0, [2], [], 285), (90, [3], [], 0), (91, [3], [], 1007), (90, [4], [], 0), (91, [4], [], 5), (90, [5], [], 0), (91, [5], [], 1)], (70, [8], [], 6048))
theorem c_230_22_0 {q0 : Nat} : vOkm T0 (eP e_230 L_230 A_230 mu_230 (some q0)) 2 g_230_22_0 := vOk_inI fun ρ η f0 f1 f2 f3 f4 f5 f6 f7 f8 f9 f10 f11 f12 f13 => q_230_1 (q0 := q0) (n0 := ρ 5) (n1 := ρ 4) (n2 := ρ 3) (n3 := ρ 2) (n4 := ρ 1) (n5 := ρ 0) (n6 := ρ 7) (n7 := ρ 8) (H0 := η 0) (H1 := η 1) f13 f12 f11 f10 f9 f8 f7 f6 f5 f4 f3 f2 f1 f0
set_option maxHeartbeats 20000000 in
theorem kR_230_294 : vFreeR s_230.2.2.2.2 294 = true := by decide +kernel
theorem kR_230_296 : vFreeR s_230.2.2.2.2 296 = true := by decide +kernel
theorem kR_230_297 : vFreeR s_230.2.2.2.2 297 = true := by decide +kernel
theorem kR_230_298 : vFreeR s_230.2.2.2.2 298 = true := by decide +kernel
theorem kR_230_301 : vFreeR s_230.2.2.2.2 301 = true := by decide +kernel
theorem kR_230_302 : vFreeR s_230.2.2.2.2 302 = true := by decide +kernel
theorem kR_230_303 : vFreeR s_230.2.2.2.2 303 = true := by decide +kernel
theorem kR_230_328 : vFreeR s_230.2.2.2.2 328 = true := by decide +kernel
theorem kR_230_332 : vFreeR s_230.2.2.2.2 332 = true := by decide +kernel
theorem kR_230_335 : vFreeR s_230.2.2.2.2 335 = true := by decide +kernel
theorem kF_230_285_64 : vFree s_230.2.2.2.2 285 64 = true := by decide +kernel
theorem q_230_2 {q0 : Nat} {n0 n1 n2 n3 n4 n5 n6 n7 n8 : Int} {H0 H1 H2 : gH} (f0 : n0 ≤ 1) (f1 : 0 ≤ n0) (f2 : n1 ≤ 5) (f3 : 0 ≤ n1) (f4 : n2 ≤ 1007) (f5 : 0 ≤ n2) (f6 : n3 = 285) (f7 : n4 ≤ 1007) (f8 : 0 ≤ n4) (f9 : n5 = 285) (f10 : (hLe T0 H0 H1 ∧ hFr s_230.2.2.2.2 H0 H1 ∧ hWt T0 H1) ∧ (Ab_230_22 n5 n4 n3 n2 n1 n0 H0 H1 ∧ preb_230 n5 n4 H0) ∧ some q0 = some (mub_230_22 n5 n4 n3 n2 n1 n0 H0 H1)) (f11 : n0 = 0) (f12 : n6 = 305) (f13 : n6 = hV H1 (n3).toNat 31) (f14 : n7 = 6) (f15 : n8 = w32 (n7 * n2)) (f16 : hUpd H2 H1 n6 n8 n1) : postb_230 n5 n4 H0 H2 := by
  have g4 := f10.2.1.1
  unfold Ab_230_22 at g4
  have g3 := f10.2.1.2
  unfold preb_230 at g3
  unfold postb_230
  have e1 : hV H1 285 18 = hV H0 285 18 := (f10.1.2.1.1 285 18 kF_230_285_18)
  have e3 : hV H1 285 32 = hV H0 285 32 := (f10.1.2.1.1 285 32 kF_230_285_32)
  have e5 : hV H1 285 33 = hV H0 285 33 := (f10.1.2.1.1 285 33 kF_230_285_33)
  have e7 : hV H1 285 64 = hV H0 285 64 := (f10.1.2.1.1 285 64 kF_230_285_64)
  have e8 : hV H1 294 = hV H0 294 := fRow f10.1.2.1 294 kR_230_294
  have e9 : hV H1 296 = hV H0 296 := fRow f10.1.2.1 296 kR_230_296
  have e10 : hV H1 297 = hV H0 297 := fRow f10.1.2.1 297 kR_230_297
  have e11 : hV H1 298 = hV H0 298 := fRow f10.1.2.1 298 kR_230_298
  have e12 : hV H1 301 = hV H0 301 := fRow f10.1.2.1 301 kR_230_301
  have e13 : hV H1 302 = hV H0 302 := fRow f10.1.2.1 302 kR_230_302
  have e14 : hV H1 303 = hV H0 303 := fRow f10.1.2.1 303 kR_230_303
  have e15 : hV H1 328 = hV H0 328 := fRow f10.1.2.1 328 kR_230_328
  have e16 : hV H1 332 = hV H0 332 := fRow f10.1.2.1 332 kR_230_332
  have e17 : hV H1 335 = hV H0 335 := fRow f10.1.2.1 335 kR_230_335
  have e19 : hV H2 285 11 = hV H1 285 11 := (uPlace f16 285 11 (iS (show n6 = ((305 : Nat) : Int) from f12) rfl))
  have e21 : hV H2 285 13 = hV H1 285 13 := (uPlace f16 285 13 (iS (show n6 = ((305 : Nat) : Int) from f12) rfl))
  have e23 : hV H2 285 15 = hV H1 285 15 := (uPlace f16 285 15 (iS (show n6 = ((305 : Nat) : Int) from f12) rfl))
  have e25 : hV H2 285 18 = hV H0 285 18 := ((uPlace f16 285 18 (iS (show n6 = ((305 : Nat) : Int) from f12) rfl))).trans (f10.1.2.1.1 285 18 kF_230_285_18)
  have e27 : hV H2 285 32 = hV H0 285 32 := ((uPlace f16 285 32 (iS (show n6 = ((305 : Nat) : Int) from f12) rfl))).trans (f10.1.2.1.1 285 32 kF_230_285_32)
  have e29 : hV H2 285 33 = hV H0 285 33 := ((uPlace f16 285 33 (iS (show n6 = ((305 : Nat) : Int) from f12) rfl))).trans (f10.1.2.1.1 285 33 kF_230_285_33)
  have e31 : hV H2 285 64 = hV H0 285 64 := ((uPlace f16 285 64 (iS (show n6 = ((305 : Nat) : Int) from f12) rfl))).trans (f10.1.2.1.1 285 64 kF_230_285_64)
  have e33 : hV H2 294 = hV H0 294 := (uRowNe f16 294 (iS (show n6 = ((305 : Nat) : Int) from f12) rfl)).trans e8
  have e35 : hV H2 296 = hV H0 296 := (uRowNe f16 296 (iS (show n6 = ((305 : Nat) : Int) from f12) rfl)).trans e9
  have e37 : hV H2 297 = hV H0 297 := (uRowNe f16 297 (iS (show n6 = ((305 : Nat) : Int) from f12) rfl)).trans e10
  have e39 : hV H2 298 = hV H0 298 := (uRowNe f16 298 (iS (show n6 = ((305 : Nat) : Int) from f12) rfl)).trans e11
  have e40 : hV H2 300 = hV H1 300 := uRowNe f16 300 (iS (show n6 = ((305 : Nat) : Int) from f12) rfl)
  have e42 : hV H2 301 = hV H0 301 := (uRowNe f16 301 (iS (show n6 = ((305 : Nat) : Int) from f12) rfl)).trans e12
  have e44 : hV H2 302 = hV H0 302 := (uRowNe f16 302 (iS (show n6 = ((305 : Nat) : Int) from f12) rfl)).trans e13
  have e46 : hV H2 303 = hV H0 303 := (uRowNe f16 303 (iS (show n6 = ((305 : Nat) : Int) from f12) rfl)).trans e14
  have e47 : hV H2 305 = uF (hV H1 305) n8 n1 := uRow f16 305 f12.symm
  have e49 : hV H2 328 = hV H0 328 := (uRowNe f16 328 (iS (show n6 = ((305 : Nat) : Int) from f12) rfl)).trans e15
  have e51 : hV H2 332 = hV H0 332 := (uRowNe f16 332 (iS (show n6 = ((305 : Nat) : Int) from f12) rfl)).trans e16
  have e53 : hV H2 335 = hV H0 335 := (uRowNe f16 335 (iS (show n6 = ((305 : Nat) : Int) from f12) rfl)).trans e17
  have e54 : (0 : Int) ≤ hV H1 285 11 ∧ hV H1 285 11 ≤ 500 := f10.1.2.2 285 11 _ _ kW_285_11
  have e55 : (0 : Int) ≤ hV H1 285 13 ∧ hV H1 285 13 ≤ 2 := f10.1.2.2 285 13 _ _ kW_285_13
  have e56 : (0 : Int) ≤ hV H1 285 15 ∧ hV H1 285 15 ≤ 6 := f10.1.2.2 285 15 _ _ kW_285_15
  have e57 : (0 : Int) ≤ hV H0 285 18 ∧ hV H0 285 18 ≤ 8 := bTo e1 (f10.1.2.2 285 18 _ _ kW_285_18)
  have e58 : (0 : Int) ≤ hV H0 285 32 ∧ hV H0 285 32 ≤ 7 := bTo e3 (f10.1.2.2 285 32 _ _ kW_285_32)
  have e59 : (0 : Int) ≤ hV H0 285 33 ∧ hV H0 285 33 ≤ 62 := bTo e5 (f10.1.2.2 285 33 _ _ kW_285_33)
  have e60 : (0 : Int) ≤ hV H0 285 64 ∧ hV H0 285 64 ≤ 20 := bTo e7 (f10.1.2.2 285 64 _ _ kW_285_64)
  try simp only [PA, PW]
  try simp only [e19, e21, e23, e25, e27, e29, e31, e33, e35, e37, e39, e40, e42, e44, e46, e47, e49, e51, e53]
  have k0 := g4.1
  have y0 := g4.2.1
  have y1 := g4.2.2.1
  have y2 := g4.2.2.2.1
  have y3 := g4.2.2.2.2.1
  have y4 := g4.2.2.2.2.2.1
  have y5 := g4.2.2.2.2.2.2.1
  have y6 := g4.2.2.2.2.2.2.2.1
  have y7 := g4.2.2.2.2.2.2.2.2.1
  have y8 := g4.2.2.2.2.2.2.2.2.2.1
  have y9 := g4.2.2.2.2.2.2.2.2.2.2.1
  have y10 := g4.2.2.2.2.2.2.2.2.2.2.2
  have p0 := g3.1
  have p1 := g3.2.1
  have p2 := g3.2.2.1
  have p3 := g3.2.2.2.1
  have p4 := g3.2.2.2.2.1
  have p5 := g3.2.2.2.2.2.1
  have p6 := g3.2.2.2.2.2.2.1
  have p7 := g3.2.2.2.2.2.2.2
  try simp only [PA] at y0
  try simp only [PW] at y1
  try simp only [PA] at p0
  try simp only [PW] at p5
  try simp only [e1, e7, e8, e9, e11, e12, e13, e14, e15, e16, e17] at y0
  try simp only [e3, e5, e8, e9, e10, e11, e12, e13, e14] at y1
  clear g3
  clear g4
  have wb0 := (p7 (hV H0 285 32).toNat).1
  have wp0 := (p7 (hV H0 285 33).toNat).2
  try simp only [e1, e3, e5, e7, e8, e9, e10, e11, e12, e13, e14, e15, e16, e17] at wb0
  try simp only [e1, e3, e5, e7, e8, e9, e10, e11, e12, e13, e14, e15, e16, e17] at wp0
  clear f13 e1 e3 e5 e7 e8 e9 e10 e11 e12 e13 e14 e15 e16 e17 e19 e21 e23 e25 e27 e29 e31 e33 e35 e37 e39 e40 e42 e44 e46 e49 e51 e53
  clear f10
  rw [f14] at f15
  first
  | (have ix0 : n8 = 6 * n2 := Eq.trans f15 (w32_iv (Iml 6 rfl (Iat f5 f4)) (by decide)); subst ix0; clear f15)
  | (have ix0 : n8 = 6 * n2 := Eq.trans f15 (w32_id (by omega) (by omega)); subst ix0; clear f15)
  | (unfold w32 at f15; have ix0 : n8 = 6 * n2 := (by omega); subst ix0)
  | skip
  try unfold w32 at f15

  refine ⟨?_, ?_, ?_, ?_, ?_, ?_, ?_, ?_, ?_, ?_, ?_⟩
  · refine PA_cn ?_ (by omega)
    exact y0
  · intro z1 z2
    refine PW_cn ?_ (by omega) (by omega) (by omega) (by omega)
    exact y1 (by omega) (by omega)
  · (try clear y0 y1 p0 p5 p7)
    first | exact True.intro | omega
  · (try clear y0 y1 p0 p5 p7)
    first | exact True.intro | omega
  · (try clear y0 y1 p0 p5 p7)
    first | exact True.intro | omega
  · (try clear y0 y1 p0 p5 p7)
    first | exact True.intro | omega
  · (try clear y0 y1 p0 p5 p7)
    first | exact True.intro | omega
  · (try clear y0 y1 p0 p5 p7)
    first | exact True.intro | omega
  · (try clear y0 y1 p0 p5 p7)
    first | exact True.intro | omega
  · (try clear y0 y1 p0 p5 p7)
    first | exact True.intro | omega
  · (try clear y0 y1 p0 p5 p7)
    first | (simp only [uF_at]; omega) | omega

def g_230_22_1 : vG := ([(80, [6, 8, 4], [2, 1], 0), (3, [8, 7, 3], [], 0), (0, [7], [], 6), (20, [6, 2], [1], 31), (0, [6], [], 305), (30, [5], [], 0), (5000, [0, 1, 2, 3, 4, 5], [0, 1], 22), (0, [0], [], 285), (90, [1], [], 0), (91, [1], [], 1007), (0, [2], [], 285), (90, [3], [], 0), (91, [3], [], 1007), (90, [4], [], 0), (91, [4], [], 5), (90, [5], [], 0), (91, [5], [], 1)], (3000, [], [2], 113))
theorem c_230_22_1 {q0 : Nat} : vOkm T0 (eP e_230 L_230 A_230 mu_230 (some q0)) 2 g_230_22_1 := vOk_inI fun ρ η f0 f1 f2 f3 f4 f5 f6 f7 f8 f9 f10 f11 f12 f13 f14 f15 f16 => q_230_2 (q0 := q0) (n0 := ρ 5) (n1 := ρ 4) (n2 := ρ 3) (n3 := ρ 2) (n4 := ρ 1) (n5 := ρ 0) (n6 := ρ 6) (n7 := ρ 7) (n8 := ρ 8) (H0 := η 0) (H1 := η 1) (H2 := η 2) f16 f15 f14 f13 f12 f11 f10 f9 f8 f7 f6 f5 f4 f3 f2 f1 f0
set_option maxHeartbeats 20000000 in
theorem q_230_3 {q0 : Nat} {n0 n1 n2 n3 n4 n5 n6 n7 n8 : Int} {H0 H1 : gH} (f0 : n0 ≤ 1) (f1 : 0 ≤ n0) (f2 : n1 ≤ 5) (f3 : 0 ≤ n1) (f4 : n2 ≤ 1007) (f5 : 0 ≤ n2) (f6 : n3 = 285) (f7 : n4 ≤ 1007) (f8 : 0 ≤ n4) (f9 : n5 = 285) (f10 : (hLe T0 H0 H1 ∧ hFr s_230.2.2.2.2 H0 H1 ∧ hWt T0 H1) ∧ (Ab_230_22 n5 n4 n3 n2 n1 n0 H0 H1 ∧ preb_230 n5 n4 H0) ∧ some q0 = some (mub_230_22 n5 n4 n3 n2 n1 n0 H0 H1)) (f11 : n0 ≠ 0) (f12 : n6 ≤ 2) (f13 : 0 ≤ n6) (f14 : n6 = hV H1 (n3).toNat 13) (f15 : n6 ≠ 0) (f16 : n7 = 6) (f17 : n8 = w32 (n7 * n2)) : 0 ≤ n8 ∧ n8 < 6048 := by
  have g4 := f10.2.1.1
  unfold Ab_230_22 at g4
  have g3 := f10.2.1.2
  unfold preb_230 at g3
  have e0 : n6 = hV H1 285 13 := (by rw [f6] at f14; exact f14 : n6 = hV H1 285 13)
  have e2 : hV H1 285 18 = hV H0 285 18 := (f10.1.2.1.1 285 18 kF_230_285_18)
  have e4 : hV H1 285 32 = hV H0 285 32 := (f10.1.2.1.1 285 32 kF_230_285_32)
  have e6 : hV H1 285 33 = hV H0 285 33 := (f10.1.2.1.1 285 33 kF_230_285_33)
  have e7 : (0 : Int) ≤ hV H1 285 11 ∧ hV H1 285 11 ≤ 500 := f10.1.2.2 285 11 _ _ kW_285_11
  have e8 : (0 : Int) ≤ hV H1 285 13 ∧ hV H1 285 13 ≤ 2 := f10.1.2.2 285 13 _ _ kW_285_13
  have e9 : (0 : Int) ≤ hV H1 285 15 ∧ hV H1 285 15 ≤ 6 := f10.1.2.2 285 15 _ _ kW_285_15
  have e10 : (0 : Int) ≤ hV H0 285 18 ∧ hV H0 285 18 ≤ 8 := bTo e2 (f10.1.2.2 285 18 _ _ kW_285_18)
  have e11 : (0 : Int) ≤ hV H0 285 32 ∧ hV H0 285 32 ≤ 7 := bTo e4 (f10.1.2.2 285 32 _ _ kW_285_32)
  have e12 : (0 : Int) ≤ hV H0 285 33 ∧ hV H0 285 33 ≤ 62 := bTo e6 (f10.1.2.2 285 33 _ _ kW_285_33)
  have k0 := g4.1
  have y0 := g4.2.1
  have y1 := g4.2.2.1
  have y2 := g4.2.2.2.1
  have y3 := g4.2.2.2.2.1
  have y4 := g4.2.2.2.2.2.1
  have y5 := g4.2.2.2.2.2.2.1
  have y6 := g4.2.2.2.2.2.2.2.1
  have y7 := g4.2.2.2.2.2.2.2.2.1
  have y8 := g4.2.2.2.2.2.2.2.2.2.1
  have y9 := g4.2.2.2.2.2.2.2.2.2.2.1
  have y10 := g4.2.2.2.2.2.2.2.2.2.2.2
  have p0 := g3.1
  have p1 := g3.2.1
  have p2 := g3.2.2.1
  have p3 := g3.2.2.2.1
  have p4 := g3.2.2.2.2.1
  have p5 := g3.2.2.2.2.2.1
  have p6 := g3.2.2.2.2.2.2.1
  have p7 := g3.2.2.2.2.2.2.2
  clear g3
  clear g4
  have wb0 := (p7 (hV H0 285 32).toNat).1
  have wp0 := (p7 (hV H0 285 33).toNat).2
  try simp only [e2, e4, e6] at wb0
  try simp only [e2, e4, e6] at wp0
  clear f14 e2 e4 e6
  clear f10
  subst e0
  rw [f16] at f17
  first
  | (have ix0 : n8 = 6 * n2 := Eq.trans f17 (w32_iv (Iml 6 rfl (Iat f5 f4)) (by decide)); subst ix0; clear f17)
  | (have ix0 : n8 = 6 * n2 := Eq.trans f17 (w32_id (by omega) (by omega)); subst ix0; clear f17)
  | (unfold w32 at f17; have ix0 : n8 = 6 * n2 := (by omega); subst ix0)
  | skip
  try unfold w32 at f17

  (try clear y0 y1 p0 p5 p7)
  omega
def g_230_22_2 : vG := ([(3, [9, 8, 3], [], 0), (0, [8], [], 6), (31, [6], [], 0), (20, [6, 2], [1], 13), (90, [6], [], 0), (91, [6], [], 2), (31, [5], [], 0), (5000, [0, 1, 2, 3, 4, 5], [0, 1], 22), (0, [0], [], 285), (90, [1], [], 0), (91, [1], [], 1007), (0, [2], [], 285), (90, [3], [], 0), (91, [3], [], 1007), (90, [4], [], 0), (91, [4], [], 5), (90, [5], [], 0), (91, [5], [], 1)], (70, [9], [], 6048))
theorem c_230_22_2 {q0 : Nat} : vOkm T0 (eP e_230 L_230 A_230 mu_230 (some q0)) 2 g_230_22_2 := vOk_inI fun ρ η f0 f1 f2 f3 f4 f5 f6 f7 f8 f9 f10 f11 f12 f13 f14 f15 f16 f17 => q_230_3 (q0 := q0) (n0 := ρ 5) (n1 := ρ 4) (n2 := ρ 3) (n3 := ρ 2) (n4 := ρ 1) (n5 := ρ 0) (n6 := ρ 6) (n7 := ρ 8) (n8 := ρ 9) (H0 := η 0) (H1 := η 1) f17 f16 f15 f14 f13 f12 f11 f10 f9 f8 f7 f6 f5 f4 f3 f2 f1 f0
set_option maxHeartbeats 20000000 in
theorem q_230_4 {q0 : Nat} {n0 n1 n2 n3 n4 n5 n6 n7 n8 n9 : Int} {H0 H1 H2 : gH} (f0 : n0 ≤ 1) (f1 : 0 ≤ n0) (f2 : n1 ≤ 5) (f3 : 0 ≤ n1) (f4 : n2 ≤ 1007) (f5 : 0 ≤ n2) (f6 : n3 = 285) (f7 : n4 ≤ 1007) (f8 : 0 ≤ n4) (f9 : n5 = 285) (f10 : (hLe T0 H0 H1 ∧ hFr s_230.2.2.2.2 H0 H1 ∧ hWt T0 H1) ∧ (Ab_230_22 n5 n4 n3 n2 n1 n0 H0 H1 ∧ preb_230 n5 n4 H0) ∧ some q0 = some (mub_230_22 n5 n4 n3 n2 n1 n0 H0 H1)) (f11 : n0 ≠ 0) (f12 : n6 ≤ 2) (f13 : 0 ≤ n6) (f14 : n6 = hV H1 (n3).toNat 13) (f15 : n6 ≠ 0) (f16 : n7 = 305) (f17 : n7 = hV H1 (n3).toNat 31) (f18 : n8 = 6) (f19 : n9 = w32 (n8 * n2)) (f20 : hUpd H2 H1 n7 n9 n1) : postb_230 n5 n4 H0 H2 := by
  have g4 := f10.2.1.1
  unfold Ab_230_22 at g4
  have g3 := f10.2.1.2
  unfold preb_230 at g3
  unfold postb_230
  have e0 : n6 = hV H1 285 13 := (by rw [f6] at f14; exact f14 : n6 = hV H1 285 13)
  have e2 : hV H1 285 18 = hV H0 285 18 := (f10.1.2.1.1 285 18 kF_230_285_18)
  have e4 : hV H1 285 32 = hV H0 285 32 := (f10.1.2.1.1 285 32 kF_230_285_32)
  have e6 : hV H1 285 33 = hV H0 285 33 := (f10.1.2.1.1 285 33 kF_230_285_33)
  have e8 : hV H1 285 64 = hV H0 285 64 := (f10.1.2.1.1 285 64 kF_230_285_64)
  have e9 : hV H1 294 = hV H0 294 := fRow f10.1.2.1 294 kR_230_294
  have e10 : hV H1 296 = hV H0 296 := fRow f10.1.2.1 296 kR_230_296
  have e11 : hV H1 297 = hV H0 297 := fRow f10.1.2.1 297 kR_230_297
  have e12 : hV H1 298 = hV H0 298 := fRow f10.1.2.1 298 kR_230_298
  have e13 : hV H1 301 = hV H0 301 := fRow f10.1.2.1 301 kR_230_301
  have e14 : hV H1 302 = hV H0 302 := fRow f10.1.2.1 302 kR_230_302
  have e15 : hV H1 303 = hV H0 303 := fRow f10.1.2.1 303 kR_230_303
  have e16 : hV H1 328 = hV H0 328 := fRow f10.1.2.1 328 kR_230_328
  have e17 : hV H1 332 = hV H0 332 := fRow f10.1.2.1 332 kR_230_332
  have e18 : hV H1 335 = hV H0 335 := fRow f10.1.2.1 335 kR_230_335
  have e20 : hV H2 285 11 = hV H1 285 11 := (uPlace f20 285 11 (iS (show n7 = ((305 : Nat) : Int) from f16) rfl))
  have e22 : hV H2 285 13 = hV H1 285 13 := (uPlace f20 285 13 (iS (show n7 = ((305 : Nat) : Int) from f16) rfl))
  have e24 : hV H2 285 15 = hV H1 285 15 := (uPlace f20 285 15 (iS (show n7 = ((305 : Nat) : Int) from f16) rfl))
  have e26 : hV H2 285 18 = hV H0 285 18 := ((uPlace f20 285 18 (iS (show n7 = ((305 : Nat) : Int) from f16) rfl))).trans (f10.1.2.1.1 285 18 kF_230_285_18)
  have e28 : hV H2 285 32 = hV H0 285 32 := ((uPlace f20 285 32 (iS (show n7 = ((305 : Nat) : Int) from f16) rfl))).trans (f10.1.2.1.1 285 32 kF_230_285_32)
  have e30 : hV H2 285 33 = hV H0 285 33 := ((uPlace f20 285 33 (iS (show n7 = ((305 : Nat) : Int) from f16) rfl))).trans (f10.1.2.1.1 285 33 kF_230_285_33)
  have e32 : hV H2 285 64 = hV H0 285 64 := ((uPlace f20 285 64 (iS (show n7 = ((305 : Nat) : Int) from f16) rfl))).trans (f10.1.2.1.1 285 64 kF_230_285_64)
  have e34 : hV H2 294 = hV H0 294 := (uRowNe f20 294 (iS (show n7 = ((305 : Nat) : Int) from f16) rfl)).trans e9
  have e36 : hV H2 296 = hV H0 296 := (uRowNe f20 296 (iS (show n7 = ((305 : Nat) : Int) from f16) rfl)).trans e10
  have e38 : hV H2 297 = hV H0 297 := (uRowNe f20 297 (iS (show n7 = ((305 : Nat) : Int) from f16) rfl)).trans e11
  have e40 : hV H2 298 = hV H0 298 := (uRowNe f20 298 (iS (show n7 = ((305 : Nat) : Int) from f16) rfl)).trans e12
  have e41 : hV H2 300 = hV H1 300 := uRowNe f20 300 (iS (show n7 = ((305 : Nat) : Int) from f16) rfl)
  have e43 : hV H2 301 = hV H0 301 := (uRowNe f20 301 (iS (show n7 = ((305 : Nat) : Int) from f16) rfl)).trans e13
  have e45 : hV H2 302 = hV H0 302 := (uRowNe f20 302 (iS (show n7 = ((305 : Nat) : Int) from f16) rfl)).trans e14
  have e47 : hV H2 303 = hV H0 303 := (uRowNe f20 303 (iS (show n7 = ((305 : Nat) : Int) from f16) rfl)).trans e15
  have e48 : hV H2 305 = uF (hV H1 305) n9 n1 := uRow f20 305 f16.symm
  have e50 : hV H2 328 = hV H0 328 := (uRowNe f20 328 (iS (show n7 = ((305 : Nat) : Int) from f16) rfl)).trans e16
  have e52 : hV H2 332 = hV H0 332 := (uRowNe f20 332 (iS (show n7 = ((305 : Nat) : Int) from f16) rfl)).trans e17
  have e54 : hV H2 335 = hV H0 335 := (uRowNe f20 335 (iS (show n7 = ((305 : Nat) : Int) from f16) rfl)).trans e18
  have e55 : (0 : Int) ≤ hV H1 285 11 ∧ hV H1 285 11 ≤ 500 := f10.1.2.2 285 11 _ _ kW_285_11
  have e56 : (0 : Int) ≤ hV H1 285 13 ∧ hV H1 285 13 ≤ 2 := f10.1.2.2 285 13 _ _ kW_285_13
  have e57 : (0 : Int) ≤ hV H1 285 15 ∧ hV H1 285 15 ≤ 6 := f10.1.2.2 285 15 _ _ kW_285_15
  have e58 : (0 : Int) ≤ hV H0 285 18 ∧ hV H0 285 18 ≤ 8 := bTo e2 (f10.1.2.2 285 18 _ _ kW_285_18)
  have e59 : (0 : Int) ≤ hV H0 285 32 ∧ hV H0 285 32 ≤ 7 := bTo e4 (f10.1.2.2 285 32 _ _ kW_285_32)
  have e60 : (0 : Int) ≤ hV H0 285 33 ∧ hV H0 285 33 ≤ 62 := bTo e6 (f10.1.2.2 285 33 _ _ kW_285_33)
  have e61 : (0 : Int) ≤ hV H0 285 64 ∧ hV H0 285 64 ≤ 20 := bTo e8 (f10.1.2.2 285 64 _ _ kW_285_64)
  try simp only [PA, PW]
  try simp only [e20, e22, e24, e26, e28, e30, e32, e34, e36, e38, e40, e41, e43, e45, e47, e48, e50, e52, e54]
  have k0 := g4.1
  have y0 := g4.2.1
  have y1 := g4.2.2.1
  have y2 := g4.2.2.2.1
  have y3 := g4.2.2.2.2.1
  have y4 := g4.2.2.2.2.2.1
  have y5 := g4.2.2.2.2.2.2.1
  have y6 := g4.2.2.2.2.2.2.2.1
  have y7 := g4.2.2.2.2.2.2.2.2.1
  have y8 := g4.2.2.2.2.2.2.2.2.2.1
  have y9 := g4.2.2.2.2.2.2.2.2.2.2.1
  have y10 := g4.2.2.2.2.2.2.2.2.2.2.2
  have p0 := g3.1
  have p1 := g3.2.1
  have p2 := g3.2.2.1
  have p3 := g3.2.2.2.1
  have p4 := g3.2.2.2.2.1
  have p5 := g3.2.2.2.2.2.1
  have p6 := g3.2.2.2.2.2.2.1
  have p7 := g3.2.2.2.2.2.2.2
  try simp only [PA] at y0
  try simp only [PW] at y1
  try simp only [PA] at p0
  try simp only [PW] at p5
  try simp only [e2, e8, e9, e10, e12, e13, e14, e15, e16, e17, e18] at y0
  try simp only [e4, e6, e9, e10, e11, e12, e13, e14, e15] at y1
  clear g3
  clear g4
  have wb0 := (p7 (hV H0 285 32).toNat).1
  have wp0 := (p7 (hV H0 285 33).toNat).2
  try simp only [e2, e4, e6, e8, e9, e10, e11, e12, e13, e14, e15, e16, e17, e18] at wb0
  try simp only [e2, e4, e6, e8, e9, e10, e11, e12, e13, e14, e15, e16, e17, e18] at wp0
  clear f14 f17 e2 e4 e6 e8 e9 e10 e11 e12 e13 e14 e15 e16 e17 e18 e20 e22 e24 e26 e28 e30 e32 e34 e36 e38 e40 e41 e43 e45 e47 e50 e52 e54
  clear f10
  subst e0
  rw [f18] at f19
  first
  | (have ix0 : n9 = 6 * n2 := Eq.trans f19 (w32_iv (Iml 6 rfl (Iat f5 f4)) (by decide)); subst ix0; clear f19)
  | (have ix0 : n9 = 6 * n2 := Eq.trans f19 (w32_id (by omega) (by omega)); subst ix0; clear f19)
  | (unfold w32 at f19; have ix0 : n9 = 6 * n2 := (by omega); subst ix0)
  | skip
  try unfold w32 at f19

  refine ⟨?_, ?_, ?_, ?_, ?_, ?_, ?_, ?_, ?_, ?_, ?_⟩
  · refine PA_cn ?_ (by omega)
    exact y0
  · intro z1 z2
    refine PW_cn ?_ (by omega) (by omega) (by omega) (by omega)
    exact y1 (by omega) (by omega)
  · (try clear y0 y1 p0 p5 p7)
    first | exact True.intro | omega
  · (try clear y0 y1 p0 p5 p7)
    first | exact True.intro | omega
  · (try clear y0 y1 p0 p5 p7)
    first | exact True.intro | omega
  · (try clear y0 y1 p0 p5 p7)
    first | exact True.intro | omega
  · (try clear y0 y1 p0 p5 p7)
    first | exact True.intro | omega
  · (try clear y0 y1 p0 p5 p7)
    first | exact True.intro | omega
  · (try clear y0 y1 p0 p5 p7)
    first | exact True.intro | omega
  · (try clear y0 y1 p0 p5 p7)
    first | exact True.intro | omega
  · (try clear y0 y1 p0 p5 p7)
    first | (simp only [uF_at]; omega) | omega

def g_230_22_3 : vG := ([(80, [7, 9, 4], [2, 1], 0), (3, [9, 8, 3], [], 0), (0, [8], [], 6), (20, [7, 2], [1], 31), (0, [7], [], 305), (31, [6], [], 0), (20, [6, 2], [1], 13), (90, [6], [], 0), (91, [6], [], 2), (31, [5], [], 0), (5000, [0, 1, 2, 3, 4, 5], [0, 1], 22), (0, [0], [], 285), (90, [1], [], 0), (91, [1], [], 1007), (0, [2], [], 285), (90, [3], [], 0), (91, [3], [], 1007), (90, [4], [], 0), (91, [4], [], 5), (90, [5], [], 0), (91, [5], [], 1)], (3000, [], [2], 113))
theorem c_230_22_3 {q0 : Nat} : vOkm T0 (eP e_230 L_230 A_230 mu_230 (some q0)) 2 g_230_22_3 := vOk_inI fun ρ η f0 f1 f2 f3 f4 f5 f6 f7 f8 f9 f10 f11 f12 f13 f14 f15 f16 f17 f18 f19 f20 => q_230_4 (q0 := q0) (n0 := ρ 5) (n1 := ρ 4) (n2 := ρ 3) (n3 := ρ 2) (n4 := ρ 1) (n5 := ρ 0) (n6 := ρ 6) (n7 := ρ 7) (n8 := ρ 8) (n9 := ρ 9) (H0 := η 0) (H1 := η 1) (H2 := η 2) f20 f19 f18 f17 f16 f15 f14 f13 f12 f11 f10 f9 f8 f7 f6 f5 f4 f3 f2 f1 f0
set_option maxHeartbeats 20000000 in
theorem kR_230_288 : vFreeR s_230.2.2.2.2 288 = true := by decide +kernel
theorem q_230_5 {q0 : Nat} {n0 n1 n2 n3 n4 n5 n6 n7 n8 n9 n10 n11 n12 n13 : Int} {H0 H1 H2 H3 : gH} (f0 : n0 ≤ 1) (f1 : 0 ≤ n0) (f2 : n1 ≤ 5) (f3 : 0 ≤ n1) (f4 : n2 ≤ 1007) (f5 : 0 ≤ n2) (f6 : n3 = 285) (f7 : n4 ≤ 1007) (f8 : 0 ≤ n4) (f9 : n5 = 285) (f10 : (hLe T0 H0 H1 ∧ hFr s_230.2.2.2.2 H0 H1 ∧ hWt T0 H1) ∧ (Ab_230_22 n5 n4 n3 n2 n1 n0 H0 H1 ∧ preb_230 n5 n4 H0) ∧ some q0 = some (mub_230_22 n5 n4 n3 n2 n1 n0 H0 H1)) (f11 : n0 ≠ 0) (f12 : n6 ≤ 2) (f13 : 0 ≤ n6) (f14 : n6 = hV H1 (n3).toNat 13) (f15 : n6 = 0) (f16 : n7 = 2) (f17 : n8 ≤ 1) (f18 : 0 ≤ n8) (f19 : (hLe T0 H1 H2 ∧ hFr s_216.2.2.2.2 H1 H2 ∧ ((0 : Int) = 0 → H2.length = H1.length) ∧ hWt T0 H2) ∧ postb_216 n8 n3 n7 H1 H2) (f20 : n8 = 0) (f21 : n9 = 0) (f22 : n10 = 400) (f23 : n11 ≤ 9999) (f24 : 0 ≤ n11) (f25 : (hLe T0 H2 H3 ∧ hFr s_223.2.2.2.2 H2 H3 ∧ ((0 : Int) = 0 → H3.length = H2.length) ∧ hWt T0 H3) ∧ postb_223 n11 n3 n9 n10 H2 H3) (f26 : n12 ≤ 2) (f27 : 0 ≤ n12) (f28 : n12 = hV H3 (n3).toNat 13) (f29 : n12 ≠ 0) (f30 : n13 = w32 (n1 + 1)) : 0 ≤ n13 := by
  have g4 := f10.2.1.1
  unfold Ab_230_22 at g4
  have g3 := f10.2.1.2
  unfold preb_230 at g3
  unfold postb_216 at f19
  unfold postb_223 at f25
  have e0 : n6 = hV H1 285 13 := (by rw [f6] at f14; exact f14 : n6 = hV H1 285 13)
  have e1 : n12 = hV H3 285 13 := (by rw [f6] at f28; exact f28 : n12 = hV H3 285 13)
  have e3 : hV H1 285 18 = hV H0 285 18 := (f10.1.2.1.1 285 18 kF_230_285_18)
  have e5 : hV H1 285 32 = hV H0 285 32 := (f10.1.2.1.1 285 32 kF_230_285_32)
  have e7 : hV H1 285 33 = hV H0 285 33 := (f10.1.2.1.1 285 33 kF_230_285_33)
  have e9 : hV H2 285 11 = hV H1 285 11 := (f19.1.2.1.1 285 11 kF_216_285_11)
  have e11 : hV H2 285 13 = hV H1 285 13 := (f19.1.2.1.1 285 13 kF_216_285_13)
  have e13 : hV H2 285 15 = hV H1 285 15 := (f19.1.2.1.1 285 15 kF_216_285_15)
  have e16 : hV H2 288 = hV H0 288 := (fRow f19.1.2.1 288 kR_216_288).trans (fRow f10.1.2.1 288 kR_230_288)
  have e18 : hV H3 288 = hV H0 288 := (fRow f25.1.2.1 288 kR_223_288).trans e16
  have e19 : (0 : Int) ≤ hV H1 285 11 ∧ hV H1 285 11 ≤ 500 := f10.1.2.2 285 11 _ _ kW_285_11
  have e20 : (0 : Int) ≤ hV H1 285 13 ∧ hV H1 285 13 ≤ 2 := f10.1.2.2 285 13 _ _ kW_285_13
  have e21 : (0 : Int) ≤ hV H1 285 15 ∧ hV H1 285 15 ≤ 6 := f10.1.2.2 285 15 _ _ kW_285_15
  have e22 : (0 : Int) ≤ hV H0 285 18 ∧ hV H0 285 18 ≤ 8 := bTo e3 (f10.1.2.2 285 18 _ _ kW_285_18)
  have e23 : (0 : Int) ≤ hV H0 285 32 ∧ hV H0 285 32 ≤ 7 := bTo e5 (f10.1.2.2 285 32 _ _ kW_285_32)
  have e24 : (0 : Int) ≤ hV H0 285 33 ∧ hV H0 285 33 ≤ 62 := bTo e7 (f10.1.2.2 285 33 _ _ kW_285_33)
  have e28 : (0 : Int) ≤ hV H3 285 11 ∧ hV H3 285 11 ≤ 500 := f25.1.2.2.2 285 11 _ _ kW_285_11
  have e29 : (0 : Int) ≤ hV H3 285 13 ∧ hV H3 285 13 ≤ 2 := f25.1.2.2.2 285 13 _ _ kW_285_13
  have e30 : (0 : Int) ≤ hV H3 285 15 ∧ hV H3 285 15 ≤ 6 := f25.1.2.2.2 285 15 _ _ kW_285_15
  have k0 := g4.1
  have y0 := g4.2.1
  have y1 := g4.2.2.1
  have y2 := g4.2.2.2.1
  have y3 := g4.2.2.2.2.1
  have y4 := g4.2.2.2.2.2.1
  have y5 := g4.2.2.2.2.2.2.1
  have y6 := g4.2.2.2.2.2.2.2.1
  have y7 := g4.2.2.2.2.2.2.2.2.1
  have y8 := g4.2.2.2.2.2.2.2.2.2.1
  have y9 := g4.2.2.2.2.2.2.2.2.2.2.1
  have y10 := g4.2.2.2.2.2.2.2.2.2.2.2
  have p0 := g3.1
  have p1 := g3.2.1
  have p2 := g3.2.2.1
  have p3 := g3.2.2.2.1
  have p4 := g3.2.2.2.2.1
  have p5 := g3.2.2.2.2.2.1
  have p6 := g3.2.2.2.2.2.2.1
  have p7 := g3.2.2.2.2.2.2.2
  have r0_0 := f19.2.1
  have r0_1 := f19.2.2
  have r1_0 := f25.2.1
  have r1_1 := f25.2.2.1
  have r1_2 := f25.2.2.2.1
  have r1_3 := f25.2.2.2.2.1
  have r1_4 := f25.2.2.2.2.2.1
  have r1_5 := f25.2.2.2.2.2.2.1
  have r1_6 := f25.2.2.2.2.2.2.2.1
  have r1_7 := f25.2.2.2.2.2.2.2.2
  try simp only [e11] at r0_0
  try simp only [e9, e11, e16] at r0_1
  try simp only [e9] at r1_0
  try simp only [e9] at r1_1
  try simp only [e11] at r1_2
  try simp only [e9] at r1_3
  try simp only [e13] at r1_4
  try simp only [e9, e18] at r1_7
  clear g3
  clear g4
  have wb0 := (p7 (hV H0 285 32).toNat).1
  have wp0 := (p7 (hV H0 285 33).toNat).2
  try simp only [e3, e5, e7] at wb0
  try simp only [e3, e5, e7] at wp0
  clear f14 f28 e3 e5 e7 e9 e11 e13 e16 e18
  clear f10 f19 f25
  subst e0
  subst e1
  first
  | (have ix0 : n13 = n1 + 1 := Eq.trans f30 (w32_iv (Iad (Iat f3 f2) (IC 1)) (by decide)); subst ix0; clear f30)
  | (have ix0 : n13 = n1 + 1 := Eq.trans f30 (w32_id (by omega) (by omega)); subst ix0; clear f30)
  | (unfold w32 at f30; have ix0 : n13 = n1 + 1 := (by omega); subst ix0)
  | skip
  try unfold w32 at f30

  (try clear y0 y1 p0 p5 p7)
  omega
def g_230_22_4 : vG := ([(10, [13, 4], [], 1), (31, [12], [], 0), (20, [12, 2], [3], 13), (90, [12], [], 0), (91, [12], [], 2), (1223, [11, 2, 9, 10], [2, 3], 0), (90, [11], [], 0), (91, [11], [], 9999), (0, [10], [], 400), (0, [9], [], 0), (30, [8], [], 0), (1216, [8, 2, 7], [1, 2], 0), (90, [8], [], 0), (91, [8], [], 1), (0, [7], [], 2), (30, [6], [], 0), (20, [6, 2], [1], 13), (90, [6], [], 0), (91, [6], [], 2), (31, [5], [], 0), (5000, [0, 1, 2, 3, 4, 5], [0, 1], 22), (0, [0], [], 285), (90, [1], [], 0), (91, [1], [], 1007), (0, [2], [], 285), (90, [3], [], 0), (91, [3], [], 1007), (90, [4], [], 0), (91, [4], [], 5), (90, [5], [], 0), (91, [5], [], 1)], (90, [13], [], 0))
theorem c_230_22_4 {q0 : Nat} : vOkm T0 (eP e_230 L_230 A_230 mu_230 (some q0)) 2 g_230_22_4 := vOk_inI fun ρ η f0 f1 f2 f3 f4 f5 f6 f7 f8 f9 f10 f11 f12 f13 f14 f15 f16 f17 f18 f19 f20 f21 f22 f23 f24 f25 f26 f27 f28 f29 f30 => q_230_5 (q0 := q0) (n0 := ρ 5) (n1 := ρ 4) (n2 := ρ 3) (n3 := ρ 2) (n4 := ρ 1) (n5 := ρ 0) (n6 := ρ 6) (n7 := ρ 7) (n8 := ρ 8) (n9 := ρ 9) (n10 := ρ 10) (n11 := ρ 11) (n12 := ρ 12) (n13 := ρ 13) (H0 := η 0) (H1 := η 1) (H2 := η 2) (H3 := η 3) f30 f29 f28 f27 f26 f25 f24 f23 f22 f21 f20 f19 f18 f17 f16 f15 f14 f13 f12 f11 f10 f9 f8 f7 f6 f5 f4 f3 f2 f1 f0
set_option maxHeartbeats 20000000 in
theorem q_230_6 {q0 : Nat} {n0 n1 n2 n3 n4 n5 n6 n7 n8 n9 n10 n11 n12 n13 : Int} {H0 H1 H2 H3 : gH} (f0 : n0 ≤ 1) (f1 : 0 ≤ n0) (f2 : n1 ≤ 5) (f3 : 0 ≤ n1) (f4 : n2 ≤ 1007) (f5 : 0 ≤ n2) (f6 : n3 = 285) (f7 : n4 ≤ 1007) (f8 : 0 ≤ n4) (f9 : n5 = 285) (f10 : (hLe T0 H0 H1 ∧ hFr s_230.2.2.2.2 H0 H1 ∧ hWt T0 H1) ∧ (Ab_230_22 n5 n4 n3 n2 n1 n0 H0 H1 ∧ preb_230 n5 n4 H0) ∧ some q0 = some (mub_230_22 n5 n4 n3 n2 n1 n0 H0 H1)) (f11 : n0 ≠ 0) (f12 : n6 ≤ 2) (f13 : 0 ≤ n6) (f14 : n6 = hV H1 (n3).toNat 13) (f15 : n6 = 0) (f16 : n7 = 2) (f17 : n8 ≤ 1) (f18 : 0 ≤ n8) (f19 : (hLe T0 H1 H2 ∧ hFr s_216.2.2.2.2 H1 H2 ∧ ((0 : Int) = 0 → H2.length = H1.length) ∧ hWt T0 H2) ∧ postb_216 n8 n3 n7 H1 H2) (f20 : n8 = 0) (f21 : n9 = 0) (f22 : n10 = 400) (f23 : n11 ≤ 9999) (f24 : 0 ≤ n11) (f25 : (hLe T0 H2 H3 ∧ hFr s_223.2.2.2.2 H2 H3 ∧ ((0 : Int) = 0 → H3.length = H2.length) ∧ hWt T0 H3) ∧ postb_223 n11 n3 n9 n10 H2 H3) (f26 : n12 ≤ 2) (f27 : 0 ≤ n12) (f28 : n12 = hV H3 (n3).toNat 13) (f29 : n12 ≠ 0) (f30 : n13 = w32 (n1 + 1)) : n13 ≤ 5 := by
  have g4 := f10.2.1.1
  unfold Ab_230_22 at g4
  have g3 := f10.2.1.2
  unfold preb_230 at g3
  unfold postb_216 at f19
  unfold postb_223 at f25
  have e0 : n6 = hV H1 285 13 := (by rw [f6] at f14; exact f14 : n6 = hV H1 285 13)
  have e1 : n12 = hV H3 285 13 := (by rw [f6] at f28; exact f28 : n12 = hV H3 285 13)
  have e3 : hV H1 285 18 = hV H0 285 18 := (f10.1.2.1.1 285 18 kF_230_285_18)
  have e5 : hV H1 285 32 = hV H0 285 32 := (f10.1.2.1.1 285 32 kF_230_285_32)
  have e7 : hV H1 285 33 = hV H0 285 33 := (f10.1.2.1.1 285 33 kF_230_285_33)
  have e9 : hV H2 285 11 = hV H1 285 11 := (f19.1.2.1.1 285 11 kF_216_285_11)
  have e11 : hV H2 285 13 = hV H1 285 13 := (f19.1.2.1.1 285 13 kF_216_285_13)
  have e13 : hV H2 285 15 = hV H1 285 15 := (f19.1.2.1.1 285 15 kF_216_285_15)
  have e16 : hV H2 288 = hV H0 288 := (fRow f19.1.2.1 288 kR_216_288).trans (fRow f10.1.2.1 288 kR_230_288)
  have e18 : hV H3 288 = hV H0 288 := (fRow f25.1.2.1 288 kR_223_288).trans e16
  have e19 : (0 : Int) ≤ hV H1 285 11 ∧ hV H1 285 11 ≤ 500 := f10.1.2.2 285 11 _ _ kW_285_11
  have e20 : (0 : Int) ≤ hV H1 285 13 ∧ hV H1 285 13 ≤ 2 := f10.1.2.2 285 13 _ _ kW_285_13
  have e21 : (0 : Int) ≤ hV H1 285 15 ∧ hV H1 285 15 ≤ 6 := f10.1.2.2 285 15 _ _ kW_285_15
  have e22 : (0 : Int) ≤ hV H0 285 18 ∧ hV H0 285 18 ≤ 8 := bTo e3 (f10.1.2.2 285 18 _ _ kW_285_18)
  have e23 : (0 : Int) ≤ hV H0 285 32 ∧ hV H0 285 32 ≤ 7 := bTo e5 (f10.1.2.2 285 32 _ _ kW_285_32)
  have e24 : (0 : Int) ≤ hV H0 285 33 ∧ hV H0 285 33 ≤ 62 := bTo e7 (f10.1.2.2 285 33 _ _ kW_285_33)
  have e28 : (0 : Int) ≤ hV H3 285 11 ∧ hV H3 285 11 ≤ 500 := f25.1.2.2.2 285 11 _ _ kW_285_11
  have e29 : (0 : Int) ≤ hV H3 285 13 ∧ hV H3 285 13 ≤ 2 := f25.1.2.2.2 285 13 _ _ kW_285_13
  have e30 : (0 : Int) ≤ hV H3 285 15 ∧ hV H3 285 15 ≤ 6 := f25.1.2.2.2 285 15 _ _ kW_285_15
  have k0 := g4.1
  have y0 := g4.2.1
  have y1 := g4.2.2.1
  have y2 := g4.2.2.2.1
  have y3 := g4.2.2.2.2.1
  have y4 := g4.2.2.2.2.2.1
  have y5 := g4.2.2.2.2.2.2.1
  have y6 := g4.2.2.2.2.2.2.2.1
  have y7 := g4.2.2.2.2.2.2.2.2.1
  have y8 := g4.2.2.2.2.2.2.2.2.2.1
  have y9 := g4.2.2.2.2.2.2.2.2.2.2.1
  have y10 := g4.2.2.2.2.2.2.2.2.2.2.2
  have p0 := g3.1
  have p1 := g3.2.1
  have p2 := g3.2.2.1
  have p3 := g3.2.2.2.1
  have p4 := g3.2.2.2.2.1
  have p5 := g3.2.2.2.2.2.1
  have p6 := g3.2.2.2.2.2.2.1
  have p7 := g3.2.2.2.2.2.2.2
  have r0_0 := f19.2.1
  have r0_1 := f19.2.2
  have r1_0 := f25.2.1
  have r1_1 := f25.2.2.1
  have r1_2 := f25.2.2.2.1
  have r1_3 := f25.2.2.2.2.1
  have r1_4 := f25.2.2.2.2.2.1
  have r1_5 := f25.2.2.2.2.2.2.1
  have r1_6 := f25.2.2.2.2.2.2.2.1
  have r1_7 := f25.2.2.2.2.2.2.2.2
  try simp only [e11] at r0_0
  try simp only [e9, e11, e16] at r0_1
  try simp only [e9] at r1_0
  try simp only [e9] at r1_1
  try simp only [e11] at r1_2
  try simp only [e9] at r1_3
  try simp only [e13] at r1_4
  try simp only [e9, e18] at r1_7
  clear g3
  clear g4
  have wb0 := (p7 (hV H0 285 32).toNat).1
  have wp0 := (p7 (hV H0 285 33).toNat).2
  try simp only [e3, e5, e7] at wb0
  try simp only [e3, e5, e7] at wp0
  clear f14 f28 e3 e5 e7 e9 e11 e13 e16 e18
  clear f10 f19 f25
  subst e0
  subst e1
  first
  | (have ix0 : n13 = n1 + 1 := Eq.trans f30 (w32_iv (Iad (Iat f3 f2) (IC 1)) (by decide)); subst ix0; clear f30)
  | (have ix0 : n13 = n1 + 1 := Eq.trans f30 (w32_id (by omega) (by omega)); subst ix0; clear f30)
  | (unfold w32 at f30; have ix0 : n13 = n1 + 1 := (by omega); subst ix0)
  | skip
  try unfold w32 at f30

  (try clear y0 y1 p0 p5 p7)
  omega
def g_230_22_5 : vG := ([(10, [13, 4], [], 1), (31, [12], [], 0), (20, [12, 2], [3], 13), (90, [12], [], 0), (91, [12], [], 2), (1223, [11, 2, 9, 10], [2, 3], 0), (90, [11], [], 0), (91, [11], [], 9999), (0, [10], [], 400), (0, [9], [], 0), (30, [8], [], 0), (1216, [8, 2, 7], [1, 2], 0), (90, [8], [], 0), (91, [8], [], 1), (0, [7], [], 2), (30, [6], [], 0), (20, [6, 2], [1], 13), (90, [6], [], 0), (91, [6], [], 2), (31, [5], [], 0), (5000, [0, 1, 2, 3, 4, 5], [0, 1], 22), (0, [0], [], 285), (90, [1], [], 0), (91, [1], [], 1007), (0, [2], [], 285), (90, [3], [], 0), (91, [3], [], 1007), (90, [4], [], 0), (91, [4], [], 5), (90, [5], [], 0), (91, [5], [], 1)], (91, [13], [], 5))
theorem c_230_22_5 {q0 : Nat} : vOkm T0 (eP e_230 L_230 A_230 mu_230 (some q0)) 2 g_230_22_5 := vOk_inI fun ρ η f0 f1 f2 f3 f4 f5 f6 f7 f8 f9 f10 f11 f12 f13 f14 f15 f16 f17 f18 f19 f20 f21 f22 f23 f24 f25 f26 f27 f28 f29 f30 => q_230_6 (q0 := q0) (n0 := ρ 5) (n1 := ρ 4) (n2 := ρ 3) (n3 := ρ 2) (n4 := ρ 1) (n5 := ρ 0) (n6 := ρ 6) (n7 := ρ 7) (n8 := ρ 8) (n9 := ρ 9) (n10 := ρ 10) (n11 := ρ 11) (n12 := ρ 12) (n13 := ρ 13) (H0 := η 0) (H1 := η 1) (H2 := η 2) (H3 := η 3) f30 f29 f28 f27 f26 f25 f24 f23 f22 f21 f20 f19 f18 f17 f16 f15 f14 f13 f12 f11 f10 f9 f8 f7 f6 f5 f4 f3 f2 f1 f0
set_option maxHeartbeats 20000000 in
theorem kR_216_300 : vFreeR s_216.2.2.2.2 300 = true := by decide +kernel
theorem q_230_7 {q0 : Nat} {n0 n1 n2 n3 n4 n5 n6 n7 n8 n9 n10 n11 n12 n13 n14 n15 : Int} {H0 H1 H2 H3 H4 : gH} (f0 : n0 ≤ 1) (f1 : 0 ≤ n0) (f2 : n1 ≤ 5) (f3 : 0 ≤ n1) (f4 : n2 ≤ 1007) (f5 : 0 ≤ n2) (f6 : n3 = 285) (f7 : n4 ≤ 1007) (f8 : 0 ≤ n4) (f9 : n5 = 285) (f10 : (hLe T0 H0 H1 ∧ hFr s_230.2.2.2.2 H0 H1 ∧ hWt T0 H1) ∧ (Ab_230_22 n5 n4 n3 n2 n1 n0 H0 H1 ∧ preb_230 n5 n4 H0) ∧ some q0 = some (mub_230_22 n5 n4 n3 n2 n1 n0 H0 H1)) (f11 : n0 ≠ 0) (f12 : n6 ≤ 2) (f13 : 0 ≤ n6) (f14 : n6 = hV H1 (n3).toNat 13) (f15 : n6 = 0) (f16 : n7 = 2) (f17 : n8 ≤ 1) (f18 : 0 ≤ n8) (f19 : (hLe T0 H1 H2 ∧ hFr s_216.2.2.2.2 H1 H2 ∧ ((0 : Int) = 0 → H2.length = H1.length) ∧ hWt T0 H2) ∧ postb_216 n8 n3 n7 H1 H2) (f20 : n8 = 0) (f21 : n9 = 0) (f22 : n10 = 400) (f23 : n11 ≤ 9999) (f24 : 0 ≤ n11) (f25 : (hLe T0 H2 H3 ∧ hFr s_223.2.2.2.2 H2 H3 ∧ ((0 : Int) = 0 → H3.length = H2.length) ∧ hWt T0 H3) ∧ postb_223 n11 n3 n9 n10 H2 H3) (f26 : n12 ≤ 2) (f27 : 0 ≤ n12) (f28 : n12 = hV H3 (n3).toNat 13) (f29 : n12 ≠ 0) (f30 : n13 = w32 (n1 + 1)) (f31 : n14 = 5) (f32 : n15 ≤ 1) (f33 : 0 ≤ n15) (f34 : (hLe T0 H3 H4 ∧ hFr s_216.2.2.2.2 H3 H4 ∧ ((0 : Int) = 0 → H4.length = H3.length) ∧ hWt T0 H4) ∧ postb_216 n15 n3 n14 H3 H4) (f35 : n15 = 0) : Ab_230_22 n5 n4 n3 n2 n13 n15 H0 H4 ∧ ∀ q, some q0 = some q → mub_230_22 n5 n4 n3 n2 n13 n15 H0 H4 < q := by
  have g4 := f10.2.1.1
  unfold Ab_230_22 at g4
  have g3 := f10.2.1.2
  unfold preb_230 at g3
  have g5 := Option.some.inj f10.2.2
  unfold mub_230_22 at g5
  unfold postb_216 at f19
  unfold postb_223 at f25
  unfold postb_216 at f34
  unfold Ab_230_22
  unfold mub_230_22
  have e0 : n6 = hV H1 285 13 := (by rw [f6] at f14; exact f14 : n6 = hV H1 285 13)
  have e1 : n12 = hV H3 285 13 := (by rw [f6] at f28; exact f28 : n12 = hV H3 285 13)
  have e3 : hV H1 285 18 = hV H0 285 18 := (f10.1.2.1.1 285 18 kF_230_285_18)
  have e5 : hV H1 285 32 = hV H0 285 32 := (f10.1.2.1.1 285 32 kF_230_285_32)
  have e7 : hV H1 285 33 = hV H0 285 33 := (f10.1.2.1.1 285 33 kF_230_285_33)
  have e9 : hV H2 285 11 = hV H1 285 11 := (f19.1.2.1.1 285 11 kF_216_285_11)
  have e11 : hV H2 285 13 = hV H1 285 13 := (f19.1.2.1.1 285 13 kF_216_285_13)
  have e13 : hV H2 285 15 = hV H1 285 15 := (f19.1.2.1.1 285 15 kF_216_285_15)
  have e16 : hV H2 288 = hV H0 288 := (fRow f19.1.2.1 288 kR_216_288).trans (fRow f10.1.2.1 288 kR_230_288)
  have e18 : hV H3 288 = hV H0 288 := (fRow f25.1.2.1 288 kR_223_288).trans e16
  have e20 : hV H4 285 11 = hV H3 285 11 := (f34.1.2.1.1 285 11 kF_216_285_11)
  have e22 : hV H4 285 13 = hV H3 285 13 := (f34.1.2.1.1 285 13 kF_216_285_13)
  have e24 : hV H4 285 15 = hV H3 285 15 := (f34.1.2.1.1 285 15 kF_216_285_15)
  have e26 : hV H4 288 = hV H0 288 := (fRow f34.1.2.1 288 kR_216_288).trans e18
  have e31 : hV H4 300 = hV H1 300 := (fRow f34.1.2.1 300 kR_216_300).trans ((fRow f25.1.2.1 300 kR_223_300).trans (fRow f19.1.2.1 300 kR_216_300))
  have e32 : PA H2 = PA H1 := PA_fr f19.1.2.1 (by decide +kernel)
  have e33 : PA H3 = PA H2 := PA_fr f25.1.2.1 (by decide +kernel)
  have e34 : PA H3 = PA H1 := e33.trans e32
  have e35 : PA H4 = PA H3 := PA_fr f34.1.2.1 (by decide +kernel)
  have e36 : PA H4 = PA H1 := e35.trans e34
  have e37 : PW H2 = PW H1 := PW_fr f19.1.2.1 (by decide +kernel)
  have e38 : PW H3 = PW H2 := PW_fr f25.1.2.1 (by decide +kernel)
  have e39 : PW H3 = PW H1 := e38.trans e37
  have e40 : PW H4 = PW H3 := PW_fr f34.1.2.1 (by decide +kernel)
  have e41 : PW H4 = PW H1 := e40.trans e39
  have e42 : (0 : Int) ≤ hV H1 285 11 ∧ hV H1 285 11 ≤ 500 := f10.1.2.2 285 11 _ _ kW_285_11
  have e43 : (0 : Int) ≤ hV H1 285 13 ∧ hV H1 285 13 ≤ 2 := f10.1.2.2 285 13 _ _ kW_285_13
  have e44 : (0 : Int) ≤ hV H1 285 15 ∧ hV H1 285 15 ≤ 6 := f10.1.2.2 285 15 _ _ kW_285_15
  have e45 : (0 : Int) ≤ hV H0 285 18 ∧ hV H0 285 18 ≤ 8 := bTo e3 (f10.1.2.2 285 18 _ _ kW_285_18)
  have e46 : (0 : Int) ≤ hV H0 285 32 ∧ hV H0 285 32 ≤ 7 := bTo e5 (f10.1.2.2 285 32 _ _ kW_285_32)
  have e47 : (0 : Int) ≤ hV H0 285 33 ∧ hV H0 285 33 ≤ 62 := bTo e7 (f10.1.2.2 285 33 _ _ kW_285_33)
  have e51 : (0 : Int) ≤ hV H3 285 11 ∧ hV H3 285 11 ≤ 500 := f25.1.2.2.2 285 11 _ _ kW_285_11
  have e52 : (0 : Int) ≤ hV H3 285 13 ∧ hV H3 285 13 ≤ 2 := f25.1.2.2.2 285 13 _ _ kW_285_13
  have e53 : (0 : Int) ≤ hV H3 285 15 ∧ hV H3 285 15 ≤ 6 := f25.1.2.2.2 285 15 _ _ kW_285_15
  try simp only [e20, e22, e24, e31, e36, e41]
  have k0 := g4.1
  have y0 := g4.2.1
  have y1 := g4.2.2.1
  have y2 := g4.2.2.2.1
  have y3 := g4.2.2.2.2.1
  have y4 := g4.2.2.2.2.2.1
  have y5 := g4.2.2.2.2.2.2.1
  have y6 := g4.2.2.2.2.2.2.2.1
  have y7 := g4.2.2.2.2.2.2.2.2.1
  have y8 := g4.2.2.2.2.2.2.2.2.2.1
  have y9 := g4.2.2.2.2.2.2.2.2.2.2.1
  have y10 := g4.2.2.2.2.2.2.2.2.2.2.2
  have p0 := g3.1
  have p1 := g3.2.1
  have p2 := g3.2.2.1
  have p3 := g3.2.2.2.1
  have p4 := g3.2.2.2.2.1
  have p5 := g3.2.2.2.2.2.1
  have p6 := g3.2.2.2.2.2.2.1
  have p7 := g3.2.2.2.2.2.2.2
  have r0_0 := f19.2.1
  have r0_1 := f19.2.2
  have r1_0 := f25.2.1
  have r1_1 := f25.2.2.1
  have r1_2 := f25.2.2.2.1
  have r1_3 := f25.2.2.2.2.1
  have r1_4 := f25.2.2.2.2.2.1
  have r1_5 := f25.2.2.2.2.2.2.1
  have r1_6 := f25.2.2.2.2.2.2.2.1
  have r1_7 := f25.2.2.2.2.2.2.2.2
  have r2_0 := f34.2.1
  have r2_1 := f34.2.2
  try simp only [e11] at r0_0
  try simp only [e9, e11, e16] at r0_1
  try simp only [e9] at r1_0
  try simp only [e9] at r1_1
  try simp only [e11] at r1_2
  try simp only [e9] at r1_3
  try simp only [e13] at r1_4
  try simp only [e9, e18] at r1_7
  try simp only [e22] at r2_0
  try simp only [e20, e22, e26] at r2_1
  clear g3
  clear g4
  have wb0 := (p7 (hV H0 285 32).toNat).1
  have wp0 := (p7 (hV H0 285 33).toNat).2
  try simp only [e3, e5, e7] at wb0
  try simp only [e3, e5, e7] at wp0
  clear f14 f28 e3 e5 e7 e9 e11 e13 e16 e18 e20 e22 e24 e26 e31 e32 e33 e34 e35 e36 e37 e38 e39 e40 e41
  clear f10 f19 f25 f34
  subst e0
  subst e1
  first
  | (have ix0 : n13 = n1 + 1 := Eq.trans f30 (w32_iv (Iad (Iat f3 f2) (IC 1)) (by decide)); subst ix0; clear f30)
  | (have ix0 : n13 = n1 + 1 := Eq.trans f30 (w32_id (by omega) (by omega)); subst ix0; clear f30)
  | (unfold w32 at f30; have ix0 : n13 = n1 + 1 := (by omega); subst ix0)
  | skip
  try unfold w32 at f30

  refine ⟨⟨?_, ?_, ?_, ?_⟩, fun q hq => ?_⟩
  · first | exact True.intro | rfl | omega
  · exact y0
  · intro z1 z2
    exact y1 (by omega) (by omega)
  · (try clear y0 y1 p0 p5 p7)
    first
    | omega
    | (refine ⟨?_, ?_, ?_, ?_, ?_, ?_, ?_, ?_, ?_⟩ <;> first | exact True.intro | omega)
  · (try clear y0 y1 p0 p5 p7)
    have g6 := Option.some.inj hq
    subst g6
    omega
def g_230_22_6 : vG := ([(30, [15], [], 0), (1216, [15, 2, 14], [3, 4], 0), (90, [15], [], 0), (91, [15], [], 1), (0, [14], [], 5), (10, [13, 4], [], 1), (31, [12], [], 0), (20, [12, 2], [3], 13), (90, [12], [], 0), (91, [12], [], 2), (1223, [11, 2, 9, 10], [2, 3], 0), (90, [11], [], 0), (91, [11], [], 9999), (0, [10], [], 400), (0, [9], [], 0), (30, [8], [], 0), (1216, [8, 2, 7], [1, 2], 0), (90, [8], [], 0), (91, [8], [], 1), (0, [7], [], 2), (30, [6], [], 0), (20, [6, 2], [1], 13), (90, [6], [], 0), (91, [6], [], 2), (31, [5], [], 0), (5000, [0, 1, 2, 3, 4, 5], [0, 1], 22), (0, [0], [], 285), (90, [1], [], 0), (91, [1], [], 1007), (0, [2], [], 285), (90, [3], [], 0), (91, [3], [], 1007), (90, [4], [], 0), (91, [4], [], 5), (90, [5], [], 0), (91, [5], [], 1)], (4000, [2, 3, 13, 15], [4], 22))
theorem c_230_22_6 {q0 : Nat} : vOkm T0 (eP e_230 L_230 A_230 mu_230 (some q0)) 2 g_230_22_6 := vOk_inI fun ρ η f0 f1 f2 f3 f4 f5 f6 f7 f8 f9 f10 f11 f12 f13 f14 f15 f16 f17 f18 f19 f20 f21 f22 f23 f24 f25 f26 f27 f28 f29 f30 f31 f32 f33 f34 f35 => q_230_7 (q0 := q0) (n0 := ρ 5) (n1 := ρ 4) (n2 := ρ 3) (n3 := ρ 2) (n4 := ρ 1) (n5 := ρ 0) (n6 := ρ 6) (n7 := ρ 7) (n8 := ρ 8) (n9 := ρ 9) (n10 := ρ 10) (n11 := ρ 11) (n12 := ρ 12) (n13 := ρ 13) (n14 := ρ 14) (n15 := ρ 15) (H0 := η 0) (H1 := η 1) (H2 := η 2) (H3 := η 3) (H4 := η 4) f35 f34 f33 f32 f31 f30 f29 f28 f27 f26 f25 f24 f23 f22 f21 f20 f19 f18 f17 f16 f15 f14 f13 f12 f11 f10 f9 f8 f7 f6 f5 f4 f3 f2 f1 f0
def g_230_22_7 : vG := ([(10, [13, 4], [], 1), (31, [12], [], 0), (20, [12, 2], [3], 13), (90, [12], [], 0), (91, [12], [], 2), (1223, [11, 2, 9, 10], [2, 3], 0), (90, [11], [], 0), (91, [11], [], 9999), (0, [10], [], 400), (0, [9], [], 0), (30, [8], [], 0), (1216, [8, 2, 7], [1, 2], 0), (90, [8], [], 0), (91, [8], [], 1), (0, [7], [], 2), (30, [6], [], 0), (20, [6, 2], [1], 13), (90, [6], [], 0), (91, [6], [], 2), (31, [5], [], 0), (5000, [0, 1, 2, 3, 4, 5], [0, 1], 22), (0, [0], [], 285), (90, [1], [], 0), (91, [1], [], 1007), (0, [2], [], 285), (90, [3], [], 0), (91, [3], [], 1007), (90, [4], [], 0), (91, [4], [], 5), (90, [5], [], 0), (91, [5], [], 1)], (90, [13], [], 0))
theorem c_230_22_7 {q0 : Nat} : vOkm T0 (eP e_230 L_230 A_230 mu_230 (some q0)) 2 g_230_22_7 := vOk_inI fun ρ η f0 f1 f2 f3 f4 f5 f6 f7 f8 f9 f10 f11 f12 f13 f14 f15 f16 f17 f18 f19 f20 f21 f22 f23 f24 f25 f26 f27 f28 f29 f30 => q_230_5 (q0 := q0) (n0 := ρ 5) (n1 := ρ 4) (n2 := ρ 3) (n3 := ρ 2) (n4 := ρ 1) (n5 := ρ 0) (n6 := ρ 6) (n7 := ρ 7) (n8 := ρ 8) (n9 := ρ 9) (n10 := ρ 10) (n11 := ρ 11) (n12 := ρ 12) (n13 := ρ 13) (H0 := η 0) (H1 := η 1) (H2 := η 2) (H3 := η 3) f30 f29 f28 f27 f26 f25 f24 f23 f22 f21 f20 f19 f18 f17 f16 f15 f14 f13 f12 f11 f10 f9 f8 f7 f6 f5 f4 f3 f2 f1 f0
def g_230_22_8 : vG := ([(10, [13, 4], [], 1), (31, [12], [], 0), (20, [12, 2], [3], 13), (90, [12], [], 0), (91, [12], [], 2), (1223, [11, 2, 9, 10], [2, 3], 0), (90, [11], [], 0), (91, [11], [], 9999), (0, [10], [], 400), (0, [9], [], 0), (30, [8], [], 0), (1216, [8, 2, 7], [1, 2], 0), (90, [8], [], 0), (91, [8], [], 1), (0, [7], [], 2), (30, [6], [], 0), (20, [6, 2], [1], 13), (90, [6], [], 0), (91, [6], [], 2), (31, [5], [], 0), (5000, [0, 1, 2, 3, 4, 5], [0, 1], 22), (0, [0], [], 285), (90, [1], [], 0), (91, [1], [], 1007), (0, [2], [], 285), (90, [3], [], 0), (91, [3], [], 1007), (90, [4], [], 0), (91, [4], [], 5), (90, [5], [], 0), (91, [5], [], 1)], (91, [13], [], 5))
theorem c_230_22_8 {q0 : Nat} : vOkm T0 (eP e_230 L_230 A_230 mu_230 (some q0)) 2 g_230_22_8 := vOk_inI fun ρ η f0 f1 f2 f3 f4 f5 f6 f7 f8 f9 f10 f11 f12 f13 f14 f15 f16 f17 f18 f19 f20 f21 f22 f23 f24 f25 f26 f27 f28 f29 f30 => q_230_6 (q0 := q0) (n0 := ρ 5) (n1 := ρ 4) (n2 := ρ 3) (n3 := ρ 2) (n4 := ρ 1) (n5 := ρ 0) (n6 := ρ 6) (n7 := ρ 7) (n8 := ρ 8) (n9 := ρ 9) (n10 := ρ 10) (n11 := ρ 11) (n12 := ρ 12) (n13 := ρ 13) (H0 := η 0) (H1 := η 1) (H2 := η 2) (H3 := η 3) f30 f29 f28 f27 f26 f25 f24 f23 f22 f21 f20 f19 f18 f17 f16 f15 f14 f13 f12 f11 f10 f9 f8 f7 f6 f5 f4 f3 f2 f1 f0
set_option maxHeartbeats 20000000 in
theorem kR_219_300 : vFreeR s_219.2.2.2.2 300 = true := by decide +kernel
theorem q_230_8 {q0 : Nat} {n0 n1 n2 n3 n4 n5 n6 n7 n8 n9 n10 n11 n12 n13 n14 n15 : Int} {H0 H1 H2 H3 H4 H5 : gH} (f0 : n0 ≤ 1) (f1 : 0 ≤ n0) (f2 : n1 ≤ 5) (f3 : 0 ≤ n1) (f4 : n2 ≤ 1007) (f5 : 0 ≤ n2) (f6 : n3 = 285) (f7 : n4 ≤ 1007) (f8 : 0 ≤ n4) (f9 : n5 = 285) (f10 : (hLe T0 H0 H1 ∧ hFr s_230.2.2.2.2 H0 H1 ∧ hWt T0 H1) ∧ (Ab_230_22 n5 n4 n3 n2 n1 n0 H0 H1 ∧ preb_230 n5 n4 H0) ∧ some q0 = some (mub_230_22 n5 n4 n3 n2 n1 n0 H0 H1)) (f11 : n0 ≠ 0) (f12 : n6 ≤ 2) (f13 : 0 ≤ n6) (f14 : n6 = hV H1 (n3).toNat 13) (f15 : n6 = 0) (f16 : n7 = 2) (f17 : n8 ≤ 1) (f18 : 0 ≤ n8) (f19 : (hLe T0 H1 H2 ∧ hFr s_216.2.2.2.2 H1 H2 ∧ ((0 : Int) = 0 → H2.length = H1.length) ∧ hWt T0 H2) ∧ postb_216 n8 n3 n7 H1 H2) (f20 : n8 = 0) (f21 : n9 = 0) (f22 : n10 = 400) (f23 : n11 ≤ 9999) (f24 : 0 ≤ n11) (f25 : (hLe T0 H2 H3 ∧ hFr s_223.2.2.2.2 H2 H3 ∧ ((0 : Int) = 0 → H3.length = H2.length) ∧ hWt T0 H3) ∧ postb_223 n11 n3 n9 n10 H2 H3) (f26 : n12 ≤ 2) (f27 : 0 ≤ n12) (f28 : n12 = hV H3 (n3).toNat 13) (f29 : n12 ≠ 0) (f30 : n13 = w32 (n1 + 1)) (f31 : n14 = 5) (f32 : n15 ≤ 1) (f33 : 0 ≤ n15) (f34 : (hLe T0 H3 H4 ∧ hFr s_216.2.2.2.2 H3 H4 ∧ ((0 : Int) = 0 → H4.length = H3.length) ∧ hWt T0 H4) ∧ postb_216 n15 n3 n14 H3 H4) (f35 : n15 ≠ 0) (f36 : (hLe T0 H4 H5 ∧ hFr s_219.2.2.2.2 H4 H5 ∧ ((0 : Int) = 0 → H5.length = H4.length) ∧ hWt T0 H5) ∧ postb_219 n3 H4 H5) : Ab_230_22 n5 n4 n3 n2 n13 n15 H0 H5 ∧ ∀ q, some q0 = some q → mub_230_22 n5 n4 n3 n2 n13 n15 H0 H5 < q := by
  have g4 := f10.2.1.1
  unfold Ab_230_22 at g4
  have g3 := f10.2.1.2
  unfold preb_230 at g3
  have g5 := Option.some.inj f10.2.2
  unfold mub_230_22 at g5
  unfold postb_216 at f19
  unfold postb_223 at f25
  unfold postb_216 at f34
  unfold postb_219 at f36
  unfold Ab_230_22
  unfold mub_230_22
  have e0 : n6 = hV H1 285 13 := (by rw [f6] at f14; exact f14 : n6 = hV H1 285 13)
  have e1 : n12 = hV H3 285 13 := (by rw [f6] at f28; exact f28 : n12 = hV H3 285 13)
  have e3 : hV H1 285 18 = hV H0 285 18 := (f10.1.2.1.1 285 18 kF_230_285_18)
  have e5 : hV H1 285 32 = hV H0 285 32 := (f10.1.2.1.1 285 32 kF_230_285_32)
  have e7 : hV H1 285 33 = hV H0 285 33 := (f10.1.2.1.1 285 33 kF_230_285_33)
  have e9 : hV H2 285 11 = hV H1 285 11 := (f19.1.2.1.1 285 11 kF_216_285_11)
  have e11 : hV H2 285 13 = hV H1 285 13 := (f19.1.2.1.1 285 13 kF_216_285_13)
  have e13 : hV H2 285 15 = hV H1 285 15 := (f19.1.2.1.1 285 15 kF_216_285_15)
  have e16 : hV H2 288 = hV H0 288 := (fRow f19.1.2.1 288 kR_216_288).trans (fRow f10.1.2.1 288 kR_230_288)
  have e18 : hV H3 288 = hV H0 288 := (fRow f25.1.2.1 288 kR_223_288).trans e16
  have e20 : hV H4 285 11 = hV H3 285 11 := (f34.1.2.1.1 285 11 kF_216_285_11)
  have e22 : hV H4 285 13 = hV H3 285 13 := (f34.1.2.1.1 285 13 kF_216_285_13)
  have e24 : hV H4 288 = hV H0 288 := (fRow f34.1.2.1 288 kR_216_288).trans e18
  have e27 : hV H5 285 15 = hV H3 285 15 := ((f36.1.2.1.1 285 15 kF_219_285_15)).trans (f34.1.2.1.1 285 15 kF_216_285_15)
  have e34 : hV H5 300 = hV H1 300 := (fRow f36.1.2.1 300 kR_219_300).trans ((fRow f34.1.2.1 300 kR_216_300).trans ((fRow f25.1.2.1 300 kR_223_300).trans (fRow f19.1.2.1 300 kR_216_300)))
  have e35 : PA H2 = PA H1 := PA_fr f19.1.2.1 (by decide +kernel)
  have e36 : PA H3 = PA H2 := PA_fr f25.1.2.1 (by decide +kernel)
  have e37 : PA H3 = PA H1 := e36.trans e35
  have e38 : PA H4 = PA H3 := PA_fr f34.1.2.1 (by decide +kernel)
  have e39 : PA H4 = PA H1 := e38.trans e37
  have e40 : PA H5 = PA H4 := PA_fr f36.1.2.1 (by decide +kernel)
  have e41 : PA H5 = PA H1 := e40.trans e39
  have e42 : PW H2 = PW H1 := PW_fr f19.1.2.1 (by decide +kernel)
  have e43 : PW H3 = PW H2 := PW_fr f25.1.2.1 (by decide +kernel)
  have e44 : PW H3 = PW H1 := e43.trans e42
  have e45 : PW H4 = PW H3 := PW_fr f34.1.2.1 (by decide +kernel)
  have e46 : PW H4 = PW H1 := e45.trans e44
  have e47 : PW H5 = PW H4 := PW_fr f36.1.2.1 (by decide +kernel)
  have e48 : PW H5 = PW H1 := e47.trans e46
  have e49 : (0 : Int) ≤ hV H1 285 11 ∧ hV H1 285 11 ≤ 500 := f10.1.2.2 285 11 _ _ kW_285_11
  have e50 : (0 : Int) ≤ hV H1 285 13 ∧ hV H1 285 13 ≤ 2 := f10.1.2.2 285 13 _ _ kW_285_13
  have e51 : (0 : Int) ≤ hV H1 285 15 ∧ hV H1 285 15 ≤ 6 := f10.1.2.2 285 15 _ _ kW_285_15
  have e52 : (0 : Int) ≤ hV H0 285 18 ∧ hV H0 285 18 ≤ 8 := bTo e3 (f10.1.2.2 285 18 _ _ kW_285_18)
  have e53 : (0 : Int) ≤ hV H0 285 32 ∧ hV H0 285 32 ≤ 7 := bTo e5 (f10.1.2.2 285 32 _ _ kW_285_32)
  have e54 : (0 : Int) ≤ hV H0 285 33 ∧ hV H0 285 33 ≤ 62 := bTo e7 (f10.1.2.2 285 33 _ _ kW_285_33)
  have e58 : (0 : Int) ≤ hV H3 285 11 ∧ hV H3 285 11 ≤ 500 := f25.1.2.2.2 285 11 _ _ kW_285_11
  have e59 : (0 : Int) ≤ hV H3 285 13 ∧ hV H3 285 13 ≤ 2 := f25.1.2.2.2 285 13 _ _ kW_285_13
  have e60 : (0 : Int) ≤ hV H3 285 15 ∧ hV H3 285 15 ≤ 6 := f25.1.2.2.2 285 15 _ _ kW_285_15
  have e63 : (0 : Int) ≤ hV H5 285 11 ∧ hV H5 285 11 ≤ 500 := f36.1.2.2.2 285 11 _ _ kW_285_11
  have e64 : (0 : Int) ≤ hV H5 285 13 ∧ hV H5 285 13 ≤ 2 := f36.1.2.2.2 285 13 _ _ kW_285_13
  try simp only [e27, e34, e41, e48]
  have k0 := g4.1
  have y0 := g4.2.1
  have y1 := g4.2.2.1
  have y2 := g4.2.2.2.1
  have y3 := g4.2.2.2.2.1
  have y4 := g4.2.2.2.2.2.1
  have y5 := g4.2.2.2.2.2.2.1
  have y6 := g4.2.2.2.2.2.2.2.1
  have y7 := g4.2.2.2.2.2.2.2.2.1
  have y8 := g4.2.2.2.2.2.2.2.2.2.1
  have y9 := g4.2.2.2.2.2.2.2.2.2.2.1
  have y10 := g4.2.2.2.2.2.2.2.2.2.2.2
  have p0 := g3.1
  have p1 := g3.2.1
  have p2 := g3.2.2.1
  have p3 := g3.2.2.2.1
  have p4 := g3.2.2.2.2.1
  have p5 := g3.2.2.2.2.2.1
  have p6 := g3.2.2.2.2.2.2.1
  have p7 := g3.2.2.2.2.2.2.2
  have r0_0 := f19.2.1
  have r0_1 := f19.2.2
  have r1_0 := f25.2.1
  have r1_1 := f25.2.2.1
  have r1_2 := f25.2.2.2.1
  have r1_3 := f25.2.2.2.2.1
  have r1_4 := f25.2.2.2.2.2.1
  have r1_5 := f25.2.2.2.2.2.2.1
  have r1_6 := f25.2.2.2.2.2.2.2.1
  have r1_7 := f25.2.2.2.2.2.2.2.2
  have r2_0 := f34.2.1
  have r2_1 := f34.2.2.resolve_right (fun z => f35 z.1)
  have r3_0 := f36.2.1
  have r3_1 := f36.2.2.1
  have r3_2 := f36.2.2.2.1
  have r3_3 := f36.2.2.2.2
  try simp only [e11] at r0_0
  try simp only [e9, e11, e16] at r0_1
  try simp only [e9] at r1_0
  try simp only [e9] at r1_1
  try simp only [e11] at r1_2
  try simp only [e9] at r1_3
  try simp only [e13] at r1_4
  try simp only [e9, e18] at r1_7
  try simp only [e22] at r2_0
  try simp only [e18, e20, e22, e24] at r2_1
  try simp only [e20] at r3_0
  try simp only [e20] at r3_1
  try simp only [e22] at r3_2
  try simp only [e20] at r3_3
  clear g3
  clear g4
  have wb0 := (p7 (hV H0 285 32).toNat).1
  have wp0 := (p7 (hV H0 285 33).toNat).2
  try simp only [e3, e5, e7] at wb0
  try simp only [e3, e5, e7] at wp0
  clear f14 f28 e3 e5 e7 e9 e11 e13 e16 e18 e20 e22 e24 e27 e34 e35 e36 e37 e38 e39 e40 e41 e42 e43 e44 e45 e46 e47 e48
  clear f10 f19 f25 f34 f36
  subst e0
  subst e1
  first
  | (have ix0 : n13 = n1 + 1 := Eq.trans f30 (w32_iv (Iad (Iat f3 f2) (IC 1)) (by decide)); subst ix0; clear f30)
  | (have ix0 : n13 = n1 + 1 := Eq.trans f30 (w32_id (by omega) (by omega)); subst ix0; clear f30)
  | (unfold w32 at f30; have ix0 : n13 = n1 + 1 := (by omega); subst ix0)
  | skip
  try unfold w32 at f30

  refine ⟨⟨?_, ?_, ?_, ?_⟩, fun q hq => ?_⟩
  · first | exact True.intro | rfl | omega
  · exact y0
  · intro z1 z2
    exact y1 (by omega) (by omega)
  · (try clear y0 y1 p0 p5 p7)
    first
    | omega
    | (refine ⟨?_, ?_, ?_, ?_, ?_, ?_, ?_, ?_, ?_⟩ <;> first | exact True.intro | omega)
  · (try clear y0 y1 p0 p5 p7)
    have g6 := Option.some.inj hq
    subst g6
    omega
def g_230_22_9 : vG := ([(1219, [2], [4, 5], 0), (31, [15], [], 0), (1216, [15, 2, 14], [3, 4], 0), (90, [15], [], 0), (91, [15], [], 1), (0, [14], [], 5), (10, [13, 4], [], 1), (31, [12], [], 0), (20, [12, 2], [3], 13), (90, [12], [], 0), (91, [12], [], 2), (1223, [11, 2, 9, 10], [2, 3], 0), (90, [11], [], 0), (91, [11], [], 9999), (0, [10], [], 400), (0, [9], [], 0), (30, [8], [], 0), (1216, [8, 2, 7], [1, 2], 0), (90, [8], [], 0), (91, [8], [], 1), (0, [7], [], 2), (30, [6], [], 0), (20, [6, 2], [1], 13), (90, [6], [], 0), (91, [6], [], 2), (31, [5], [], 0), (5000, [0, 1, 2, 3, 4, 5], [0, 1], 22), (0, [0], [], 285), (90, [1], [], 0), (91, [1], [], 1007), (0, [2], [], 285), (90, [3], [], 0), (91, [3], [], 1007), (90, [4], [], 0), (91, [4], [], 5), (90, [5], [], 0), (91, [5], [], 1)], (4000, [2, 3, 13, 15], [5], 22))
theorem c_230_22_9 {q0 : Nat} : vOkm T0 (eP e_230 L_230 A_230 mu_230 (some q0)) 2 g_230_22_9 := vOk_inI fun ρ η f0 f1 f2 f3 f4 f5 f6 f7 f8 f9 f10 f11 f12 f13 f14 f15 f16 f17 f18 f19 f20 f21 f22 f23 f24 f25 f26 f27 f28 f29 f30 f31 f32 f33 f34 f35 f36 => q_230_8 (q0 := q0) (n0 := ρ 5) (n1 := ρ 4) (n2 := ρ 3) (n3 := ρ 2) (n4 := ρ 1) (n5 := ρ 0) (n6 := ρ 6) (n7 := ρ 7) (n8 := ρ 8) (n9 := ρ 9) (n10 := ρ 10) (n11 := ρ 11) (n12 := ρ 12) (n13 := ρ 13) (n14 := ρ 14) (n15 := ρ 15) (H0 := η 0) (H1 := η 1) (H2 := η 2) (H3 := η 3) (H4 := η 4) (H5 := η 5) f36 f35 f34 f33 f32 f31 f30 f29 f28 f27 f26 f25 f24 f23 f22 f21 f20 f19 f18 f17 f16 f15 f14 f13 f12 f11 f10 f9 f8 f7 f6 f5 f4 f3 f2 f1 f0
set_option maxHeartbeats 20000000 in
theorem q_230_9 {q0 : Nat} {n0 n1 n2 n3 n4 n5 n6 n7 n8 n9 n10 n11 n12 n13 n14 n15 n16 n17 : Int} {H0 H1 H2 H3 : gH} (f0 : n0 ≤ 1) (f1 : 0 ≤ n0) (f2 : n1 ≤ 5) (f3 : 0 ≤ n1) (f4 : n2 ≤ 1007) (f5 : 0 ≤ n2) (f6 : n3 = 285) (f7 : n4 ≤ 1007) (f8 : 0 ≤ n4) (f9 : n5 = 285) (f10 : (hLe T0 H0 H1 ∧ hFr s_230.2.2.2.2 H0 H1 ∧ hWt T0 H1) ∧ (Ab_230_22 n5 n4 n3 n2 n1 n0 H0 H1 ∧ preb_230 n5 n4 H0) ∧ some q0 = some (mub_230_22 n5 n4 n3 n2 n1 n0 H0 H1)) (f11 : n0 ≠ 0) (f12 : n6 ≤ 2) (f13 : 0 ≤ n6) (f14 : n6 = hV H1 (n3).toNat 13) (f15 : n6 = 0) (f16 : n7 = 2) (f17 : n8 ≤ 1) (f18 : 0 ≤ n8) (f19 : (hLe T0 H1 H2 ∧ hFr s_216.2.2.2.2 H1 H2 ∧ ((0 : Int) = 0 → H2.length = H1.length) ∧ hWt T0 H2) ∧ postb_216 n8 n3 n7 H1 H2) (f20 : n8 = 0) (f21 : n9 = 0) (f22 : n10 = 400) (f23 : n11 ≤ 9999) (f24 : 0 ≤ n11) (f25 : (hLe T0 H2 H3 ∧ hFr s_223.2.2.2.2 H2 H3 ∧ ((0 : Int) = 0 → H3.length = H2.length) ∧ hWt T0 H3) ∧ postb_223 n11 n3 n9 n10 H2 H3) (f26 : n12 ≤ 2) (f27 : 0 ≤ n12) (f28 : n12 = hV H3 (n3).toNat 13) (f29 : n12 = 0) (f30 : n13 = 6) (f31 : n14 = w32 (n13 * n2)) (f32 : n15 = 1) (f33 : n16 = w32 (n14 + n15)) (f34 : n17 = w32 (n16 + n1)) : 0 ≤ n17 ∧ n17 < 6048 := by
  have g4 := f10.2.1.1
  unfold Ab_230_22 at g4
  have g3 := f10.2.1.2
  unfold preb_230 at g3
  unfold postb_216 at f19
  unfold postb_223 at f25
  have e0 : n6 = hV H1 285 13 := (by rw [f6] at f14; exact f14 : n6 = hV H1 285 13)
  have e1 : n12 = hV H3 285 13 := (by rw [f6] at f28; exact f28 : n12 = hV H3 285 13)
  have e3 : hV H1 285 18 = hV H0 285 18 := (f10.1.2.1.1 285 18 kF_230_285_18)
  have e5 : hV H1 285 32 = hV H0 285 32 := (f10.1.2.1.1 285 32 kF_230_285_32)
  have e7 : hV H1 285 33 = hV H0 285 33 := (f10.1.2.1.1 285 33 kF_230_285_33)
  have e9 : hV H2 285 11 = hV H1 285 11 := (f19.1.2.1.1 285 11 kF_216_285_11)
  have e11 : hV H2 285 13 = hV H1 285 13 := (f19.1.2.1.1 285 13 kF_216_285_13)
  have e13 : hV H2 285 15 = hV H1 285 15 := (f19.1.2.1.1 285 15 kF_216_285_15)
  have e16 : hV H2 288 = hV H0 288 := (fRow f19.1.2.1 288 kR_216_288).trans (fRow f10.1.2.1 288 kR_230_288)
  have e18 : hV H3 288 = hV H0 288 := (fRow f25.1.2.1 288 kR_223_288).trans e16
  have e19 : (0 : Int) ≤ hV H1 285 11 ∧ hV H1 285 11 ≤ 500 := f10.1.2.2 285 11 _ _ kW_285_11
  have e20 : (0 : Int) ≤ hV H1 285 13 ∧ hV H1 285 13 ≤ 2 := f10.1.2.2 285 13 _ _ kW_285_13
  have e21 : (0 : Int) ≤ hV H1 285 15 ∧ hV H1 285 15 ≤ 6 := f10.1.2.2 285 15 _ _ kW_285_15
  have e22 : (0 : Int) ≤ hV H0 285 18 ∧ hV H0 285 18 ≤ 8 := bTo e3 (f10.1.2.2 285 18 _ _ kW_285_18)
  have e23 : (0 : Int) ≤ hV H0 285 32 ∧ hV H0 285 32 ≤ 7 := bTo e5 (f10.1.2.2 285 32 _ _ kW_285_32)
  have e24 : (0 : Int) ≤ hV H0 285 33 ∧ hV H0 285 33 ≤ 62 := bTo e7 (f10.1.2.2 285 33 _ _ kW_285_33)
  have e28 : (0 : Int) ≤ hV H3 285 11 ∧ hV H3 285 11 ≤ 500 := f25.1.2.2.2 285 11 _ _ kW_285_11
  have e29 : (0 : Int) ≤ hV H3 285 13 ∧ hV H3 285 13 ≤ 2 := f25.1.2.2.2 285 13 _ _ kW_285_13
  have e30 : (0 : Int) ≤ hV H3 285 15 ∧ hV H3 285 15 ≤ 6 := f25.1.2.2.2 285 15 _ _ kW_285_15
  have k0 := g4.1
  have y0 := g4.2.1
  have y1 := g4.2.2.1
  have y2 := g4.2.2.2.1
  have y3 := g4.2.2.2.2.1
  have y4 := g4.2.2.2.2.2.1
  have y5 := g4.2.2.2.2.2.2.1
  have y6 := g4.2.2.2.2.2.2.2.1
  have y7 := g4.2.2.2.2.2.2.2.2.1
  have y8 := g4.2.2.2.2.2.2.2.2.2.1
  have y9 := g4.2.2.2.2.2.2.2.2.2.2.1
  have y10 := g4.2.2.2.2.2.2.2.2.2.2.2
  have p0 := g3.1
  have p1 := g3.2.1
  have p2 := g3.2.2.1
  have p3 := g3.2.2.2.1
  have p4 := g3.2.2.2.2.1
  have p5 := g3.2.2.2.2.2.1
  have p6 := g3.2.2.2.2.2.2.1
  have p7 := g3.2.2.2.2.2.2.2
  have r0_0 := f19.2.1
  have r0_1 := f19.2.2
  have r1_0 := f25.2.1
  have r1_1 := f25.2.2.1
  have r1_2 := f25.2.2.2.1
  have r1_3 := f25.2.2.2.2.1
  have r1_4 := f25.2.2.2.2.2.1
  have r1_5 := f25.2.2.2.2.2.2.1
  have r1_6 := f25.2.2.2.2.2.2.2.1
  have r1_7 := f25.2.2.2.2.2.2.2.2
  try simp only [e11] at r0_0
  try simp only [e9, e11, e16] at r0_1
  try simp only [e9] at r1_0
  try simp only [e9] at r1_1
  try simp only [e11] at r1_2
  try simp only [e9] at r1_3
  try simp only [e13] at r1_4
  try simp only [e9, e18] at r1_7
  clear g3
  clear g4
  have wb0 := (p7 (hV H0 285 32).toNat).1
  have wp0 := (p7 (hV H0 285 33).toNat).2
  try simp only [e3, e5, e7] at wb0
  try simp only [e3, e5, e7] at wp0
  clear f14 f28 e3 e5 e7 e9 e11 e13 e16 e18
  clear f10 f19 f25
  subst e0
  subst e1
  rw [f30] at f31
  first
  | (have ix0 : n14 = 6 * n2 := Eq.trans f31 (w32_iv (Iml 6 rfl (Iat f5 f4)) (by decide)); subst ix0; clear f31)
  | (have ix0 : n14 = 6 * n2 := Eq.trans f31 (w32_id (by omega) (by omega)); subst ix0; clear f31)
  | (unfold w32 at f31; have ix0 : n14 = 6 * n2 := (by omega); subst ix0)
  | skip
  first
  | (have ix1 : n16 = (6 * n2) + 1 := Eq.trans f33 (w32_iv (Iad (Iml 6 rfl (Iat f5 f4)) (IC 1)) (by decide)); subst ix1; clear f33)
  | (have ix1 : n16 = (6 * n2) + 1 := Eq.trans f33 (w32_id (by omega) (by omega)); subst ix1; clear f33)
  | (unfold w32 at f33; have ix1 : n16 = (6 * n2) + 1 := (by omega); subst ix1)
  | skip
  first
  | (have ix2 : n17 = ((6 * n2) + 1) + n1 := Eq.trans f34 (w32_iv (Iad (Iad (Iml 6 rfl (Iat f5 f4)) (IC 1)) (Iat f3 f2)) (by decide)); subst ix2; clear f34)
  | (have ix2 : n17 = ((6 * n2) + 1) + n1 := Eq.trans f34 (w32_id (by omega) (by omega)); subst ix2; clear f34)
  | (unfold w32 at f34; have ix2 : n17 = ((6 * n2) + 1) + n1 := (by omega); subst ix2)
  | skip
  try unfold w32 at f31
  try unfold w32 at f33
  try unfold w32 at f34

  (try clear y0 y1 p0 p5 p7)
  omega
def g_230_22_10 : vG := ([(1, [18, 17, 4], [], 0), (1, [17, 15, 16], [], 0), (0, [16], [], 1), (3, [15, 14, 3], [], 0), (0, [14], [], 6), (30, [12], [], 0), (20, [12, 2], [3], 13), (90, [12], [], 0), (91, [12], [], 2), (1223, [11, 2, 9, 10], [2, 3], 0), (90, [11], [], 0), (91, [11], [], 9999), (0, [10], [], 400), (0, [9], [], 0), (30, [8], [], 0), (1216, [8, 2, 7], [1, 2], 0), (90, [8], [], 0), (91, [8], [], 1), (0, [7], [], 2), (30, [6], [], 0), (20, [6, 2], [1], 13), (90, [6], [], 0), (91, [6], [], 2), (31, [5], [], 0), (5000, [0, 1, 2, 3, 4, 5], [0, 1], 22), (0, [0], [], 285), (90, [1], [], 0), (91, [1], [], 1007), (0, [2], [], 285), (90, [3], [], 0), (91, [3], [], 1007), (90, [4], [], 0), (91, [4], [], 5), (90, [5], [], 0), (91, [5], [], 1)], (70, [18], [], 6048))
theorem c_230_22_10 {q0 : Nat} : vOkm T0 (eP e_230 L_230 A_230 mu_230 (some q0)) 2 g_230_22_10 := vOk_inI fun ρ η f0 f1 f2 f3 f4 f5 f6 f7 f8 f9 f10 f11 f12 f13 f14 f15 f16 f17 f18 f19 f20 f21 f22 f23 f24 f25 f26 f27 f28 f29 f30 f31 f32 f33 f34 => q_230_9 (q0 := q0) (n0 := ρ 5) (n1 := ρ 4) (n2 := ρ 3) (n3 := ρ 2) (n4 := ρ 1) (n5 := ρ 0) (n6 := ρ 6) (n7 := ρ 7) (n8 := ρ 8) (n9 := ρ 9) (n10 := ρ 10) (n11 := ρ 11) (n12 := ρ 12) (n13 := ρ 14) (n14 := ρ 15) (n15 := ρ 16) (n16 := ρ 17) (n17 := ρ 18) (H0 := η 0) (H1 := η 1) (H2 := η 2) (H3 := η 3) f34 f33 f32 f31 f30 f29 f28 f27 f26 f25 f24 f23 f22 f21 f20 f19 f18 f17 f16 f15 f14 f13 f12 f11 f10 f9 f8 f7 f6 f5 f4 f3 f2 f1 f0
set_option maxHeartbeats 20000000 in
theorem q_230_10 {q0 : Nat} {n0 n1 n2 n3 n4 n5 n6 n7 n8 n9 n10 n11 n12 n13 n14 n15 n16 n17 n18 : Int} {H0 H1 H2 H3 : gH} (f0 : n0 ≤ 1) (f1 : 0 ≤ n0) (f2 : n1 ≤ 5) (f3 : 0 ≤ n1) (f4 : n2 ≤ 1007) (f5 : 0 ≤ n2) (f6 : n3 = 285) (f7 : n4 ≤ 1007) (f8 : 0 ≤ n4) (f9 : n5 = 285) (f10 : (hLe T0 H0 H1 ∧ hFr s_230.2.2.2.2 H0 H1 ∧ hWt T0 H1) ∧ (Ab_230_22 n5 n4 n3 n2 n1 n0 H0 H1 ∧ preb_230 n5 n4 H0) ∧ some q0 = some (mub_230_22 n5 n4 n3 n2 n1 n0 H0 H1)) (f11 : n0 ≠ 0) (f12 : n6 ≤ 2) (f13 : 0 ≤ n6) (f14 : n6 = hV H1 (n3).toNat 13) (f15 : n6 = 0) (f16 : n7 = 2) (f17 : n8 ≤ 1) (f18 : 0 ≤ n8) (f19 : (hLe T0 H1 H2 ∧ hFr s_216.2.2.2.2 H1 H2 ∧ ((0 : Int) = 0 → H2.length = H1.length) ∧ hWt T0 H2) ∧ postb_216 n8 n3 n7 H1 H2) (f20 : n8 = 0) (f21 : n9 = 0) (f22 : n10 = 400) (f23 : n11 ≤ 9999) (f24 : 0 ≤ n11) (f25 : (hLe T0 H2 H3 ∧ hFr s_223.2.2.2.2 H2 H3 ∧ ((0 : Int) = 0 → H3.length = H2.length) ∧ hWt T0 H3) ∧ postb_223 n11 n3 n9 n10 H2 H3) (f26 : n12 ≤ 2) (f27 : 0 ≤ n12) (f28 : n12 = hV H3 (n3).toNat 13) (f29 : n12 = 0) (f30 : n13 = 6) (f31 : n14 = w32 (n13 * n2)) (f32 : n15 = 1) (f33 : n16 = w32 (n14 + n15)) (f34 : n17 = w32 (n16 + n1)) (f35 : n18 = w32 (n1 + 1)) : 0 ≤ n18 := by
  have g4 := f10.2.1.1
  unfold Ab_230_22 at g4
  have g3 := f10.2.1.2
  unfold preb_230 at g3
  unfold postb_216 at f19
  unfold postb_223 at f25
  have e0 : n6 = hV H1 285 13 := (by rw [f6] at f14; exact f14 : n6 = hV H1 285 13)
  have e1 : n12 = hV H3 285 13 := (by rw [f6] at f28; exact f28 : n12 = hV H3 285 13)
  have e3 : hV H1 285 18 = hV H0 285 18 := (f10.1.2.1.1 285 18 kF_230_285_18)
  have e5 : hV H1 285 32 = hV H0 285 32 := (f10.1.2.1.1 285 32 kF_230_285_32)
  have e7 : hV H1 285 33 = hV H0 285 33 := (f10.1.2.1.1 285 33 kF_230_285_33)
  have e9 : hV H2 285 11 = hV H1 285 11 := (f19.1.2.1.1 285 11 kF_216_285_11)
  have e11 : hV H2 285 13 = hV H1 285 13 := (f19.1.2.1.1 285 13 kF_216_285_13)
  have e13 : hV H2 285 15 = hV H1 285 15 := (f19.1.2.1.1 285 15 kF_216_285_15)
  have e16 : hV H2 288 = hV H0 288 := (fRow f19.1.2.1 288 kR_216_288).trans (fRow f10.1.2.1 288 kR_230_288)
  have e18 : hV H3 288 = hV H0 288 := (fRow f25.1.2.1 288 kR_223_288).trans e16
  have e19 : (0 : Int) ≤ hV H1 285 11 ∧ hV H1 285 11 ≤ 500 := f10.1.2.2 285 11 _ _ kW_285_11
  have e20 : (0 : Int) ≤ hV H1 285 13 ∧ hV H1 285 13 ≤ 2 := f10.1.2.2 285 13 _ _ kW_285_13
  have e21 : (0 : Int) ≤ hV H1 285 15 ∧ hV H1 285 15 ≤ 6 := f10.1.2.2 285 15 _ _ kW_285_15
  have e22 : (0 : Int) ≤ hV H0 285 18 ∧ hV H0 285 18 ≤ 8 := bTo e3 (f10.1.2.2 285 18 _ _ kW_285_18)
  have e23 : (0 : Int) ≤ hV H0 285 32 ∧ hV H0 285 32 ≤ 7 := bTo e5 (f10.1.2.2 285 32 _ _ kW_285_32)
  have e24 : (0 : Int) ≤ hV H0 285 33 ∧ hV H0 285 33 ≤ 62 := bTo e7 (f10.1.2.2 285 33 _ _ kW_285_33)
  have e28 : (0 : Int) ≤ hV H3 285 11 ∧ hV H3 285 11 ≤ 500 := f25.1.2.2.2 285 11 _ _ kW_285_11
  have e29 : (0 : Int) ≤ hV H3 285 13 ∧ hV H3 285 13 ≤ 2 := f25.1.2.2.2 285 13 _ _ kW_285_13
  have e30 : (0 : Int) ≤ hV H3 285 15 ∧ hV H3 285 15 ≤ 6 := f25.1.2.2.2 285 15 _ _ kW_285_15
  have k0 := g4.1
  have y0 := g4.2.1
  have y1 := g4.2.2.1
  have y2 := g4.2.2.2.1
  have y3 := g4.2.2.2.2.1
  have y4 := g4.2.2.2.2.2.1
  have y5 := g4.2.2.2.2.2.2.1
  have y6 := g4.2.2.2.2.2.2.2.1
  have y7 := g4.2.2.2.2.2.2.2.2.1
  have y8 := g4.2.2.2.2.2.2.2.2.2.1
  have y9 := g4.2.2.2.2.2.2.2.2.2.2.1
  have y10 := g4.2.2.2.2.2.2.2.2.2.2.2
  have p0 := g3.1
  have p1 := g3.2.1
  have p2 := g3.2.2.1
  have p3 := g3.2.2.2.1
  have p4 := g3.2.2.2.2.1
  have p5 := g3.2.2.2.2.2.1
  have p6 := g3.2.2.2.2.2.2.1
  have p7 := g3.2.2.2.2.2.2.2
  have r0_0 := f19.2.1
  have r0_1 := f19.2.2
  have r1_0 := f25.2.1
  have r1_1 := f25.2.2.1
  have r1_2 := f25.2.2.2.1
  have r1_3 := f25.2.2.2.2.1
  have r1_4 := f25.2.2.2.2.2.1
  have r1_5 := f25.2.2.2.2.2.2.1
  have r1_6 := f25.2.2.2.2.2.2.2.1
  have r1_7 := f25.2.2.2.2.2.2.2.2
  try simp only [e11] at r0_0
  try simp only [e9, e11, e16] at r0_1
  try simp only [e9] at r1_0
  try simp only [e9] at r1_1
  try simp only [e11] at r1_2
  try simp only [e9] at r1_3
  try simp only [e13] at r1_4
  try simp only [e9, e18] at r1_7
  clear g3
  clear g4
  have wb0 := (p7 (hV H0 285 32).toNat).1
  have wp0 := (p7 (hV H0 285 33).toNat).2
  try simp only [e3, e5, e7] at wb0
  try simp only [e3, e5, e7] at wp0
  clear f14 f28 e3 e5 e7 e9 e11 e13 e16 e18
  clear f10 f19 f25
  subst e0
  subst e1
  rw [f30] at f31
  first
  | (have ix0 : n18 = n1 + 1 := Eq.trans f35 (w32_iv (Iad (Iat f3 f2) (IC 1)) (by decide)); subst ix0; clear f35)
  | (have ix0 : n18 = n1 + 1 := Eq.trans f35 (w32_id (by omega) (by omega)); subst ix0; clear f35)
  | (unfold w32 at f35; have ix0 : n18 = n1 + 1 := (by omega); subst ix0)
  | skip
  try unfold w32 at f31
  try unfold w32 at f33
  try unfold w32 at f34
  try unfold w32 at f35

  (try clear y0 y1 p0 p5 p7)
  omega
def g_230_22_11 : vG := ([(10, [19, 4], [], 1), (1, [18, 17, 4], [], 0), (1, [17, 15, 16], [], 0), (0, [16], [], 1), (3, [15, 14, 3], [], 0), (0, [14], [], 6), (30, [12], [], 0), (20, [12, 2], [3], 13), (90, [12], [], 0), (91, [12], [], 2), (1223, [11, 2, 9, 10], [2, 3], 0), (90, [11], [], 0), (91, [11], [], 9999), (0, [10], [], 400), (0, [9], [], 0), (30, [8], [], 0), (1216, [8, 2, 7], [1, 2], 0), (90, [8], [], 0), (91, [8], [], 1), (0, [7], [], 2), (30, [6], [], 0), (20, [6, 2], [1], 13), (90, [6], [], 0), (91, [6], [], 2), (31, [5], [], 0), (5000, [0, 1, 2, 3, 4, 5], [0, 1], 22), (0, [0], [], 285), (90, [1], [], 0), (91, [1], [], 1007), (0, [2], [], 285), (90, [3], [], 0), (91, [3], [], 1007), (90, [4], [], 0), (91, [4], [], 5), (90, [5], [], 0), (91, [5], [], 1)], (90, [19], [], 0))
theorem c_230_22_11 {q0 : Nat} : vOkm T0 (eP e_230 L_230 A_230 mu_230 (some q0)) 2 g_230_22_11 := vOk_inI fun ρ η f0 f1 f2 f3 f4 f5 f6 f7 f8 f9 f10 f11 f12 f13 f14 f15 f16 f17 f18 f19 f20 f21 f22 f23 f24 f25 f26 f27 f28 f29 f30 f31 f32 f33 f34 f35 => q_230_10 (q0 := q0) (n0 := ρ 5) (n1 := ρ 4) (n2 := ρ 3) (n3 := ρ 2) (n4 := ρ 1) (n5 := ρ 0) (n6 := ρ 6) (n7 := ρ 7) (n8 := ρ 8) (n9 := ρ 9) (n10 := ρ 10) (n11 := ρ 11) (n12 := ρ 12) (n13 := ρ 14) (n14 := ρ 15) (n15 := ρ 16) (n16 := ρ 17) (n17 := ρ 18) (n18 := ρ 19) (H0 := η 0) (H1 := η 1) (H2 := η 2) (H3 := η 3) f35 f34 f33 f32 f31 f30 f29 f28 f27 f26 f25 f24 f23 f22 f21 f20 f19 f18 f17 f16 f15 f14 f13 f12 f11 f10 f9 f8 f7 f6 f5 f4 f3 f2 f1 f0
set_option maxHeartbeats 20000000 in
theorem q_230_11 {q0 : Nat} {n0 n1 n2 n3 n4 n5 n6 n7 n8 n9 n10 n11 n12 n13 n14 n15 n16 n17 n18 : Int} {H0 H1 H2 H3 : gH} (f0 : n0 ≤ 1) (f1 : 0 ≤ n0) (f2 : n1 ≤ 5) (f3 : 0 ≤ n1) (f4 : n2 ≤ 1007) (f5 : 0 ≤ n2) (f6 : n3 = 285) (f7 : n4 ≤ 1007) (f8 : 0 ≤ n4) (f9 : n5 = 285) (f10 : (hLe T0 H0 H1 ∧ hFr s_230.2.2.2.2 H0 H1 ∧ hWt T0 H1) ∧ (Ab_230_22 n5 n4 n3 n2 n1 n0 H0 H1 ∧ preb_230 n5 n4 H0) ∧ some q0 = some (mub_230_22 n5 n4 n3 n2 n1 n0 H0 H1)) (f11 : n0 ≠ 0) (f12 : n6 ≤ 2) (f13 : 0 ≤ n6) (f14 : n6 = hV H1 (n3).toNat 13) (f15 : n6 = 0) (f16 : n7 = 2) (f17 : n8 ≤ 1) (f18 : 0 ≤ n8) (f19 : (hLe T0 H1 H2 ∧ hFr s_216.2.2.2.2 H1 H2 ∧ ((0 : Int) = 0 → H2.length = H1.length) ∧ hWt T0 H2) ∧ postb_216 n8 n3 n7 H1 H2) (f20 : n8 = 0) (f21 : n9 = 0) (f22 : n10 = 400) (f23 : n11 ≤ 9999) (f24 : 0 ≤ n11) (f25 : (hLe T0 H2 H3 ∧ hFr s_223.2.2.2.2 H2 H3 ∧ ((0 : Int) = 0 → H3.length = H2.length) ∧ hWt T0 H3) ∧ postb_223 n11 n3 n9 n10 H2 H3) (f26 : n12 ≤ 2) (f27 : 0 ≤ n12) (f28 : n12 = hV H3 (n3).toNat 13) (f29 : n12 = 0) (f30 : n13 = 6) (f31 : n14 = w32 (n13 * n2)) (f32 : n15 = 1) (f33 : n16 = w32 (n14 + n15)) (f34 : n17 = w32 (n16 + n1)) (f35 : n18 = w32 (n1 + 1)) : n18 ≤ 5 := by
  have g4 := f10.2.1.1
  unfold Ab_230_22 at g4
  have g3 := f10.2.1.2
  unfold preb_230 at g3
  unfold postb_216 at f19
  unfold postb_223 at f25
  have e0 : n6 = hV H1 285 13 := (by rw [f6] at f14; exact f14 : n6 = hV H1 285 13)
  have e1 : n12 = hV H3 285 13 := (by rw [f6] at f28; exact f28 : n12 = hV H3 285 13)
  have e3 : hV H1 285 18 = hV H0 285 18 := (f10.1.2.1.1 285 18 kF_230_285_18)
  have e5 : hV H1 285 32 = hV H0 285 32 := (f10.1.2.1.1 285 32 kF_230_285_32)
  have e7 : hV H1 285 33 = hV H0 285 33 := (f10.1.2.1.1 285 33 kF_230_285_33)
  have e9 : hV H2 285 11 = hV H1 285 11 := (f19.1.2.1.1 285 11 kF_216_285_11)
  have e11 : hV H2 285 13 = hV H1 285 13 := (f19.1.2.1.1 285 13 kF_216_285_13)
  have e13 : hV H2 285 15 = hV H1 285 15 := (f19.1.2.1.1 285 15 kF_216_285_15)
  have e16 : hV H2 288 = hV H0 288 := (fRow f19.1.2.1 288 kR_216_288).trans (fRow f10.1.2.1 288 kR_230_288)
  have e18 : hV H3 288 = hV H0 288 := (fRow f25.1.2.1 288 kR_223_288).trans e16
  have e19 : (0 : Int) ≤ hV H1 285 11 ∧ hV H1 285 11 ≤ 500 := f10.1.2.2 285 11 _ _ kW_285_11
  have e20 : (0 : Int) ≤ hV H1 285 13 ∧ hV H1 285 13 ≤ 2 := f10.1.2.2 285 13 _ _ kW_285_13
  have e21 : (0 : Int) ≤ hV H1 285 15 ∧ hV H1 285 15 ≤ 6 := f10.1.2.2 285 15 _ _ kW_285_15
  have e22 : (0 : Int) ≤ hV H0 285 18 ∧ hV H0 285 18 ≤ 8 := bTo e3 (f10.1.2.2 285 18 _ _ kW_285_18)
  have e23 : (0 : Int) ≤ hV H0 285 32 ∧ hV H0 285 32 ≤ 7 := bTo e5 (f10.1.2.2 285 32 _ _ kW_285_32)
  have e24 : (0 : Int) ≤ hV H0 285 33 ∧ hV H0 285 33 ≤ 62 := bTo e7 (f10.1.2.2 285 33 _ _ kW_285_33)
  have e28 : (0 : Int) ≤ hV H3 285 11 ∧ hV H3 285 11 ≤ 500 := f25.1.2.2.2 285 11 _ _ kW_285_11
  have e29 : (0 : Int) ≤ hV H3 285 13 ∧ hV H3 285 13 ≤ 2 := f25.1.2.2.2 285 13 _ _ kW_285_13
  have e30 : (0 : Int) ≤ hV H3 285 15 ∧ hV H3 285 15 ≤ 6 := f25.1.2.2.2 285 15 _ _ kW_285_15
  have k0 := g4.1
  have y0 := g4.2.1
  have y1 := g4.2.2.1
  have y2 := g4.2.2.2.1
  have y3 := g4.2.2.2.2.1
  have y4 := g4.2.2.2.2.2.1
  have y5 := g4.2.2.2.2.2.2.1
  have y6 := g4.2.2.2.2.2.2.2.1
  have y7 := g4.2.2.2.2.2.2.2.2.1
  have y8 := g4.2.2.2.2.2.2.2.2.2.1
  have y9 := g4.2.2.2.2.2.2.2.2.2.2.1
  have y10 := g4.2.2.2.2.2.2.2.2.2.2.2
  have p0 := g3.1
  have p1 := g3.2.1
  have p2 := g3.2.2.1
  have p3 := g3.2.2.2.1
  have p4 := g3.2.2.2.2.1
  have p5 := g3.2.2.2.2.2.1
  have p6 := g3.2.2.2.2.2.2.1
  have p7 := g3.2.2.2.2.2.2.2
  have r0_0 := f19.2.1
  have r0_1 := f19.2.2
  have r1_0 := f25.2.1
  have r1_1 := f25.2.2.1
  have r1_2 := f25.2.2.2.1
  have r1_3 := f25.2.2.2.2.1
  have r1_4 := f25.2.2.2.2.2.1
  have r1_5 := f25.2.2.2.2.2.2.1
  have r1_6 := f25.2.2.2.2.2.2.2.1
  have r1_7 := f25.2.2.2.2.2.2.2.2
  try simp only [e11] at r0_0
  try simp only [e9, e11, e16] at r0_1
  try simp only [e9] at r1_0
  try simp only [e9] at r1_1
  try simp only [e11] at r1_2
  try simp only [e9] at r1_3
  try simp only [e13] at r1_4
  try simp only [e9, e18] at r1_7
  clear g3
  clear g4
  have wb0 := (p7 (hV H0 285 32).toNat).1
  have wp0 := (p7 (hV H0 285 33).toNat).2
  try simp only [e3, e5, e7] at wb0
  try simp only [e3, e5, e7] at wp0
  clear f14 f28 e3 e5 e7 e9 e11 e13 e16 e18
  clear f10 f19 f25
  subst e0
  subst e1
  rw [f30] at f31
  first
  | (have ix0 : n18 = n1 + 1 := Eq.trans f35 (w32_iv (Iad (Iat f3 f2) (IC 1)) (by decide)); subst ix0; clear f35)
  | (have ix0 : n18 = n1 + 1 := Eq.trans f35 (w32_id (by omega) (by omega)); subst ix0; clear f35)
  | (unfold w32 at f35; have ix0 : n18 = n1 + 1 := (by omega); subst ix0)
  | skip
  try unfold w32 at f31
  try unfold w32 at f33
  try unfold w32 at f34
  try unfold w32 at f35

  (try clear y0 y1 p0 p5 p7)
  omega
def g_230_22_12 : vG := ([(10, [19, 4], [], 1), (1, [18, 17, 4], [], 0), (1, [17, 15, 16], [], 0), (0, [16], [], 1), (3, [15, 14, 3], [], 0), (0, [14], [], 6), (30, [12], [], 0), (20, [12, 2], [3], 13), (90, [12], [], 0), (91, [12], [], 2), (1223, [11, 2, 9, 10], [2, 3], 0), (90, [11], [], 0), (91, [11], [], 9999), (0, [10], [], 400), (0, [9], [], 0), (30, [8], [], 0), (1216, [8, 2, 7], [1, 2], 0), (90, [8], [], 0), (91, [8], [], 1), (0, [7], [], 2), (30, [6], [], 0), (20, [6, 2], [1], 13), (90, [6], [], 0), (91, [6], [], 2), (31, [5], [], 0), (5000, [0, 1, 2, 3, 4, 5], [0, 1], 22), (0, [0], [], 285), (90, [1], [], 0), (91, [1], [], 1007), (0, [2], [], 285), (90, [3], [], 0), (91, [3], [], 1007), (90, [4], [], 0), (91, [4], [], 5), (90, [5], [], 0), (91, [5], [], 1)], (91, [19], [], 5))
theorem c_230_22_12 {q0 : Nat} : vOkm T0 (eP e_230 L_230 A_230 mu_230 (some q0)) 2 g_230_22_12 := vOk_inI fun ρ η f0 f1 f2 f3 f4 f5 f6 f7 f8 f9 f10 f11 f12 f13 f14 f15 f16 f17 f18 f19 f20 f21 f22 f23 f24 f25 f26 f27 f28 f29 f30 f31 f32 f33 f34 f35 => q_230_11 (q0 := q0) (n0 := ρ 5) (n1 := ρ 4) (n2 := ρ 3) (n3 := ρ 2) (n4 := ρ 1) (n5 := ρ 0) (n6 := ρ 6) (n7 := ρ 7) (n8 := ρ 8) (n9 := ρ 9) (n10 := ρ 10) (n11 := ρ 11) (n12 := ρ 12) (n13 := ρ 14) (n14 := ρ 15) (n15 := ρ 16) (n16 := ρ 17) (n17 := ρ 18) (n18 := ρ 19) (H0 := η 0) (H1 := η 1) (H2 := η 2) (H3 := η 3) f35 f34 f33 f32 f31 f30 f29 f28 f27 f26 f25 f24 f23 f22 f21 f20 f19 f18 f17 f16 f15 f14 f13 f12 f11 f10 f9 f8 f7 f6 f5 f4 f3 f2 f1 f0
set_option maxHeartbeats 20000000 in
theorem kR_216_294 : vFreeR s_216.2.2.2.2 294 = true := by decide +kernel
theorem kR_216_296 : vFreeR s_216.2.2.2.2 296 = true := by decide +kernel
theorem kR_216_297 : vFreeR s_216.2.2.2.2 297 = true := by decide +kernel
theorem kR_216_298 : vFreeR s_216.2.2.2.2 298 = true := by decide +kernel
theorem kR_216_305 : vFreeR s_216.2.2.2.2 305 = true := by decide +kernel
theorem kR_216_328 : vFreeR s_216.2.2.2.2 328 = true := by decide +kernel
theorem kR_216_332 : vFreeR s_216.2.2.2.2 332 = true := by decide +kernel
theorem kR_216_335 : vFreeR s_216.2.2.2.2 335 = true := by decide +kernel
theorem kF_216_285_18 : vFree s_216.2.2.2.2 285 18 = true := by decide +kernel
theorem kF_216_285_32 : vFree s_216.2.2.2.2 285 32 = true := by decide +kernel
theorem kF_216_285_33 : vFree s_216.2.2.2.2 285 33 = true := by decide +kernel
theorem kF_216_285_64 : vFree s_216.2.2.2.2 285 64 = true := by decide +kernel
theorem q_230_12 {q0 : Nat} {n0 n1 n2 n3 n4 n5 n6 n7 n8 n9 n10 n11 n12 n13 n14 n15 n16 n17 n18 n19 n20 n21 : Int} {H0 H1 H2 H3 H4 H5 : gH} (f0 : n0 ≤ 1) (f1 : 0 ≤ n0) (f2 : n1 ≤ 5) (f3 : 0 ≤ n1) (f4 : n2 ≤ 1007) (f5 : 0 ≤ n2) (f6 : n3 = 285) (f7 : n4 ≤ 1007) (f8 : 0 ≤ n4) (f9 : n5 = 285) (f10 : (hLe T0 H0 H1 ∧ hFr s_230.2.2.2.2 H0 H1 ∧ hWt T0 H1) ∧ (Ab_230_22 n5 n4 n3 n2 n1 n0 H0 H1 ∧ preb_230 n5 n4 H0) ∧ some q0 = some (mub_230_22 n5 n4 n3 n2 n1 n0 H0 H1)) (f11 : n0 ≠ 0) (f12 : n6 ≤ 2) (f13 : 0 ≤ n6) (f14 : n6 = hV H1 (n3).toNat 13) (f15 : n6 = 0) (f16 : n7 = 2) (f17 : n8 ≤ 1) (f18 : 0 ≤ n8) (f19 : (hLe T0 H1 H2 ∧ hFr s_216.2.2.2.2 H1 H2 ∧ ((0 : Int) = 0 → H2.length = H1.length) ∧ hWt T0 H2) ∧ postb_216 n8 n3 n7 H1 H2) (f20 : n8 = 0) (f21 : n9 = 0) (f22 : n10 = 400) (f23 : n11 ≤ 9999) (f24 : 0 ≤ n11) (f25 : (hLe T0 H2 H3 ∧ hFr s_223.2.2.2.2 H2 H3 ∧ ((0 : Int) = 0 → H3.length = H2.length) ∧ hWt T0 H3) ∧ postb_223 n11 n3 n9 n10 H2 H3) (f26 : n12 ≤ 2) (f27 : 0 ≤ n12) (f28 : n12 = hV H3 (n3).toNat 13) (f29 : n12 = 0) (f30 : n13 = 305) (f31 : n13 = hV H3 (n3).toNat 31) (f32 : n14 = 6) (f33 : n15 = w32 (n14 * n2)) (f34 : n16 = 1) (f35 : n17 = w32 (n15 + n16)) (f36 : n18 = w32 (n17 + n1)) (f37 : hUpd H4 H3 n13 n18 n11) (f38 : n19 = w32 (n1 + 1)) (f39 : n20 = 5) (f40 : n21 ≤ 1) (f41 : 0 ≤ n21) (f42 : (hLe T0 H4 H5 ∧ hFr s_216.2.2.2.2 H4 H5 ∧ ((0 : Int) = 0 → H5.length = H4.length) ∧ hWt T0 H5) ∧ postb_216 n21 n3 n20 H4 H5) (f43 : n21 = 0) : Ab_230_22 n5 n4 n3 n2 n19 n21 H0 H5 ∧ ∀ q, some q0 = some q → mub_230_22 n5 n4 n3 n2 n19 n21 H0 H5 < q := by
  have g4 := f10.2.1.1
  unfold Ab_230_22 at g4
  have g3 := f10.2.1.2
  unfold preb_230 at g3
  have g5 := Option.some.inj f10.2.2
  unfold mub_230_22 at g5
  unfold postb_216 at f19
  unfold postb_223 at f25
  unfold postb_216 at f42
  unfold Ab_230_22
  unfold mub_230_22
  have e0 : n6 = hV H1 285 13 := (by rw [f6] at f14; exact f14 : n6 = hV H1 285 13)
  have e1 : n12 = hV H3 285 13 := (by rw [f6] at f28; exact f28 : n12 = hV H3 285 13)
  have e3 : hV H1 285 18 = hV H0 285 18 := (f10.1.2.1.1 285 18 kF_230_285_18)
  have e5 : hV H1 285 32 = hV H0 285 32 := (f10.1.2.1.1 285 32 kF_230_285_32)
  have e7 : hV H1 285 33 = hV H0 285 33 := (f10.1.2.1.1 285 33 kF_230_285_33)
  have e9 : hV H1 285 64 = hV H0 285 64 := (f10.1.2.1.1 285 64 kF_230_285_64)
  have e10 : hV H1 294 = hV H0 294 := fRow f10.1.2.1 294 kR_230_294
  have e11 : hV H1 296 = hV H0 296 := fRow f10.1.2.1 296 kR_230_296
  have e12 : hV H1 297 = hV H0 297 := fRow f10.1.2.1 297 kR_230_297
  have e13 : hV H1 298 = hV H0 298 := fRow f10.1.2.1 298 kR_230_298
  have e14 : hV H1 301 = hV H0 301 := fRow f10.1.2.1 301 kR_230_301
  have e15 : hV H1 302 = hV H0 302 := fRow f10.1.2.1 302 kR_230_302
  have e16 : hV H1 303 = hV H0 303 := fRow f10.1.2.1 303 kR_230_303
  have e17 : hV H1 328 = hV H0 328 := fRow f10.1.2.1 328 kR_230_328
  have e18 : hV H1 332 = hV H0 332 := fRow f10.1.2.1 332 kR_230_332
  have e19 : hV H1 335 = hV H0 335 := fRow f10.1.2.1 335 kR_230_335
  have e21 : hV H2 285 11 = hV H1 285 11 := (f19.1.2.1.1 285 11 kF_216_285_11)
  have e23 : hV H2 285 13 = hV H1 285 13 := (f19.1.2.1.1 285 13 kF_216_285_13)
  have e25 : hV H2 285 15 = hV H1 285 15 := (f19.1.2.1.1 285 15 kF_216_285_15)
  have e28 : hV H2 288 = hV H0 288 := (fRow f19.1.2.1 288 kR_216_288).trans (fRow f10.1.2.1 288 kR_230_288)
  have e30 : hV H3 288 = hV H0 288 := (fRow f25.1.2.1 288 kR_223_288).trans e28
  have e33 : hV H5 285 11 = hV H3 285 11 := ((f42.1.2.1.1 285 11 kF_216_285_11)).trans (uPlace f37 285 11 (iS (show n13 = ((305 : Nat) : Int) from f30) rfl))
  have e36 : hV H5 285 13 = hV H3 285 13 := ((f42.1.2.1.1 285 13 kF_216_285_13)).trans (uPlace f37 285 13 (iS (show n13 = ((305 : Nat) : Int) from f30) rfl))
  have e39 : hV H5 285 15 = hV H3 285 15 := ((f42.1.2.1.1 285 15 kF_216_285_15)).trans (uPlace f37 285 15 (iS (show n13 = ((305 : Nat) : Int) from f30) rfl))
  have e44 : hV H5 285 18 = hV H0 285 18 := ((f42.1.2.1.1 285 18 kF_216_285_18)).trans (((uPlace f37 285 18 (iS (show n13 = ((305 : Nat) : Int) from f30) rfl))).trans (((f25.1.2.1.1 285 18 kF_223_285_18)).trans (((f19.1.2.1.1 285 18 kF_216_285_18)).trans (f10.1.2.1.1 285 18 kF_230_285_18))))
  have e49 : hV H5 285 32 = hV H0 285 32 := ((f42.1.2.1.1 285 32 kF_216_285_32)).trans (((uPlace f37 285 32 (iS (show n13 = ((305 : Nat) : Int) from f30) rfl))).trans (((f25.1.2.1.1 285 32 kF_223_285_32)).trans (((f19.1.2.1.1 285 32 kF_216_285_32)).trans (f10.1.2.1.1 285 32 kF_230_285_32))))
  have e54 : hV H5 285 33 = hV H0 285 33 := ((f42.1.2.1.1 285 33 kF_216_285_33)).trans (((uPlace f37 285 33 (iS (show n13 = ((305 : Nat) : Int) from f30) rfl))).trans (((f25.1.2.1.1 285 33 kF_223_285_33)).trans (((f19.1.2.1.1 285 33 kF_216_285_33)).trans (f10.1.2.1.1 285 33 kF_230_285_33))))
  have e59 : hV H5 285 64 = hV H0 285 64 := ((f42.1.2.1.1 285 64 kF_216_285_64)).trans (((uPlace f37 285 64 (iS (show n13 = ((305 : Nat) : Int) from f30) rfl))).trans (((f25.1.2.1.1 285 64 kF_223_285_64)).trans (((f19.1.2.1.1 285 64 kF_216_285_64)).trans (f10.1.2.1.1 285 64 kF_230_285_64))))
  have e63 : hV H5 288 = hV H0 288 := (fRow f42.1.2.1 288 kR_216_288).trans ((uRowNe f37 288 (iS (show n13 = ((305 : Nat) : Int) from f30) rfl)).trans e30)
  have e71 : hV H5 294 = hV H0 294 := (fRow f42.1.2.1 294 kR_216_294).trans ((uRowNe f37 294 (iS (show n13 = ((305 : Nat) : Int) from f30) rfl)).trans ((fRow f25.1.2.1 294 kR_223_294).trans ((fRow f19.1.2.1 294 kR_216_294).trans e10)))
  have e79 : hV H5 296 = hV H0 296 := (fRow f42.1.2.1 296 kR_216_296).trans ((uRowNe f37 296 (iS (show n13 = ((305 : Nat) : Int) from f30) rfl)).trans ((fRow f25.1.2.1 296 kR_223_296).trans ((fRow f19.1.2.1 296 kR_216_296).trans e11)))
  have e87 : hV H5 297 = hV H0 297 := (fRow f42.1.2.1 297 kR_216_297).trans ((uRowNe f37 297 (iS (show n13 = ((305 : Nat) : Int) from f30) rfl)).trans ((fRow f25.1.2.1 297 kR_223_297).trans ((fRow f19.1.2.1 297 kR_216_297).trans e12)))
  have e95 : hV H5 298 = hV H0 298 := (fRow f42.1.2.1 298 kR_216_298).trans ((uRowNe f37 298 (iS (show n13 = ((305 : Nat) : Int) from f30) rfl)).trans ((fRow f25.1.2.1 298 kR_223_298).trans ((fRow f19.1.2.1 298 kR_216_298).trans e13)))
  have e102 : hV H5 300 = hV H1 300 := (fRow f42.1.2.1 300 kR_216_300).trans ((uRowNe f37 300 (iS (show n13 = ((305 : Nat) : Int) from f30) rfl)).trans ((fRow f25.1.2.1 300 kR_223_300).trans (fRow f19.1.2.1 300 kR_216_300)))
  have e110 : hV H5 301 = hV H0 301 := (fRow f42.1.2.1 301 kR_216_301).trans ((uRowNe f37 301 (iS (show n13 = ((305 : Nat) : Int) from f30) rfl)).trans ((fRow f25.1.2.1 301 kR_223_301).trans ((fRow f19.1.2.1 301 kR_216_301).trans e14)))
  have e118 : hV H5 302 = hV H0 302 := (fRow f42.1.2.1 302 kR_216_302).trans ((uRowNe f37 302 (iS (show n13 = ((305 : Nat) : Int) from f30) rfl)).trans ((fRow f25.1.2.1 302 kR_223_302).trans ((fRow f19.1.2.1 302 kR_216_302).trans e15)))
  have e126 : hV H5 303 = hV H0 303 := (fRow f42.1.2.1 303 kR_216_303).trans ((uRowNe f37 303 (iS (show n13 = ((305 : Nat) : Int) from f30) rfl)).trans ((fRow f25.1.2.1 303 kR_223_303).trans ((fRow f19.1.2.1 303 kR_216_303).trans e16)))
  have e133 : hV H5 305 = (uF (hV H1 305) n18 n11) := (fRow f42.1.2.1 305 kR_216_305).trans ((uRow f37 305 f30.symm).trans (congrArg (fun z => uF z n18 n11) ((fRow f25.1.2.1 305 kR_223_305).trans (fRow f19.1.2.1 305 kR_216_305))))
  have e141 : hV H5 328 = hV H0 328 := (fRow f42.1.2.1 328 kR_216_328).trans ((uRowNe f37 328 (iS (show n13 = ((305 : Nat) : Int) from f30) rfl)).trans ((fRow f25.1.2.1 328 kR_223_328).trans ((fRow f19.1.2.1 328 kR_216_328).trans e17)))
  have e149 : hV H5 332 = hV H0 332 := (fRow f42.1.2.1 332 kR_216_332).trans ((uRowNe f37 332 (iS (show n13 = ((305 : Nat) : Int) from f30) rfl)).trans ((fRow f25.1.2.1 332 kR_223_332).trans ((fRow f19.1.2.1 332 kR_216_332).trans e18)))
  have e157 : hV H5 335 = hV H0 335 := (fRow f42.1.2.1 335 kR_216_335).trans ((uRowNe f37 335 (iS (show n13 = ((305 : Nat) : Int) from f30) rfl)).trans ((fRow f25.1.2.1 335 kR_223_335).trans ((fRow f19.1.2.1 335 kR_216_335).trans e19)))
  have e158 : (0 : Int) ≤ hV H1 285 11 ∧ hV H1 285 11 ≤ 500 := f10.1.2.2 285 11 _ _ kW_285_11
  have e159 : (0 : Int) ≤ hV H1 285 13 ∧ hV H1 285 13 ≤ 2 := f10.1.2.2 285 13 _ _ kW_285_13
  have e160 : (0 : Int) ≤ hV H1 285 15 ∧ hV H1 285 15 ≤ 6 := f10.1.2.2 285 15 _ _ kW_285_15
  have e161 : (0 : Int) ≤ hV H0 285 18 ∧ hV H0 285 18 ≤ 8 := bTo e3 (f10.1.2.2 285 18 _ _ kW_285_18)
  have e162 : (0 : Int) ≤ hV H0 285 32 ∧ hV H0 285 32 ≤ 7 := bTo e5 (f10.1.2.2 285 32 _ _ kW_285_32)
  have e163 : (0 : Int) ≤ hV H0 285 33 ∧ hV H0 285 33 ≤ 62 := bTo e7 (f10.1.2.2 285 33 _ _ kW_285_33)
  have e164 : (0 : Int) ≤ hV H0 285 64 ∧ hV H0 285 64 ≤ 20 := bTo e9 (f10.1.2.2 285 64 _ _ kW_285_64)
  have e168 : (0 : Int) ≤ hV H3 285 11 ∧ hV H3 285 11 ≤ 500 := f25.1.2.2.2 285 11 _ _ kW_285_11
  have e169 : (0 : Int) ≤ hV H3 285 13 ∧ hV H3 285 13 ≤ 2 := f25.1.2.2.2 285 13 _ _ kW_285_13
  have e170 : (0 : Int) ≤ hV H3 285 15 ∧ hV H3 285 15 ≤ 6 := f25.1.2.2.2 285 15 _ _ kW_285_15
  try simp only [PA, PW]
  try simp only [e33, e36, e39, e44, e49, e54, e59, e71, e79, e87, e95, e102, e110, e118, e126, e133, e141, e149, e157]
  have k0 := g4.1
  have y0 := g4.2.1
  have y1 := g4.2.2.1
  have y2 := g4.2.2.2.1
  have y3 := g4.2.2.2.2.1
  have y4 := g4.2.2.2.2.2.1
  have y5 := g4.2.2.2.2.2.2.1
  have y6 := g4.2.2.2.2.2.2.2.1
  have y7 := g4.2.2.2.2.2.2.2.2.1
  have y8 := g4.2.2.2.2.2.2.2.2.2.1
  have y9 := g4.2.2.2.2.2.2.2.2.2.2.1
  have y10 := g4.2.2.2.2.2.2.2.2.2.2.2
  have p0 := g3.1
  have p1 := g3.2.1
  have p2 := g3.2.2.1
  have p3 := g3.2.2.2.1
  have p4 := g3.2.2.2.2.1
  have p5 := g3.2.2.2.2.2.1
  have p6 := g3.2.2.2.2.2.2.1
  have p7 := g3.2.2.2.2.2.2.2
  have r0_0 := f19.2.1
  have r0_1 := f19.2.2
  have r1_0 := f25.2.1
  have r1_1 := f25.2.2.1
  have r1_2 := f25.2.2.2.1
  have r1_3 := f25.2.2.2.2.1
  have r1_4 := f25.2.2.2.2.2.1
  have r1_5 := f25.2.2.2.2.2.2.1
  have r1_6 := f25.2.2.2.2.2.2.2.1
  have r1_7 := f25.2.2.2.2.2.2.2.2
  have r2_0 := f42.2.1
  have r2_1 := f42.2.2
  try simp only [PA] at y0
  try simp only [PW] at y1
  try simp only [PA] at p0
  try simp only [PW] at p5
  try simp only [e3, e9, e10, e11, e13, e14, e15, e16, e17, e18, e19] at y0
  try simp only [e5, e7, e10, e11, e12, e13, e14, e15, e16] at y1
  try simp only [e23] at r0_0
  try simp only [e21, e23, e28] at r0_1
  try simp only [e21] at r1_0
  try simp only [e21] at r1_1
  try simp only [e23] at r1_2
  try simp only [e21] at r1_3
  try simp only [e25] at r1_4
  try simp only [e21, e30] at r1_7
  try simp only [e36] at r2_0
  try simp only [e33, e36, e63] at r2_1
  clear g3
  clear g4
  have wb0 := (p7 (hV H0 285 32).toNat).1
  have wp0 := (p7 (hV H0 285 33).toNat).2
  try simp only [e3, e5, e7, e9, e10, e11, e12, e13, e14, e15, e16, e17, e18, e19] at wb0
  try simp only [e3, e5, e7, e9, e10, e11, e12, e13, e14, e15, e16, e17, e18, e19] at wp0
  clear f14 f28 f31 e3 e5 e7 e9 e10 e11 e12 e13 e14 e15 e16 e17 e18 e19 e21 e23 e25 e28 e30 e33 e36 e39 e44 e49 e54 e59 e63 e71 e79 e87 e95 e102 e110 e118 e126 e133 e141 e149 e157
  clear f10 f19 f25 f42
  subst e0
  subst e1
  rw [f32] at f33
  first
  | (have ix0 : n15 = 6 * n2 := Eq.trans f33 (w32_iv (Iml 6 rfl (Iat f5 f4)) (by decide)); subst ix0; clear f33)
  | (have ix0 : n15 = 6 * n2 := Eq.trans f33 (w32_id (by omega) (by omega)); subst ix0; clear f33)
  | (unfold w32 at f33; have ix0 : n15 = 6 * n2 := (by omega); subst ix0)
  | skip
  first
  | (have ix1 : n17 = (6 * n2) + 1 := Eq.trans f35 (w32_iv (Iad (Iml 6 rfl (Iat f5 f4)) (IC 1)) (by decide)); subst ix1; clear f35)
  | (have ix1 : n17 = (6 * n2) + 1 := Eq.trans f35 (w32_id (by omega) (by omega)); subst ix1; clear f35)
  | (unfold w32 at f35; have ix1 : n17 = (6 * n2) + 1 := (by omega); subst ix1)
  | skip
  first
  | (have ix2 : n18 = ((6 * n2) + 1) + n1 := Eq.trans f36 (w32_iv (Iad (Iad (Iml 6 rfl (Iat f5 f4)) (IC 1)) (Iat f3 f2)) (by decide)); subst ix2; clear f36)
  | (have ix2 : n18 = ((6 * n2) + 1) + n1 := Eq.trans f36 (w32_id (by omega) (by omega)); subst ix2; clear f36)
  | (unfold w32 at f36; have ix2 : n18 = ((6 * n2) + 1) + n1 := (by omega); subst ix2)
  | skip
  first
  | (have ix3 : n19 = n1 + 1 := Eq.trans f38 (w32_iv (Iad (Iat f3 f2) (IC 1)) (by decide)); subst ix3; clear f38)
  | (have ix3 : n19 = n1 + 1 := Eq.trans f38 (w32_id (by omega) (by omega)); subst ix3; clear f38)
  | (unfold w32 at f38; have ix3 : n19 = n1 + 1 := (by omega); subst ix3)
  | skip
  try unfold w32 at f33
  try unfold w32 at f35
  try unfold w32 at f36
  try unfold w32 at f38

  refine ⟨⟨?_, ?_, ?_, ?_⟩, fun q hq => ?_⟩
  · first | exact True.intro | rfl | omega
  · refine PA_cn ?_ (by omega)
    exact y0
  · intro z1 z2
    refine PW_cn ?_ (by omega) (by omega) (by omega) (by omega)
    exact y1 (by omega) (by omega)
  · (try clear y0 y1 p0 p5 p7)
    first
    | omega
    | (refine ⟨?_, ?_, ?_, ?_, ?_, ?_, ?_, ?_, ?_⟩ <;> first | exact True.intro | omega)
  · (try clear y0 y1 p0 p5 p7)
    have g6 := Option.some.inj hq
    subst g6
    omega
def g_230_22_13 : vG := ([(30, [21], [], 0), (1216, [21, 2, 20], [4, 5], 0), (90, [21], [], 0), (91, [21], [], 1), (0, [20], [], 5), (10, [19, 4], [], 1), (80, [13, 18, 11], [4, 3], 0), (1, [18, 17, 4], [], 0), (1, [17, 15, 16], [], 0), (0, [16], [], 1), (3, [15, 14, 3], [], 0), (0, [14], [], 6), (20, [13, 2], [3], 31), (0, [13], [], 305), (30, [12], [], 0), (20, [12, 2], [3], 13), (90, [12], [], 0), (91, [12], [], 2), (1223, [11, 2, 9, 10], [2, 3], 0), (90, [11], [], 0), (91, [11], [], 9999), (0, [10], [], 400), (0, [9], [], 0), (30, [8], [], 0), (1216, [8, 2, 7], [1, 2], 0), (90, [8], [], 0), (91, [8], [], 1), (0, [7], [], 2), (30, [6], [], 0), (20, [6, 2], [1], 13), (90, [6], [], 0), (91, [6], [], 2), (31, [5], [], 0), (5000, [0, 1, 2, 3, 4, 5], [0, 1], 22), (0, [0], [], 285), (90, [1], [], 0), (91, [1], [], 1007), (0, [2], [], 285), (90, [3], [], 0), (91, [3], [], 1007), (90, [4], [], 0), (91, [4], [], 5), (90, [5], [], 0), (91, [5], [], 1)], (4000, [2, 3, 19, 21], [5], 22))
theorem c_230_22_13 {q0 : Nat} : vOkm T0 (eP e_230 L_230 A_230 mu_230 (some q0)) 2 g_230_22_13 := vOk_inI fun ρ η f0 f1 f2 f3 f4 f5 f6 f7 f8 f9 f10 f11 f12 f13 f14 f15 f16 f17 f18 f19 f20 f21 f22 f23 f24 f25 f26 f27 f28 f29 f30 f31 f32 f33 f34 f35 f36 f37 f38 f39 f40 f41 f42 f43 => q_230_12 (q0 := q0) (n0 := ρ 5) (n1 := ρ 4) (n2 := ρ 3) (n3 := ρ 2) (n4 := ρ 1) (n5 := ρ 0) (n6 := ρ 6) (n7 := ρ 7) (n8 := ρ 8) (n9 := ρ 9) (n10 := ρ 10) (n11 := ρ 11) (n12 := ρ 12) (n13 := ρ 13) (n14 := ρ 14) (n15 := ρ 15) (n16 := ρ 16) (n17 := ρ 17) (n18 := ρ 18) (n19 := ρ 19) (n20 := ρ 20) (n21 := ρ 21) (H0 := η 0) (H1 := η 1) (H2 := η 2) (H3 := η 3) (H4 := η 4) (H5 := η 5) f43 f42 f41 f40 f39 f38 f37 f36 f35 f34 f33 f32 f31 f30 f29 f28 f27 f26 f25 f24 f23 f22 f21 f20 f19 f18 f17 f16 f15 f14 f13 f12 f11 f10 f9 f8 f7 f6 f5 f4 f3 f2 f1 f0
def g_230_22_14 : vG := ([(10, [19, 4], [], 1), (1, [18, 17, 4], [], 0), (1, [17, 15, 16], [], 0), (0, [16], [], 1), (3, [15, 14, 3], [], 0), (0, [14], [], 6), (30, [12], [], 0), (20, [12, 2], [3], 13), (90, [12], [], 0), (91, [12], [], 2), (1223, [11, 2, 9, 10], [2, 3], 0), (90, [11], [], 0), (91, [11], [], 9999), (0, [10], [], 400), (0, [9], [], 0), (30, [8], [], 0), (1216, [8, 2, 7], [1, 2], 0), (90, [8], [], 0), (91, [8], [], 1), (0, [7], [], 2), (30, [6], [], 0), (20, [6, 2], [1], 13), (90, [6], [], 0), (91, [6], [], 2), (31, [5], [], 0), (5000, [0, 1, 2, 3, 4, 5], [0, 1], 22), (0, [0], [], 285), (90, [1], [], 0), (91, [1], [], 1007), (0, [2], [], 285), (90, [3], [], 0), (91, [3], [], 1007), (90, [4], [], 0), (91, [4], [], 5), (90, [5], [], 0), (91, [5], [], 1)], (90, [19], [], 0))
theorem c_230_22_14 {q0 : Nat} : vOkm T0 (eP e_230 L_230 A_230 mu_230 (some q0)) 2 g_230_22_14 := vOk_inI fun ρ η f0 f1 f2 f3 f4 f5 f6 f7 f8 f9 f10 f11 f12 f13 f14 f15 f16 f17 f18 f19 f20 f21 f22 f23 f24 f25 f26 f27 f28 f29 f30 f31 f32 f33 f34 f35 => q_230_10 (q0 := q0) (n0 := ρ 5) (n1 := ρ 4) (n2 := ρ 3) (n3 := ρ 2) (n4 := ρ 1) (n5 := ρ 0) (n6 := ρ 6) (n7 := ρ 7) (n8 := ρ 8) (n9 := ρ 9) (n10 := ρ 10) (n11 := ρ 11) (n12 := ρ 12) (n13 := ρ 14) (n14 := ρ 15) (n15 := ρ 16) (n16 := ρ 17) (n17 := ρ 18) (n18 := ρ 19) (H0 := η 0) (H1 := η 1) (H2 := η 2) (H3 := η 3) f35 f34 f33 f32 f31 f30 f29 f28 f27 f26 f25 f24 f23 f22 f21 f20 f19 f18 f17 f16 f15 f14 f13 f12 f11 f10 f9 f8 f7 f6 f5 f4 f3 f2 f1 f0
def g_230_22_15 : vG := ([(10, [19, 4], [], 1), (1, [18, 17, 4], [], 0), (1, [17, 15, 16], [], 0), (0, [16], [], 1), (3, [15, 14, 3], [], 0), (0, [14], [], 6), (30, [12], [], 0), (20, [12, 2], [3], 13), (90, [12], [], 0), (91, [12], [], 2), (1223, [11, 2, 9, 10], [2, 3], 0), (90, [11], [], 0), (91, [11], [], 9999), (0, [10], [], 400), (0, [9], [], 0), (30, [8], [], 0), (1216, [8, 2, 7], [1, 2], 0), (90, [8], [], 0), (91, [8], [], 1), (0, [7], [], 2), (30, [6], [], 0), (20, [6, 2], [1], 13), (90, [6], [], 0), (91, [6], [], 2), (31, [5], [], 0), (5000, [0, 1, 2, 3, 4, 5], [0, 1], 22), (0, [0], [], 285), (90, [1], [], 0), (91, [1], [], 1007), (0, [2], [], 285), (90, [3], [], 0), (91, [3], [], 1007), (90, [4], [], 0), (91, [4], [], 5), (90, [5], [], 0), (91, [5], [], 1)], (91, [19], [], 5))
theorem c_230_22_15 {q0 : Nat} : vOkm T0 (eP e_230 L_230 A_230 mu_230 (some q0)) 2 g_230_22_15 := vOk_inI fun ρ η f0 f1 f2 f3 f4 f5 f6 f7 f8 f9 f10 f11 f12 f13 f14 f15 f16 f17 f18 f19 f20 f21 f22 f23 f24 f25 f26 f27 f28 f29 f30 f31 f32 f33 f34 f35 => q_230_11 (q0 := q0) (n0 := ρ 5) (n1 := ρ 4) (n2 := ρ 3) (n3 := ρ 2) (n4 := ρ 1) (n5 := ρ 0) (n6 := ρ 6) (n7 := ρ 7) (n8 := ρ 8) (n9 := ρ 9) (n10 := ρ 10) (n11 := ρ 11) (n12 := ρ 12) (n13 := ρ 14) (n14 := ρ 15) (n15 := ρ 16) (n16 := ρ 17) (n17 := ρ 18) (n18 := ρ 19) (H0 := η 0) (H1 := η 1) (H2 := η 2) (H3 := η 3) f35 f34 f33 f32 f31 f30 f29 f28 f27 f26 f25 f24 f23 f22 f21 f20 f19 f18 f17 f16 f15 f14 f13 f12 f11 f10 f9 f8 f7 f6 f5 f4 f3 f2 f1 f0
set_option maxHeartbeats 20000000 in
theorem kR_219_294 : vFreeR s_219.2.2.2.2 294 = true := by decide +kernel
theorem kR_219_296 : vFreeR s_219.2.2.2.2 296 = true := by decide +kernel
theorem kR_219_297 : vFreeR s_219.2.2.2.2 297 = true := by decide +kernel
theorem kR_219_298 : vFreeR s_219.2.2.2.2 298 = true := by decide +kernel
theorem kR_219_305 : vFreeR s_219.2.2.2.2 305 = true := by decide +kernel
theorem kR_219_328 : vFreeR s_219.2.2.2.2 328 = true := by decide +kernel
theorem kR_219_332 : vFreeR s_219.2.2.2.2 332 = true := by decide +kernel
theorem kR_219_335 : vFreeR s_219.2.2.2.2 335 = true := by decide +kernel
theorem kF_219_285_18 : vFree s_219.2.2.2.2 285 18 = true := by decide +kernel
theorem kF_219_285_32 : vFree s_219.2.2.2.2 285 32 = true := by decide +kernel
theorem kF_219_285_33 : vFree s_219.2.2.2.2 285 33 = true := by decide +kernel
theorem kF_219_285_64 : vFree s_219.2.2.2.2 285 64 = true := by decide +kernel
theorem q_230_13 {q0 : Nat} {n0 n1 n2 n3 n4 n5 n6 n7 n8 n9 n10 n11 n12 n13 n14 n15 n16 n17 n18 n19 n20 n21 : Int} {H0 H1 H2 H3 H4 H5 H6 : gH} (f0 : n0 ≤ 1) (f1 : 0 ≤ n0) (f2 : n1 ≤ 5) (f3 : 0 ≤ n1) (f4 : n2 ≤ 1007) (f5 : 0 ≤ n2) (f6 : n3 = 285) (f7 : n4 ≤ 1007) (f8 : 0 ≤ n4) (f9 : n5 = 285) (f10 : (hLe T0 H0 H1 ∧ hFr s_230.2.2.2.2 H0 H1 ∧ hWt T0 H1) ∧ (Ab_230_22 n5 n4 n3 n2 n1 n0 H0 H1 ∧ preb_230 n5 n4 H0) ∧ some q0 = some (mub_230_22 n5 n4 n3 n2 n1 n0 H0 H1)) (f11 : n0 ≠ 0) (f12 : n6 ≤ 2) (f13 : 0 ≤ n6) (f14 : n6 = hV H1 (n3).toNat 13) (f15 : n6 = 0) (f16 : n7 = 2) (f17 : n8 ≤ 1) (f18 : 0 ≤ n8) (f19 : (hLe T0 H1 H2 ∧ hFr s_216.2.2.2.2 H1 H2 ∧ ((0 : Int) = 0 → H2.length = H1.length) ∧ hWt T0 H2) ∧ postb_216 n8 n3 n7 H1 H2) (f20 : n8 = 0) (f21 : n9 = 0) (f22 : n10 = 400) (f23 : n11 ≤ 9999) (f24 : 0 ≤ n11) (f25 : (hLe T0 H2 H3 ∧ hFr s_223.2.2.2.2 H2 H3 ∧ ((0 : Int) = 0 → H3.length = H2.length) ∧ hWt T0 H3) ∧ postb_223 n11 n3 n9 n10 H2 H3) (f26 : n12 ≤ 2) (f27 : 0 ≤ n12) (f28 : n12 = hV H3 (n3).toNat 13) (f29 : n12 = 0) (f30 : n13 = 305) (f31 : n13 = hV H3 (n3).toNat 31) (f32 : n14 = 6) (f33 : n15 = w32 (n14 * n2)) (f34 : n16 = 1) (f35 : n17 = w32 (n15 + n16)) (f36 : n18 = w32 (n17 + n1)) (f37 : hUpd H4 H3 n13 n18 n11) (f38 : n19 = w32 (n1 + 1)) (f39 : n20 = 5) (f40 : n21 ≤ 1) (f41 : 0 ≤ n21) (f42 : (hLe T0 H4 H5 ∧ hFr s_216.2.2.2.2 H4 H5 ∧ ((0 : Int) = 0 → H5.length = H4.length) ∧ hWt T0 H5) ∧ postb_216 n21 n3 n20 H4 H5) (f43 : n21 ≠ 0) (f44 : (hLe T0 H5 H6 ∧ hFr s_219.2.2.2.2 H5 H6 ∧ ((0 : Int) = 0 → H6.length = H5.length) ∧ hWt T0 H6) ∧ postb_219 n3 H5 H6) : Ab_230_22 n5 n4 n3 n2 n19 n21 H0 H6 ∧ ∀ q, some q0 = some q → mub_230_22 n5 n4 n3 n2 n19 n21 H0 H6 < q := by
  have g4 := f10.2.1.1
  unfold Ab_230_22 at g4
  have g3 := f10.2.1.2
  unfold preb_230 at g3
  have g5 := Option.some.inj f10.2.2
  unfold mub_230_22 at g5
  unfold postb_216 at f19
  unfold postb_223 at f25
  unfold postb_216 at f42
  unfold postb_219 at f44
  unfold Ab_230_22
  unfold mub_230_22
  have e0 : n6 = hV H1 285 13 := (by rw [f6] at f14; exact f14 : n6 = hV H1 285 13)
  have e1 : n12 = hV H3 285 13 := (by rw [f6] at f28; exact f28 : n12 = hV H3 285 13)
  have e3 : hV H1 285 18 = hV H0 285 18 := (f10.1.2.1.1 285 18 kF_230_285_18)
  have e5 : hV H1 285 32 = hV H0 285 32 := (f10.1.2.1.1 285 32 kF_230_285_32)
  have e7 : hV H1 285 33 = hV H0 285 33 := (f10.1.2.1.1 285 33 kF_230_285_33)
  have e9 : hV H1 285 64 = hV H0 285 64 := (f10.1.2.1.1 285 64 kF_230_285_64)
  have e10 : hV H1 294 = hV H0 294 := fRow f10.1.2.1 294 kR_230_294
  have e11 : hV H1 296 = hV H0 296 := fRow f10.1.2.1 296 kR_230_296
  have e12 : hV H1 297 = hV H0 297 := fRow f10.1.2.1 297 kR_230_297
  have e13 : hV H1 298 = hV H0 298 := fRow f10.1.2.1 298 kR_230_298
  have e14 : hV H1 301 = hV H0 301 := fRow f10.1.2.1 301 kR_230_301
  have e15 : hV H1 302 = hV H0 302 := fRow f10.1.2.1 302 kR_230_302
  have e16 : hV H1 303 = hV H0 303 := fRow f10.1.2.1 303 kR_230_303
  have e17 : hV H1 328 = hV H0 328 := fRow f10.1.2.1 328 kR_230_328
  have e18 : hV H1 332 = hV H0 332 := fRow f10.1.2.1 332 kR_230_332
  have e19 : hV H1 335 = hV H0 335 := fRow f10.1.2.1 335 kR_230_335
  have e21 : hV H2 285 11 = hV H1 285 11 := (f19.1.2.1.1 285 11 kF_216_285_11)
  have e23 : hV H2 285 13 = hV H1 285 13 := (f19.1.2.1.1 285 13 kF_216_285_13)
  have e25 : hV H2 285 15 = hV H1 285 15 := (f19.1.2.1.1 285 15 kF_216_285_15)
  have e28 : hV H2 288 = hV H0 288 := (fRow f19.1.2.1 288 kR_216_288).trans (fRow f10.1.2.1 288 kR_230_288)
  have e30 : hV H3 288 = hV H0 288 := (fRow f25.1.2.1 288 kR_223_288).trans e28
  have e33 : hV H5 285 11 = hV H3 285 11 := ((f42.1.2.1.1 285 11 kF_216_285_11)).trans (uPlace f37 285 11 (iS (show n13 = ((305 : Nat) : Int) from f30) rfl))
  have e36 : hV H5 285 13 = hV H3 285 13 := ((f42.1.2.1.1 285 13 kF_216_285_13)).trans (uPlace f37 285 13 (iS (show n13 = ((305 : Nat) : Int) from f30) rfl))
  have e40 : hV H5 288 = hV H0 288 := (fRow f42.1.2.1 288 kR_216_288).trans ((uRowNe f37 288 (iS (show n13 = ((305 : Nat) : Int) from f30) rfl)).trans e30)
  have e44 : hV H6 285 15 = hV H3 285 15 := ((f44.1.2.1.1 285 15 kF_219_285_15)).trans (((f42.1.2.1.1 285 15 kF_216_285_15)).trans (uPlace f37 285 15 (iS (show n13 = ((305 : Nat) : Int) from f30) rfl)))
  have e50 : hV H6 285 18 = hV H0 285 18 := ((f44.1.2.1.1 285 18 kF_219_285_18)).trans (((f42.1.2.1.1 285 18 kF_216_285_18)).trans (((uPlace f37 285 18 (iS (show n13 = ((305 : Nat) : Int) from f30) rfl))).trans (((f25.1.2.1.1 285 18 kF_223_285_18)).trans (((f19.1.2.1.1 285 18 kF_216_285_18)).trans (f10.1.2.1.1 285 18 kF_230_285_18)))))
  have e56 : hV H6 285 32 = hV H0 285 32 := ((f44.1.2.1.1 285 32 kF_219_285_32)).trans (((f42.1.2.1.1 285 32 kF_216_285_32)).trans (((uPlace f37 285 32 (iS (show n13 = ((305 : Nat) : Int) from f30) rfl))).trans (((f25.1.2.1.1 285 32 kF_223_285_32)).trans (((f19.1.2.1.1 285 32 kF_216_285_32)).trans (f10.1.2.1.1 285 32 kF_230_285_32)))))
  have e62 : hV H6 285 33 = hV H0 285 33 := ((f44.1.2.1.1 285 33 kF_219_285_33)).trans (((f42.1.2.1.1 285 33 kF_216_285_33)).trans (((uPlace f37 285 33 (iS (show n13 = ((305 : Nat) : Int) from f30) rfl))).trans (((f25.1.2.1.1 285 33 kF_223_285_33)).trans (((f19.1.2.1.1 285 33 kF_216_285_33)).trans (f10.1.2.1.1 285 33 kF_230_285_33)))))
  have e68 : hV H6 285 64 = hV H0 285 64 := ((f44.1.2.1.1 285 64 kF_219_285_64)).trans (((f42.1.2.1.1 285 64 kF_216_285_64)).trans (((uPlace f37 285 64 (iS (show n13 = ((305 : Nat) : Int) from f30) rfl))).trans (((f25.1.2.1.1 285 64 kF_223_285_64)).trans (((f19.1.2.1.1 285 64 kF_216_285_64)).trans (f10.1.2.1.1 285 64 kF_230_285_64)))))
  have e78 : hV H6 294 = hV H0 294 := (fRow f44.1.2.1 294 kR_219_294).trans ((fRow f42.1.2.1 294 kR_216_294).trans ((uRowNe f37 294 (iS (show n13 = ((305 : Nat) : Int) from f30) rfl)).trans ((fRow f25.1.2.1 294 kR_223_294).trans ((fRow f19.1.2.1 294 kR_216_294).trans e10))))
  have e88 : hV H6 296 = hV H0 296 := (fRow f44.1.2.1 296 kR_219_296).trans ((fRow f42.1.2.1 296 kR_216_296).trans ((uRowNe f37 296 (iS (show n13 = ((305 : Nat) : Int) from f30) rfl)).trans ((fRow f25.1.2.1 296 kR_223_296).trans ((fRow f19.1.2.1 296 kR_216_296).trans e11))))
  have e98 : hV H6 297 = hV H0 297 := (fRow f44.1.2.1 297 kR_219_297).trans ((fRow f42.1.2.1 297 kR_216_297).trans ((uRowNe f37 297 (iS (show n13 = ((305 : Nat) : Int) from f30) rfl)).trans ((fRow f25.1.2.1 297 kR_223_297).trans ((fRow f19.1.2.1 297 kR_216_297).trans e12))))
  have e108 : hV H6 298 = hV H0 298 := (fRow f44.1.2.1 298 kR_219_298).trans ((fRow f42.1.2.1 298 kR_216_298).trans ((uRowNe f37 298 (iS (show n13 = ((305 : Nat) : Int) from f30) rfl)).trans ((fRow f25.1.2.1 298 kR_223_298).trans ((fRow f19.1.2.1 298 kR_216_298).trans e13))))
  have e117 : hV H6 300 = hV H1 300 := (fRow f44.1.2.1 300 kR_219_300).trans ((fRow f42.1.2.1 300 kR_216_300).trans ((uRowNe f37 300 (iS (show n13 = ((305 : Nat) : Int) from f30) rfl)).trans ((fRow f25.1.2.1 300 kR_223_300).trans (fRow f19.1.2.1 300 kR_216_300))))
  have e127 : hV H6 301 = hV H0 301 := (fRow f44.1.2.1 301 kR_219_301).trans ((fRow f42.1.2.1 301 kR_216_301).trans ((uRowNe f37 301 (iS (show n13 = ((305 : Nat) : Int) from f30) rfl)).trans ((fRow f25.1.2.1 301 kR_223_301).trans ((fRow f19.1.2.1 301 kR_216_301).trans e14))))
  have e137 : hV H6 302 = hV H0 302 := (fRow f44.1.2.1 302 kR_219_302).trans ((fRow f42.1.2.1 302 kR_216_302).trans ((uRowNe f37 302 (iS (show n13 = ((305 : Nat) : Int) from f30) rfl)).trans ((fRow f25.1.2.1 302 kR_223_302).trans ((fRow f19.1.2.1 302 kR_216_302).trans e15))))
  have e147 : hV H6 303 = hV H0 303 := (fRow f44.1.2.1 303 kR_219_303).trans ((fRow f42.1.2.1 303 kR_216_303).trans ((uRowNe f37 303 (iS (show n13 = ((305 : Nat) : Int) from f30) rfl)).trans ((fRow f25.1.2.1 303 kR_223_303).trans ((fRow f19.1.2.1 303 kR_216_303).trans e16))))
  have e156 : hV H6 305 = (uF (hV H1 305) n18 n11) := (fRow f44.1.2.1 305 kR_219_305).trans ((fRow f42.1.2.1 305 kR_216_305).trans ((uRow f37 305 f30.symm).trans (congrArg (fun z => uF z n18 n11) ((fRow f25.1.2.1 305 kR_223_305).trans (fRow f19.1.2.1 305 kR_216_305)))))
  have e166 : hV H6 328 = hV H0 328 := (fRow f44.1.2.1 328 kR_219_328).trans ((fRow f42.1.2.1 328 kR_216_328).trans ((uRowNe f37 328 (iS (show n13 = ((305 : Nat) : Int) from f30) rfl)).trans ((fRow f25.1.2.1 328 kR_223_328).trans ((fRow f19.1.2.1 328 kR_216_328).trans e17))))
  have e176 : hV H6 332 = hV H0 332 := (fRow f44.1.2.1 332 kR_219_332).trans ((fRow f42.1.2.1 332 kR_216_332).trans ((uRowNe f37 332 (iS (show n13 = ((305 : Nat) : Int) from f30) rfl)).trans ((fRow f25.1.2.1 332 kR_223_332).trans ((fRow f19.1.2.1 332 kR_216_332).trans e18))))
  have e186 : hV H6 335 = hV H0 335 := (fRow f44.1.2.1 335 kR_219_335).trans ((fRow f42.1.2.1 335 kR_216_335).trans ((uRowNe f37 335 (iS (show n13 = ((305 : Nat) : Int) from f30) rfl)).trans ((fRow f25.1.2.1 335 kR_223_335).trans ((fRow f19.1.2.1 335 kR_216_335).trans e19))))
  have e187 : (0 : Int) ≤ hV H1 285 11 ∧ hV H1 285 11 ≤ 500 := f10.1.2.2 285 11 _ _ kW_285_11
  have e188 : (0 : Int) ≤ hV H1 285 13 ∧ hV H1 285 13 ≤ 2 := f10.1.2.2 285 13 _ _ kW_285_13
  have e189 : (0 : Int) ≤ hV H1 285 15 ∧ hV H1 285 15 ≤ 6 := f10.1.2.2 285 15 _ _ kW_285_15
  have e190 : (0 : Int) ≤ hV H0 285 18 ∧ hV H0 285 18 ≤ 8 := bTo e3 (f10.1.2.2 285 18 _ _ kW_285_18)
  have e191 : (0 : Int) ≤ hV H0 285 32 ∧ hV H0 285 32 ≤ 7 := bTo e5 (f10.1.2.2 285 32 _ _ kW_285_32)
  have e192 : (0 : Int) ≤ hV H0 285 33 ∧ hV H0 285 33 ≤ 62 := bTo e7 (f10.1.2.2 285 33 _ _ kW_285_33)
  have e193 : (0 : Int) ≤ hV H0 285 64 ∧ hV H0 285 64 ≤ 20 := bTo e9 (f10.1.2.2 285 64 _ _ kW_285_64)
  have e197 : (0 : Int) ≤ hV H3 285 11 ∧ hV H3 285 11 ≤ 500 := f25.1.2.2.2 285 11 _ _ kW_285_11
  have e198 : (0 : Int) ≤ hV H3 285 13 ∧ hV H3 285 13 ≤ 2 := f25.1.2.2.2 285 13 _ _ kW_285_13
  have e199 : (0 : Int) ≤ hV H3 285 15 ∧ hV H3 285 15 ≤ 6 := f25.1.2.2.2 285 15 _ _ kW_285_15
  have e202 : (0 : Int) ≤ hV H6 285 11 ∧ hV H6 285 11 ≤ 500 := f44.1.2.2.2 285 11 _ _ kW_285_11
  have e203 : (0 : Int) ≤ hV H6 285 13 ∧ hV H6 285 13 ≤ 2 := f44.1.2.2.2 285 13 _ _ kW_285_13
  try simp only [PA, PW]
  try simp only [e44, e50, e56, e62, e68, e78, e88, e98, e108, e117, e127, e137, e147, e156, e166, e176, e186]
  have k0 := g4.1
  have y0 := g4.2.1
  have y1 := g4.2.2.1
  have y2 := g4.2.2.2.1
  have y3 := g4.2.2.2.2.1
  have y4 := g4.2.2.2.2.2.1
  have y5 := g4.2.2.2.2.2.2.1
  have y6 := g4.2.2.2.2.2.2.2.1
  have y7 := g4.2.2.2.2.2.2.2.2.1
  have y8 := g4.2.2.2.2.2.2.2.2.2.1
  have y9 := g4.2.2.2.2.2.2.2.2.2.2.1
  have y10 := g4.2.2.2.2.2.2.2.2.2.2.2
  have p0 := g3.1
  have p1 := g3.2.1
  have p2 := g3.2.2.1
  have p3 := g3.2.2.2.1
  have p4 := g3.2.2.2.2.1
  have p5 := g3.2.2.2.2.2.1
  have p6 := g3.2.2.2.2.2.2.1
  have p7 := g3.2.2.2.2.2.2.2
  have r0_0 := f19.2.1
  have r0_1 := f19.2.2
  have r1_0 := f25.2.1
  have r1_1 := f25.2.2.1
  have r1_2 := f25.2.2.2.1
  have r1_3 := f25.2.2.2.2.1
  have r1_4 := f25.2.2.2.2.2.1
  have r1_5 := f25.2.2.2.2.2.2.1
  have r1_6 := f25.2.2.2.2.2.2.2.1
  have r1_7 := f25.2.2.2.2.2.2.2.2
  have r2_0 := f42.2.1
  have r2_1 := f42.2.2.resolve_right (fun z => f43 z.1)
  have r3_0 := f44.2.1
  have r3_1 := f44.2.2.1
  have r3_2 := f44.2.2.2.1
  have r3_3 := f44.2.2.2.2
  try simp only [PA] at y0
  try simp only [PW] at y1
  try simp only [PA] at p0
  try simp only [PW] at p5
  try simp only [e3, e9, e10, e11, e13, e14, e15, e16, e17, e18, e19] at y0
  try simp only [e5, e7, e10, e11, e12, e13, e14, e15, e16] at y1
  try simp only [e23] at r0_0
  try simp only [e21, e23, e28] at r0_1
  try simp only [e21] at r1_0
  try simp only [e21] at r1_1
  try simp only [e23] at r1_2
  try simp only [e21] at r1_3
  try simp only [e25] at r1_4
  try simp only [e21, e30] at r1_7
  try simp only [e36] at r2_0
  try simp only [e33, e36, e40] at r2_1
  try simp only [e33] at r3_0
  try simp only [e33] at r3_1
  try simp only [e36] at r3_2
  try simp only [e33] at r3_3
  clear g3
  clear g4
  have wb0 := (p7 (hV H0 285 32).toNat).1
  have wp0 := (p7 (hV H0 285 33).toNat).2
  try simp only [e3, e5, e7, e9, e10, e11, e12, e13, e14, e15, e16, e17, e18, e19] at wb0
  try simp only [e3, e5, e7, e9, e10, e11, e12, e13, e14, e15, e16, e17, e18, e19] at wp0
  clear f14 f28 f31 e3 e5 e7 e9 e10 e11 e12 e13 e14 e15 e16 e17 e18 e19 e21 e23 e25 e28 e30 e33 e36 e40 e44 e50 e56 e62 e68 e78 e88 e98 e108 e117 e127 e137 e147 e156 e166 e176 e186
  clear f10 f19 f25 f42 f44
  subst e0
  subst e1
  rw [f32] at f33
  first
  | (have ix0 : n15 = 6 * n2 := Eq.trans f33 (w32_iv (Iml 6 rfl (Iat f5 f4)) (by decide)); subst ix0; clear f33)
  | (have ix0 : n15 = 6 * n2 := Eq.trans f33 (w32_id (by omega) (by omega)); subst ix0; clear f33)
  | (unfold w32 at f33; have ix0 : n15 = 6 * n2 := (by omega); subst ix0)
  | skip
  first
  | (have ix1 : n17 = (6 * n2) + 1 := Eq.trans f35 (w32_iv (Iad (Iml 6 rfl (Iat f5 f4)) (IC 1)) (by decide)); subst ix1; clear f35)
  | (have ix1 : n17 = (6 * n2) + 1 := Eq.trans f35 (w32_id (by omega) (by omega)); subst ix1; clear f35)
  | (unfold w32 at f35; have ix1 : n17 = (6 * n2) + 1 := (by omega); subst ix1)
  | skip
  first
  | (have ix2 : n18 = ((6 * n2) + 1) + n1 := Eq.trans f36 (w32_iv (Iad (Iad (Iml 6 rfl (Iat f5 f4)) (IC 1)) (Iat f3 f2)) (by decide)); subst ix2; clear f36)
  | (have ix2 : n18 = ((6 * n2) + 1) + n1 := Eq.trans f36 (w32_id (by omega) (by omega)); subst ix2; clear f36)
  | (unfold w32 at f36; have ix2 : n18 = ((6 * n2) + 1) + n1 := (by omega); subst ix2)
  | skip
  first
  | (have ix3 : n19 = n1 + 1 := Eq.trans f38 (w32_iv (Iad (Iat f3 f2) (IC 1)) (by decide)); subst ix3; clear f38)
  | (have ix3 : n19 = n1 + 1 := Eq.trans f38 (w32_id (by omega) (by omega)); subst ix3; clear f38)
  | (unfold w32 at f38; have ix3 : n19 = n1 + 1 := (by omega); subst ix3)
  | skip
  try unfold w32 at f33
  try unfold w32 at f35
  try unfold w32 at f36
  try unfold w32 at f38

  refine ⟨⟨?_, ?_, ?_, ?_⟩, fun q hq => ?_⟩
  · first | exact True.intro | rfl | omega
  · refine PA_cn ?_ (by omega)
    exact y0
  · intro z1 z2
    refine PW_cn ?_ (by omega) (by omega) (by omega) (by omega)
    exact y1 (by omega) (by omega)
  · (try clear y0 y1 p0 p5 p7)
    first
    | omega
    | (refine ⟨?_, ?_, ?_, ?_, ?_, ?_, ?_, ?_, ?_⟩ <;> first | exact True.intro | omega)
  · (try clear y0 y1 p0 p5 p7)
    have g6 := Option.some.inj hq
    subst g6
    omega
def g_230_22_16 : vG := ([(1219, [2], [5, 6], 0), (31, [21], [], 0), (1216, [21, 2, 20], [4, 5], 0), (90, [21], [], 0), (91, [21], [], 1), (0, [20], [], 5), (10, [19, 4], [], 1), (80, [13, 18, 11], [4, 3], 0), (1, [18, 17, 4], [], 0), (1, [17, 15, 16], [], 0), (0, [16], [], 1), (3, [15, 14, 3], [], 0), (0, [14], [], 6), (20, [13, 2], [3], 31), (0, [13], [], 305), (30, [12], [], 0), (20, [12, 2], [3], 13), (90, [12], [], 0), (91, [12], [], 2), (1223, [11, 2, 9, 10], [2, 3], 0), (90, [11], [], 0), (91, [11], [], 9999), (0, [10], [], 400), (0, [9], [], 0), (30, [8], [], 0), (1216, [8, 2, 7], [1, 2], 0), (90, [8], [], 0), (91, [8], [], 1), (0, [7], [], 2), (30, [6], [], 0), (20, [6, 2], [1], 13), (90, [6], [], 0), (91, [6], [], 2), (31, [5], [], 0), (5000, [0, 1, 2, 3, 4, 5], [0, 1], 22), (0, [0], [], 285), (90, [1], [], 0), (91, [1], [], 1007), (0, [2], [], 285), (90, [3], [], 0), (91, [3], [], 1007), (90, [4], [], 0), (91, [4], [], 5), (90, [5], [], 0), (91, [5], [], 1)], (4000, [2, 3, 19, 21], [6], 22))
theorem c_230_22_16 {q0 : Nat} : vOkm T0 (eP e_230 L_230 A_230 mu_230 (some q0)) 2 g_230_22_16 := vOk_inI fun ρ η f0 f1 f2 f3 f4 f5 f6 f7 f8 f9 f10 f11 f12 f13 f14 f15 f16 f17 f18 f19 f20 f21 f22 f23 f24 f25 f26 f27 f28 f29 f30 f31 f32 f33 f34 f35 f36 f37 f38 f39 f40 f41 f42 f43 f44 => q_230_13 (q0 := q0) (n0 := ρ 5) (n1 := ρ 4) (n2 := ρ 3) (n3 := ρ 2) (n4 := ρ 1) (n5 := ρ 0) (n6 := ρ 6) (n7 := ρ 7) (n8 := ρ 8) (n9 := ρ 9) (n10 := ρ 10) (n11 := ρ 11) (n12 := ρ 12) (n13 := ρ 13) (n14 := ρ 14) (n15 := ρ 15) (n16 := ρ 16) (n17 := ρ 17) (n18 := ρ 18) (n19 := ρ 19) (n20 := ρ 20) (n21 := ρ 21) (H0 := η 0) (H1 := η 1) (H2 := η 2) (H3 := η 3) (H4 := η 4) (H5 := η 5) (H6 := η 6) f44 f43 f42 f41 f40 f39 f38 f37 f36 f35 f34 f33 f32 f31 f30 f29 f28 f27 f26 f25 f24 f23 f22 f21 f20 f19 f18 f17 f16 f15 f14 f13 f12 f11 f10 f9 f8 f7 f6 f5 f4 f3 f2 f1 f0
set_option maxHeartbeats 20000000 in
theorem q_230_14 {q0 : Nat} {n0 n1 n2 n3 n4 n5 n6 n7 n8 n9 n10 n11 n12 n13 n14 : Int} {H0 H1 H2 H3 : gH} (f0 : n0 ≤ 1) (f1 : 0 ≤ n0) (f2 : n1 ≤ 5) (f3 : 0 ≤ n1) (f4 : n2 ≤ 1007) (f5 : 0 ≤ n2) (f6 : n3 = 285) (f7 : n4 ≤ 1007) (f8 : 0 ≤ n4) (f9 : n5 = 285) (f10 : (hLe T0 H0 H1 ∧ hFr s_230.2.2.2.2 H0 H1 ∧ hWt T0 H1) ∧ (Ab_230_22 n5 n4 n3 n2 n1 n0 H0 H1 ∧ preb_230 n5 n4 H0) ∧ some q0 = some (mub_230_22 n5 n4 n3 n2 n1 n0 H0 H1)) (f11 : n0 ≠ 0) (f12 : n6 ≤ 2) (f13 : 0 ≤ n6) (f14 : n6 = hV H1 (n3).toNat 13) (f15 : n6 = 0) (f16 : n7 = 2) (f17 : n8 ≤ 1) (f18 : 0 ≤ n8) (f19 : (hLe T0 H1 H2 ∧ hFr s_216.2.2.2.2 H1 H2 ∧ ((0 : Int) = 0 → H2.length = H1.length) ∧ hWt T0 H2) ∧ postb_216 n8 n3 n7 H1 H2) (f20 : n8 ≠ 0) (f21 : n9 = 4) (f22 : n1 ≠ n9) (f23 : n10 = 0) (f24 : n11 = 400) (f25 : n12 ≤ 9999) (f26 : 0 ≤ n12) (f27 : (hLe T0 H2 H3 ∧ hFr s_223.2.2.2.2 H2 H3 ∧ ((0 : Int) = 0 → H3.length = H2.length) ∧ hWt T0 H3) ∧ postb_223 n12 n3 n10 n11 H2 H3) (f28 : n13 ≤ 2) (f29 : 0 ≤ n13) (f30 : n13 = hV H3 (n3).toNat 13) (f31 : n13 ≠ 0) (f32 : n14 = w32 (n1 + 1)) : 0 ≤ n14 := by
  have g4 := f10.2.1.1
  unfold Ab_230_22 at g4
  have g3 := f10.2.1.2
  unfold preb_230 at g3
  unfold postb_216 at f19
  unfold postb_223 at f27
  have e0 : n6 = hV H1 285 13 := (by rw [f6] at f14; exact f14 : n6 = hV H1 285 13)
  have e1 : n13 = hV H3 285 13 := (by rw [f6] at f30; exact f30 : n13 = hV H3 285 13)
  have e3 : hV H1 285 18 = hV H0 285 18 := (f10.1.2.1.1 285 18 kF_230_285_18)
  have e5 : hV H1 285 32 = hV H0 285 32 := (f10.1.2.1.1 285 32 kF_230_285_32)
  have e7 : hV H1 285 33 = hV H0 285 33 := (f10.1.2.1.1 285 33 kF_230_285_33)
  have e9 : hV H2 285 11 = hV H1 285 11 := (f19.1.2.1.1 285 11 kF_216_285_11)
  have e11 : hV H2 285 13 = hV H1 285 13 := (f19.1.2.1.1 285 13 kF_216_285_13)
  have e13 : hV H2 285 15 = hV H1 285 15 := (f19.1.2.1.1 285 15 kF_216_285_15)
  have e16 : hV H2 288 = hV H0 288 := (fRow f19.1.2.1 288 kR_216_288).trans (fRow f10.1.2.1 288 kR_230_288)
  have e18 : hV H3 288 = hV H0 288 := (fRow f27.1.2.1 288 kR_223_288).trans e16
  have e19 : (0 : Int) ≤ hV H1 285 11 ∧ hV H1 285 11 ≤ 500 := f10.1.2.2 285 11 _ _ kW_285_11
  have e20 : (0 : Int) ≤ hV H1 285 13 ∧ hV H1 285 13 ≤ 2 := f10.1.2.2 285 13 _ _ kW_285_13
  have e21 : (0 : Int) ≤ hV H1 285 15 ∧ hV H1 285 15 ≤ 6 := f10.1.2.2 285 15 _ _ kW_285_15
  have e22 : (0 : Int) ≤ hV H0 285 18 ∧ hV H0 285 18 ≤ 8 := bTo e3 (f10.1.2.2 285 18 _ _ kW_285_18)
  have e23 : (0 : Int) ≤ hV H0 285 32 ∧ hV H0 285 32 ≤ 7 := bTo e5 (f10.1.2.2 285 32 _ _ kW_285_32)
  have e24 : (0 : Int) ≤ hV H0 285 33 ∧ hV H0 285 33 ≤ 62 := bTo e7 (f10.1.2.2 285 33 _ _ kW_285_33)
  have e28 : (0 : Int) ≤ hV H3 285 11 ∧ hV H3 285 11 ≤ 500 := f27.1.2.2.2 285 11 _ _ kW_285_11
  have e29 : (0 : Int) ≤ hV H3 285 13 ∧ hV H3 285 13 ≤ 2 := f27.1.2.2.2 285 13 _ _ kW_285_13
  have e30 : (0 : Int) ≤ hV H3 285 15 ∧ hV H3 285 15 ≤ 6 := f27.1.2.2.2 285 15 _ _ kW_285_15
  have k0 := g4.1
  have y0 := g4.2.1
  have y1 := g4.2.2.1
  have y2 := g4.2.2.2.1
  have y3 := g4.2.2.2.2.1
  have y4 := g4.2.2.2.2.2.1
  have y5 := g4.2.2.2.2.2.2.1
  have y6 := g4.2.2.2.2.2.2.2.1
  have y7 := g4.2.2.2.2.2.2.2.2.1
  have y8 := g4.2.2.2.2.2.2.2.2.2.1
  have y9 := g4.2.2.2.2.2.2.2.2.2.2.1
  have y10 := g4.2.2.2.2.2.2.2.2.2.2.2
  have p0 := g3.1
  have p1 := g3.2.1
  have p2 := g3.2.2.1
  have p3 := g3.2.2.2.1
  have p4 := g3.2.2.2.2.1
  have p5 := g3.2.2.2.2.2.1
  have p6 := g3.2.2.2.2.2.2.1
  have p7 := g3.2.2.2.2.2.2.2
  have r0_0 := f19.2.1
  have r0_1 := f19.2.2.resolve_right (fun z => f20 z.1)
  have r1_0 := f27.2.1
  have r1_1 := f27.2.2.1
  have r1_2 := f27.2.2.2.1
  have r1_3 := f27.2.2.2.2.1
  have r1_4 := f27.2.2.2.2.2.1
  have r1_5 := f27.2.2.2.2.2.2.1
  have r1_6 := f27.2.2.2.2.2.2.2.1
  have r1_7 := f27.2.2.2.2.2.2.2.2
  try simp only [e11] at r0_0
  try simp only [e3, e5, e7, e9, e11, e13, e16] at r0_1
  try simp only [e9] at r1_0
  try simp only [e9] at r1_1
  try simp only [e11] at r1_2
  try simp only [e9] at r1_3
  try simp only [e13] at r1_4
  try simp only [e9, e18] at r1_7
  clear g3
  clear g4
  have wb0 := (p7 (hV H0 285 32).toNat).1
  have wp0 := (p7 (hV H0 285 33).toNat).2
  try simp only [e3, e5, e7] at wb0
  try simp only [e3, e5, e7] at wp0
  clear f14 f30 e3 e5 e7 e9 e11 e13 e16 e18
  clear f10 f19 f27
  subst e0
  subst e1
  first
  | (have ix0 : n14 = n1 + 1 := Eq.trans f32 (w32_iv (Iad (Iat f3 f2) (IC 1)) (by decide)); subst ix0; clear f32)
  | (have ix0 : n14 = n1 + 1 := Eq.trans f32 (w32_id (by omega) (by omega)); subst ix0; clear f32)
  | (unfold w32 at f32; have ix0 : n14 = n1 + 1 := (by omega); subst ix0)
  | skip
  try unfold w32 at f32

  (try clear y0 y1 p0 p5 p7)
  omega
def g_230_22_17 : vG := ([(10, [14, 4], [], 1), (31, [13], [], 0), (20, [13, 2], [3], 13), (90, [13], [], 0), (91, [13], [], 2), (1223, [12, 2, 10, 11], [2, 3], 0), (90, [12], [], 0), (91, [12], [], 9999), (0, [11], [], 400), (0, [10], [], 0), (41, [4, 9], [], 0), (0, [9], [], 4), (31, [8], [], 0), (1216, [8, 2, 7], [1, 2], 0), (90, [8], [], 0), (91, [8], [], 1), (0, [7], [], 2), (30, [6], [], 0), (20, [6, 2], [1], 13), (90, [6], [], 0), (91, [6], [], 2), (31, [5], [], 0), (5000, [0, 1, 2, 3, 4, 5], [0, 1], 22), (0, [0], [], 285), (90, [1], [], 0), (91, [1], [], 1007), (0, [2], [], 285), (90, [3], [], 0), (91, [3], [], 1007), (90, [4], [], 0), (91, [4], [], 5), (90, [5], [], 0), (91, [5], [], 1)], (90, [14], [], 0))
theorem c_230_22_17 {q0 : Nat} : vOkm T0 (eP e_230 L_230 A_230 mu_230 (some q0)) 2 g_230_22_17 := vOk_inI fun ρ η f0 f1 f2 f3 f4 f5 f6 f7 f8 f9 f10 f11 f12 f13 f14 f15 f16 f17 f18 f19 f20 f21 f22 f23 f24 f25 f26 f27 f28 f29 f30 f31 f32 => q_230_14 (q0 := q0) (n0 := ρ 5) (n1 := ρ 4) (n2 := ρ 3) (n3 := ρ 2) (n4 := ρ 1) (n5 := ρ 0) (n6 := ρ 6) (n7 := ρ 7) (n8 := ρ 8) (n9 := ρ 9) (n10 := ρ 10) (n11 := ρ 11) (n12 := ρ 12) (n13 := ρ 13) (n14 := ρ 14) (H0 := η 0) (H1 := η 1) (H2 := η 2) (H3 := η 3) f32 f31 f30 f29 f28 f27 f26 f25 f24 f23 f22 f21 f20 f19 f18 f17 f16 f15 f14 f13 f12 f11 f10 f9 f8 f7 f6 f5 f4 f3 f2 f1 f0
set_option maxHeartbeats 20000000 in
theorem q_230_15 {q0 : Nat} {n0 n1 n2 n3 n4 n5 n6 n7 n8 n9 n10 n11 n12 n13 n14 : Int} {H0 H1 H2 H3 : gH} (f0 : n0 ≤ 1) (f1 : 0 ≤ n0) (f2 : n1 ≤ 5) (f3 : 0 ≤ n1) (f4 : n2 ≤ 1007) (f5 : 0 ≤ n2) (f6 : n3 = 285) (f7 : n4 ≤ 1007) (f8 : 0 ≤ n4) (f9 : n5 = 285) (f10 : (hLe T0 H0 H1 ∧ hFr s_230.2.2.2.2 H0 H1 ∧ hWt T0 H1) ∧ (Ab_230_22 n5 n4 n3 n2 n1 n0 H0 H1 ∧ preb_230 n5 n4 H0) ∧ some q0 = some (mub_230_22 n5 n4 n3 n2 n1 n0 H0 H1)) (f11 : n0 ≠ 0) (f12 : n6 ≤ 2) (f13 : 0 ≤ n6) (f14 : n6 = hV H1 (n3).toNat 13) (f15 : n6 = 0) (f16 : n7 = 2) (f17 : n8 ≤ 1) (f18 : 0 ≤ n8) (f19 : (hLe T0 H1 H2 ∧ hFr s_216.2.2.2.2 H1 H2 ∧ ((0 : Int) = 0 → H2.length = H1.length) ∧ hWt T0 H2) ∧ postb_216 n8 n3 n7 H1 H2) (f20 : n8 ≠ 0) (f21 : n9 = 4) (f22 : n1 ≠ n9) (f23 : n10 = 0) (f24 : n11 = 400) (f25 : n12 ≤ 9999) (f26 : 0 ≤ n12) (f27 : (hLe T0 H2 H3 ∧ hFr s_223.2.2.2.2 H2 H3 ∧ ((0 : Int) = 0 → H3.length = H2.length) ∧ hWt T0 H3) ∧ postb_223 n12 n3 n10 n11 H2 H3) (f28 : n13 ≤ 2) (f29 : 0 ≤ n13) (f30 : n13 = hV H3 (n3).toNat 13) (f31 : n13 ≠ 0) (f32 : n14 = w32 (n1 + 1)) : n14 ≤ 5 := by
  have g4 := f10.2.1.1
  unfold Ab_230_22 at g4
  have g3 := f10.2.1.2
  unfold preb_230 at g3
  unfold postb_216 at f19
  unfold postb_223 at f27
  have e0 : n6 = hV H1 285 13 := (by rw [f6] at f14; exact f14 : n6 = hV H1 285 13)
  have e1 : n13 = hV H3 285 13 := (by rw [f6] at f30; exact f30 : n13 = hV H3 285 13)
  have e3 : hV H1 285 18 = hV H0 285 18 := (f10.1.2.1.1 285 18 kF_230_285_18)
  have e5 : hV H1 285 32 = hV H0 285 32 := (f10.1.2.1.1 285 32 kF_230_285_32)
  have e7 : hV H1 285 33 = hV H0 285 33 := (f10.1.2.1.1 285 33 kF_230_285_33)
  have e9 : hV H2 285 11 = hV H1 285 11 := (f19.1.2.1.1 285 11 kF_216_285_11)
  have e11 : hV H2 285 13 = hV H1 285 13 := (f19.1.2.1.1 285 13 kF_216_285_13)
  have e13 : hV H2 285 15 = hV H1 285 15 := (f19.1.2.1.1 285 15 kF_216_285_15)
  have e16 : hV H2 288 = hV H0 288 := (fRow f19.1.2.1 288 kR_216_288).trans (fRow f10.1.2.1 288 kR_230_288)
  have e18 : hV H3 288 = hV H0 288 := (fRow f27.1.2.1 288 kR_223_288).trans e16
  have e19 : (0 : Int) ≤ hV H1 285 11 ∧ hV H1 285 11 ≤ 500 := f10.1.2.2 285 11 _ _ kW_285_11
  have e20 : (0 : Int) ≤ hV H1 285 13 ∧ hV H1 285 13 ≤ 2 := f10.1.2.2 285 13 _ _ kW_285_13
  have e21 : (0 : Int) ≤ hV H1 285 15 ∧ hV H1 285 15 ≤ 6 := f10.1.2.2 285 15 _ _ kW_285_15
  have e22 : (0 : Int) ≤ hV H0 285 18 ∧ hV H0 285 18 ≤ 8 := bTo e3 (f10.1.2.2 285 18 _ _ kW_285_18)
  have e23 : (0 : Int) ≤ hV H0 285 32 ∧ hV H0 285 32 ≤ 7 := bTo e5 (f10.1.2.2 285 32 _ _ kW_285_32)
  have e24 : (0 : Int) ≤ hV H0 285 33 ∧ hV H0 285 33 ≤ 62 := bTo e7 (f10.1.2.2 285 33 _ _ kW_285_33)
  have e28 : (0 : Int) ≤ hV H3 285 11 ∧ hV H3 285 11 ≤ 500 := f27.1.2.2.2 285 11 _ _ kW_285_11
  have e29 : (0 : Int) ≤ hV H3 285 13 ∧ hV H3 285 13 ≤ 2 := f27.1.2.2.2 285 13 _ _ kW_285_13
  have e30 : (0 : Int) ≤ hV H3 285 15 ∧ hV H3 285 15 ≤ 6 := f27.1.2.2.2 285 15 _ _ kW_285_15
  have k0 := g4.1
  have y0 := g4.2.1
  have y1 := g4.2.2.1
  have y2 := g4.2.2.2.1
  have y3 := g4.2.2.2.2.1
  have y4 := g4.2.2.2.2.2.1
  have y5 := g4.2.2.2.2.2.2.1
  have y6 := g4.2.2.2.2.2.2.2.1
  have y7 := g4.2.2.2.2.2.2.2.2.1
  have y8 := g4.2.2.2.2.2.2.2.2.2.1
  have y9 := g4.2.2.2.2.2.2.2.2.2.2.1
  have y10 := g4.2.2.2.2.2.2.2.2.2.2.2
  have p0 := g3.1
  have p1 := g3.2.1
  have p2 := g3.2.2.1
  have p3 := g3.2.2.2.1
  have p4 := g3.2.2.2.2.1
  have p5 := g3.2.2.2.2.2.1
  have p6 := g3.2.2.2.2.2.2.1
  have p7 := g3.2.2.2.2.2.2.2
  have r0_0 := f19.2.1
  have r0_1 := f19.2.2.resolve_right (fun z => f20 z.1)
  have r1_0 := f27.2.1
  have r1_1 := f27.2.2.1
  have r1_2 := f27.2.2.2.1
  have r1_3 := f27.2.2.2.2.1
  have r1_4 := f27.2.2.2.2.2.1
  have r1_5 := f27.2.2.2.2.2.2.1
  have r1_6 := f27.2.2.2.2.2.2.2.1
  have r1_7 := f27.2.2.2.2.2.2.2.2
  try simp only [e11] at r0_0
  try simp only [e3, e5, e7, e9, e11, e13, e16] at r0_1
  try simp only [e9] at r1_0
  try simp only [e9] at r1_1
  try simp only [e11] at r1_2
  try simp only [e9] at r1_3
  try simp only [e13] at r1_4
  try simp only [e9, e18] at r1_7
  clear g3
  clear g4
  have wb0 := (p7 (hV H0 285 32).toNat).1
  have wp0 := (p7 (hV H0 285 33).toNat).2
  try simp only [e3, e5, e7] at wb0
  try simp only [e3, e5, e7] at wp0
  clear f14 f30 e3 e5 e7 e9 e11 e13 e16 e18
  clear f10 f19 f27
  subst e0
  subst e1
  first
  | (have ix0 : n14 = n1 + 1 := Eq.trans f32 (w32_iv (Iad (Iat f3 f2) (IC 1)) (by decide)); subst ix0; clear f32)
  | (have ix0 : n14 = n1 + 1 := Eq.trans f32 (w32_id (by omega) (by omega)); subst ix0; clear f32)
  | (unfold w32 at f32; have ix0 : n14 = n1 + 1 := (by omega); subst ix0)
  | skip
  try unfold w32 at f32

  (try clear y0 y1 p0 p5 p7)
  omega
def g_230_22_18 : vG := ([(10, [14, 4], [], 1), (31, [13], [], 0), (20, [13, 2], [3], 13), (90, [13], [], 0), (91, [13], [], 2), (1223, [12, 2, 10, 11], [2, 3], 0), (90, [12], [], 0), (91, [12], [], 9999), (0, [11], [], 400), (0, [10], [], 0), (41, [4, 9], [], 0), (0, [9], [], 4), (31, [8], [], 0), (1216, [8, 2, 7], [1, 2], 0), (90, [8], [], 0), (91, [8], [], 1), (0, [7], [], 2), (30, [6], [], 0), (20, [6, 2], [1], 13), (90, [6], [], 0), (91, [6], [], 2), (31, [5], [], 0), (5000, [0, 1, 2, 3, 4, 5], [0, 1], 22), (0, [0], [], 285), (90, [1], [], 0), (91, [1], [], 1007), (0, [2], [], 285), (90, [3], [], 0), (91, [3], [], 1007), (90, [4], [], 0), (91, [4], [], 5), (90, [5], [], 0), (91, [5], [], 1)], (91, [14], [], 5))
theorem c_230_22_18 {q0 : Nat} : vOkm T0 (eP e_230 L_230 A_230 mu_230 (some q0)) 2 g_230_22_18 := vOk_inI fun ρ η f0 f1 f2 f3 f4 f5 f6 f7 f8 f9 f10 f11 f12 f13 f14 f15 f16 f17 f18 f19 f20 f21 f22 f23 f24 f25 f26 f27 f28 f29 f30 f31 f32 => q_230_15 (q0 := q0) (n0 := ρ 5) (n1 := ρ 4) (n2 := ρ 3) (n3 := ρ 2) (n4 := ρ 1) (n5 := ρ 0) (n6 := ρ 6) (n7 := ρ 7) (n8 := ρ 8) (n9 := ρ 9) (n10 := ρ 10) (n11 := ρ 11) (n12 := ρ 12) (n13 := ρ 13) (n14 := ρ 14) (H0 := η 0) (H1 := η 1) (H2 := η 2) (H3 := η 3) f32 f31 f30 f29 f28 f27 f26 f25 f24 f23 f22 f21 f20 f19 f18 f17 f16 f15 f14 f13 f12 f11 f10 f9 f8 f7 f6 f5 f4 f3 f2 f1 f0
set_option maxHeartbeats 20000000 in
theorem q_230_16 {q0 : Nat} {n0 n1 n2 n3 n4 n5 n6 n7 n8 n9 n10 n11 n12 n13 n14 n15 n16 : Int} {H0 H1 H2 H3 H4 : gH} (f0 : n0 ≤ 1) (f1 : 0 ≤ n0) (f2 : n1 ≤ 5) (f3 : 0 ≤ n1) (f4 : n2 ≤ 1007) (f5 : 0 ≤ n2) (f6 : n3 = 285) (f7 : n4 ≤ 1007) (f8 : 0 ≤ n4) (f9 : n5 = 285) (f10 : (hLe T0 H0 H1 ∧ hFr s_230.2.2.2.2 H0 H1 ∧ hWt T0 H1) ∧ (Ab_230_22 n5 n4 n3 n2 n1 n0 H0 H1 ∧ preb_230 n5 n4 H0) ∧ some q0 = some (mub_230_22 n5 n4 n3 n2 n1 n0 H0 H1)) (f11 : n0 ≠ 0) (f12 : n6 ≤ 2) (f13 : 0 ≤ n6) (f14 : n6 = hV H1 (n3).toNat 13) (f15 : n6 = 0) (f16 : n7 = 2) (f17 : n8 ≤ 1) (f18 : 0 ≤ n8) (f19 : (hLe T0 H1 H2 ∧ hFr s_216.2.2.2.2 H1 H2 ∧ ((0 : Int) = 0 → H2.length = H1.length) ∧ hWt T0 H2) ∧ postb_216 n8 n3 n7 H1 H2) (f20 : n8 ≠ 0) (f21 : n9 = 4) (f22 : n1 ≠ n9) (f23 : n10 = 0) (f24 : n11 = 400) (f25 : n12 ≤ 9999) (f26 : 0 ≤ n12) (f27 : (hLe T0 H2 H3 ∧ hFr s_223.2.2.2.2 H2 H3 ∧ ((0 : Int) = 0 → H3.length = H2.length) ∧ hWt T0 H3) ∧ postb_223 n12 n3 n10 n11 H2 H3) (f28 : n13 ≤ 2) (f29 : 0 ≤ n13) (f30 : n13 = hV H3 (n3).toNat 13) (f31 : n13 ≠ 0) (f32 : n14 = w32 (n1 + 1)) (f33 : n15 = 5) (f34 : n16 ≤ 1) (f35 : 0 ≤ n16) (f36 : (hLe T0 H3 H4 ∧ hFr s_216.2.2.2.2 H3 H4 ∧ ((0 : Int) = 0 → H4.length = H3.length) ∧ hWt T0 H4) ∧ postb_216 n16 n3 n15 H3 H4) (f37 : n16 = 0) : Ab_230_22 n5 n4 n3 n2 n14 n16 H0 H4 ∧ ∀ q, some q0 = some q → mub_230_22 n5 n4 n3 n2 n14 n16 H0 H4 < q := by
  have g4 := f10.2.1.1
  unfold Ab_230_22 at g4
  have g3 := f10.2.1.2
  unfold preb_230 at g3
  have g5 := Option.some.inj f10.2.2
  unfold mub_230_22 at g5
  unfold postb_216 at f19
  unfold postb_223 at f27
  unfold postb_216 at f36
  unfold Ab_230_22
  unfold mub_230_22
  have e0 : n6 = hV H1 285 13 := (by rw [f6] at f14; exact f14 : n6 = hV H1 285 13)
  have e1 : n13 = hV H3 285 13 := (by rw [f6] at f30; exact f30 : n13 = hV H3 285 13)
  have e3 : hV H1 285 18 = hV H0 285 18 := (f10.1.2.1.1 285 18 kF_230_285_18)
  have e5 : hV H1 285 32 = hV H0 285 32 := (f10.1.2.1.1 285 32 kF_230_285_32)
  have e7 : hV H1 285 33 = hV H0 285 33 := (f10.1.2.1.1 285 33 kF_230_285_33)
  have e9 : hV H2 285 11 = hV H1 285 11 := (f19.1.2.1.1 285 11 kF_216_285_11)
  have e11 : hV H2 285 13 = hV H1 285 13 := (f19.1.2.1.1 285 13 kF_216_285_13)
  have e13 : hV H2 285 15 = hV H1 285 15 := (f19.1.2.1.1 285 15 kF_216_285_15)
  have e16 : hV H2 288 = hV H0 288 := (fRow f19.1.2.1 288 kR_216_288).trans (fRow f10.1.2.1 288 kR_230_288)
  have e18 : hV H3 288 = hV H0 288 := (fRow f27.1.2.1 288 kR_223_288).trans e16
  have e20 : hV H4 285 11 = hV H3 285 11 := (f36.1.2.1.1 285 11 kF_216_285_11)
  have e22 : hV H4 285 13 = hV H3 285 13 := (f36.1.2.1.1 285 13 kF_216_285_13)
  have e24 : hV H4 285 15 = hV H3 285 15 := (f36.1.2.1.1 285 15 kF_216_285_15)
  have e26 : hV H4 288 = hV H0 288 := (fRow f36.1.2.1 288 kR_216_288).trans e18
  have e31 : hV H4 300 = hV H1 300 := (fRow f36.1.2.1 300 kR_216_300).trans ((fRow f27.1.2.1 300 kR_223_300).trans (fRow f19.1.2.1 300 kR_216_300))
  have e32 : PA H2 = PA H1 := PA_fr f19.1.2.1 (by decide +kernel)
  have e33 : PA H3 = PA H2 := PA_fr f27.1.2.1 (by decide +kernel)
  have e34 : PA H3 = PA H1 := e33.trans e32
  have e35 : PA H4 = PA H3 := PA_fr f36.1.2.1 (by decide +kernel)
  have e36 : PA H4 = PA H1 := e35.trans e34
  have e37 : PW H2 = PW H1 := PW_fr f19.1.2.1 (by decide +kernel)
  have e38 : PW H3 = PW H2 := PW_fr f27.1.2.1 (by decide +kernel)
  have e39 : PW H3 = PW H1 := e38.trans e37
  have e40 : PW H4 = PW H3 := PW_fr f36.1.2.1 (by decide +kernel)
  have e41 : PW H4 = PW H1 := e40.trans e39
  have e42 : (0 : Int) ≤ hV H1 285 11 ∧ hV H1 285 11 ≤ 500 := f10.1.2.2 285 11 _ _ kW_285_11
  have e43 : (0 : Int) ≤ hV H1 285 13 ∧ hV H1 285 13 ≤ 2 := f10.1.2.2 285 13 _ _ kW_285_13
  have e44 : (0 : Int) ≤ hV H1 285 15 ∧ hV H1 285 15 ≤ 6 := f10.1.2.2 285 15 _ _ kW_285_15
  have e45 : (0 : Int) ≤ hV H0 285 18 ∧ hV H0 285 18 ≤ 8 := bTo e3 (f10.1.2.2 285 18 _ _ kW_285_18)
  have e46 : (0 : Int) ≤ hV H0 285 32 ∧ hV H0 285 32 ≤ 7 := bTo e5 (f10.1.2.2 285 32 _ _ kW_285_32)
  have e47 : (0 : Int) ≤ hV H0 285 33 ∧ hV H0 285 33 ≤ 62 := bTo e7 (f10.1.2.2 285 33 _ _ kW_285_33)
  have e51 : (0 : Int) ≤ hV H3 285 11 ∧ hV H3 285 11 ≤ 500 := f27.1.2.2.2 285 11 _ _ kW_285_11
  have e52 : (0 : Int) ≤ hV H3 285 13 ∧ hV H3 285 13 ≤ 2 := f27.1.2.2.2 285 13 _ _ kW_285_13
  have e53 : (0 : Int) ≤ hV H3 285 15 ∧ hV H3 285 15 ≤ 6 := f27.1.2.2.2 285 15 _ _ kW_285_15
  try simp only [e20, e22, e24, e31, e36, e41]
  have k0 := g4.1
  have y0 := g4.2.1
  have y1 := g4.2.2.1
  have y2 := g4.2.2.2.1
  have y3 := g4.2.2.2.2.1
  have y4 := g4.2.2.2.2.2.1
  have y5 := g4.2.2.2.2.2.2.1
  have y6 := g4.2.2.2.2.2.2.2.1
  have y7 := g4.2.2.2.2.2.2.2.2.1
  have y8 := g4.2.2.2.2.2.2.2.2.2.1
  have y9 := g4.2.2.2.2.2.2.2.2.2.2.1
  have y10 := g4.2.2.2.2.2.2.2.2.2.2.2
  have p0 := g3.1
  have p1 := g3.2.1
  have p2 := g3.2.2.1
  have p3 := g3.2.2.2.1
  have p4 := g3.2.2.2.2.1
  have p5 := g3.2.2.2.2.2.1
  have p6 := g3.2.2.2.2.2.2.1
  have p7 := g3.2.2.2.2.2.2.2
  have r0_0 := f19.2.1
  have r0_1 := f19.2.2.resolve_right (fun z => f20 z.1)
  have r1_0 := f27.2.1
  have r1_1 := f27.2.2.1
  have r1_2 := f27.2.2.2.1
  have r1_3 := f27.2.2.2.2.1
  have r1_4 := f27.2.2.2.2.2.1
  have r1_5 := f27.2.2.2.2.2.2.1
  have r1_6 := f27.2.2.2.2.2.2.2.1
  have r1_7 := f27.2.2.2.2.2.2.2.2
  have r2_0 := f36.2.1
  have r2_1 := f36.2.2
  try simp only [e11] at r0_0
  try simp only [e3, e5, e7, e9, e11, e13, e16] at r0_1
  try simp only [e9] at r1_0
  try simp only [e9] at r1_1
  try simp only [e11] at r1_2
  try simp only [e9] at r1_3
  try simp only [e13] at r1_4
  try simp only [e9, e18] at r1_7
  try simp only [e22] at r2_0
  try simp only [e20, e22, e26] at r2_1
  clear g3
  clear g4
  have wb0 := (p7 (hV H0 285 32).toNat).1
  have wp0 := (p7 (hV H0 285 33).toNat).2
  try simp only [e3, e5, e7] at wb0
  try simp only [e3, e5, e7] at wp0
  clear f14 f30 e3 e5 e7 e9 e11 e13 e16 e18 e20 e22 e24 e26 e31 e32 e33 e34 e35 e36 e37 e38 e39 e40 e41
  clear f10 f19 f27 f36
  subst e0
  subst e1
  first
  | (have ix0 : n14 = n1 + 1 := Eq.trans f32 (w32_iv (Iad (Iat f3 f2) (IC 1)) (by decide)); subst ix0; clear f32)
  | (have ix0 : n14 = n1 + 1 := Eq.trans f32 (w32_id (by omega) (by omega)); subst ix0; clear f32)
  | (unfold w32 at f32; have ix0 : n14 = n1 + 1 := (by omega); subst ix0)
  | skip
  try unfold w32 at f32

  refine ⟨⟨?_, ?_, ?_, ?_⟩, fun q hq => ?_⟩
  · first | exact True.intro | rfl | omega
  · exact y0
  · intro z1 z2
    exact y1 (by omega) (by omega)
  · (try clear y0 y1 p0 p5 p7)
    first
    | omega
    | (refine ⟨?_, ?_, ?_, ?_, ?_, ?_, ?_, ?_, ?_⟩ <;> first | exact True.intro | omega)
  · (try clear y0 y1 p0 p5 p7)
    have g6 := Option.some.inj hq
    subst g6
    omega
def g_230_22_19 : vG := ([(30, [16], [], 0), (1216, [16, 2, 15], [3, 4], 0), (90, [16], [], 0), (91, [16], [], 1), (0, [15], [], 5), (10, [14, 4], [], 1), (31, [13], [], 0), (20, [13, 2], [3], 13), (90, [13], [], 0), (91, [13], [], 2), (1223, [12, 2, 10, 11], [2, 3], 0), (90, [12], [], 0), (91, [12], [], 9999), (0, [11], [], 400), (0, [10], [], 0), (41, [4, 9], [], 0), (0, [9], [], 4), (31, [8], [], 0), (1216, [8, 2, 7], [1, 2], 0), (90, [8], [], 0), (91, [8], [], 1), (0, [7], [], 2), (30, [6], [], 0), (20, [6, 2], [1], 13), (90, [6], [], 0), (91, [6], [], 2), (31, [5], [], 0), (5000, [0, 1, 2, 3, 4, 5], [0, 1], 22), (0, [0], [], 285), (90, [1], [], 0), (91, [1], [], 1007), (0, [2], [], 285), (90, [3], [], 0), (91, [3], [], 1007), (90, [4], [], 0), (91, [4], [], 5), (90, [5], [], 0), (91, [5], [], 1)], (4000, [2, 3, 14, 16], [4], 22))
theorem c_230_22_19 {q0 : Nat} : vOkm T0 (eP e_230 L_230 A_230 mu_230 (some q0)) 2 g_230_22_19 := vOk_inI fun ρ η f0 f1 f2 f3 f4 f5 f6 f7 f8 f9 f10 f11 f12 f13 f14 f15 f16 f17 f18 f19 f20 f21 f22 f23 f24 f25 f26 f27 f28 f29 f30 f31 f32 f33 f34 f35 f36 f37 => q_230_16 (q0 := q0) (n0 := ρ 5) (n1 := ρ 4) (n2 := ρ 3) (n3 := ρ 2) (n4 := ρ 1) (n5 := ρ 0) (n6 := ρ 6) (n7 := ρ 7) (n8 := ρ 8) (n9 := ρ 9) (n10 := ρ 10) (n11 := ρ 11) (n12 := ρ 12) (n13 := ρ 13) (n14 := ρ 14) (n15 := ρ 15) (n16 := ρ 16) (H0 := η 0) (H1 := η 1) (H2 := η 2) (H3 := η 3) (H4 := η 4) f37 f36 f35 f34 f33 f32 f31 f30 f29 f28 f27 f26 f25 f24 f23 f22 f21 f20 f19 f18 f17 f16 f15 f14 f13 f12 f11 f10 f9 f8 f7 f6 f5 f4 f3 f2 f1 f0
def g_230_22_20 : vG := ([(10, [14, 4], [], 1), (31, [13], [], 0), (20, [13, 2], [3], 13), (90, [13], [], 0), (91, [13], [], 2), (1223, [12, 2, 10, 11], [2, 3], 0), (90, [12], [], 0), (91, [12], [], 9999), (0, [11], [], 400), (0, [10], [], 0), (41, [4, 9], [], 0), (0, [9], [], 4), (31, [8], [], 0), (1216, [8, 2, 7], [1, 2], 0), (90, [8], [], 0), (91, [8], [], 1), (0, [7], [], 2), (30, [6], [], 0), (20, [6, 2], [1], 13), (90, [6], [], 0), (91, [6], [], 2), (31, [5], [], 0), (5000, [0, 1, 2, 3, 4, 5], [0, 1], 22), (0, [0], [], 285), (90, [1], [], 0), (91, [1], [], 1007), (0, [2], [], 285), (90, [3], [], 0), (91, [3], [], 1007), (90, [4], [], 0), (91, [4], [], 5), (90, [5], [], 0), (91, [5], [], 1)], (90, [14], [], 0))
theorem c_230_22_20 {q0 : Nat} : vOkm T0 (eP e_230 L_230 A_230 mu_230 (some q0)) 2 g_230_22_20 := vOk_inI fun ρ η f0 f1 f2 f3 f4 f5 f6 f7 f8 f9 f10 f11 f12 f13 f14 f15 f16 f17 f18 f19 f20 f21 f22 f23 f24 f25 f26 f27 f28 f29 f30 f31 f32 => q_230_14 (q0 := q0) (n0 := ρ 5) (n1 := ρ 4) (n2 := ρ 3) (n3 := ρ 2) (n4 := ρ 1) (n5 := ρ 0) (n6 := ρ 6) (n7 := ρ 7) (n8 := ρ 8) (n9 := ρ 9) (n10 := ρ 10) (n11 := ρ 11) (n12 := ρ 12) (n13 := ρ 13) (n14 := ρ 14) (H0 := η 0) (H1 := η 1) (H2 := η 2) (H3 := η 3) f32 f31 f30 f29 f28 f27 f26 f25 f24 f23 f22 f21 f20 f19 f18 f17 f16 f15 f14 f13 f12 f11 f10 f9 f8 f7 f6 f5 f4 f3 f2 f1 f0
def g_230_22_21 : vG := ([(10, [14, 4], [], 1), (31, [13], [], 0), (20, [13, 2], [3], 13), (90, [13], [], 0), (91, [13], [], 2), (1223, [12, 2, 10, 11], [2, 3], 0), (90, [12], [], 0), (91, [12], [], 9999), (0, [11], [], 400), (0, [10], [], 0), (41, [4, 9], [], 0), (0, [9], [], 4), (31, [8], [], 0), (1216, [8, 2, 7], [1, 2], 0), (90, [8], [], 0), (91, [8], [], 1), (0, [7], [], 2), (30, [6], [], 0), (20, [6, 2], [1], 13), (90, [6], [], 0), (91, [6], [], 2), (31, [5], [], 0), (5000, [0, 1, 2, 3, 4, 5], [0, 1], 22), (0, [0], [], 285), (90, [1], [], 0), (91, [1], [], 1007), (0, [2], [], 285), (90, [3], [], 0), (91, [3], [], 1007), (90, [4], [], 0), (91, [4], [], 5), (90, [5], [], 0), (91, [5], [], 1)], (91, [14], [], 5))
theorem c_230_22_21 {q0 : Nat} : vOkm T0 (eP e_230 L_230 A_230 mu_230 (some q0)) 2 g_230_22_21 := vOk_inI fun ρ η f0 f1 f2 f3 f4 f5 f6 f7 f8 f9 f10 f11 f12 f13 f14 f15 f16 f17 f18 f19 f20 f21 f22 f23 f24 f25 f26 f27 f28 f29 f30 f31 f32 => q_230_15 (q0 := q0) (n0 := ρ 5) (n1 := ρ 4) (n2 := ρ 3) (n3 := ρ 2) (n4 := ρ 1) (n5 := ρ 0) (n6 := ρ 6) (n7 := ρ 7) (n8 := ρ 8) (n9 := ρ 9) (n10 := ρ 10) (n11 := ρ 11) (n12 := ρ 12) (n13 := ρ 13) (n14 := ρ 14) (H0 := η 0) (H1 := η 1) (H2 := η 2) (H3 := η 3) f32 f31 f30 f29 f28 f27 f26 f25 f24 f23 f22 f21 f20 f19 f18 f17 f16 f15 f14 f13 f12 f11 f10 f9 f8 f7 f6 f5 f4 f3 f2 f1 f0
set_option maxHeartbeats 20000000 in
theorem q_230_17 {q0 : Nat} {n0 n1 n2 n3 n4 n5 n6 n7 n8 n9 n10 n11 n12 n13 n14 n15 n16 : Int} {H0 H1 H2 H3 H4 H5 : gH} (f0 : n0 ≤ 1) (f1 : 0 ≤ n0) (f2 : n1 ≤ 5) (f3 : 0 ≤ n1) (f4 : n2 ≤ 1007) (f5 : 0 ≤ n2) (f6 : n3 = 285) (f7 : n4 ≤ 1007) (f8 : 0 ≤ n4) (f9 : n5 = 285) (f10 : (hLe T0 H0 H1 ∧ hFr s_230.2.2.2.2 H0 H1 ∧ hWt T0 H1) ∧ (Ab_230_22 n5 n4 n3 n2 n1 n0 H0 H1 ∧ preb_230 n5 n4 H0) ∧ some q0 = some (mub_230_22 n5 n4 n3 n2 n1 n0 H0 H1)) (f11 : n0 ≠ 0) (f12 : n6 ≤ 2) (f13 : 0 ≤ n6) (f14 : n6 = hV H1 (n3).toNat 13) (f15 : n6 = 0) (f16 : n7 = 2) (f17 : n8 ≤ 1) (f18 : 0 ≤ n8) (f19 : (hLe T0 H1 H2 ∧ hFr s_216.2.2.2.2 H1 H2 ∧ ((0 : Int) = 0 → H2.length = H1.length) ∧ hWt T0 H2) ∧ postb_216 n8 n3 n7 H1 H2) (f20 : n8 ≠ 0) (f21 : n9 = 4) (f22 : n1 ≠ n9) (f23 : n10 = 0) (f24 : n11 = 400) (f25 : n12 ≤ 9999) (f26 : 0 ≤ n12) (f27 : (hLe T0 H2 H3 ∧ hFr s_223.2.2.2.2 H2 H3 ∧ ((0 : Int) = 0 → H3.length = H2.length) ∧ hWt T0 H3) ∧ postb_223 n12 n3 n10 n11 H2 H3) (f28 : n13 ≤ 2) (f29 : 0 ≤ n13) (f30 : n13 = hV H3 (n3).toNat 13) (f31 : n13 ≠ 0) (f32 : n14 = w32 (n1 + 1)) (f33 : n15 = 5) (f34 : n16 ≤ 1) (f35 : 0 ≤ n16) (f36 : (hLe T0 H3 H4 ∧ hFr s_216.2.2.2.2 H3 H4 ∧ ((0 : Int) = 0 → H4.length = H3.length) ∧ hWt T0 H4) ∧ postb_216 n16 n3 n15 H3 H4) (f37 : n16 ≠ 0) (f38 : (hLe T0 H4 H5 ∧ hFr s_219.2.2.2.2 H4 H5 ∧ ((0 : Int) = 0 → H5.length = H4.length) ∧ hWt T0 H5) ∧ postb_219 n3 H4 H5) : Ab_230_22 n5 n4 n3 n2 n14 n16 H0 H5 ∧ ∀ q, some q0 = some q → mub_230_22 n5 n4 n3 n2 n14 n16 H0 H5 < q := by
  have g4 := f10.2.1.1
  unfold Ab_230_22 at g4
  have g3 := f10.2.1.2
  unfold preb_230 at g3
  have g5 := Option.some.inj f10.2.2
  unfold mub_230_22 at g5
  unfold postb_216 at f19
  unfold postb_223 at f27
  unfold postb_216 at f36
  unfold postb_219 at f38
  unfold Ab_230_22
  unfold mub_230_22
  have e0 : n6 = hV H1 285 13 := (by rw [f6] at f14; exact f14 : n6 = hV H1 285 13)
  have e1 : n13 = hV H3 285 13 := (by rw [f6] at f30; exact f30 : n13 = hV H3 285 13)
  have e3 : hV H1 285 18 = hV H0 285 18 := (f10.1.2.1.1 285 18 kF_230_285_18)
  have e5 : hV H1 285 32 = hV H0 285 32 := (f10.1.2.1.1 285 32 kF_230_285_32)
  have e7 : hV H1 285 33 = hV H0 285 33 := (f10.1.2.1.1 285 33 kF_230_285_33)
  have e9 : hV H2 285 11 = hV H1 285 11 := (f19.1.2.1.1 285 11 kF_216_285_11)
  have e11 : hV H2 285 13 = hV H1 285 13 := (f19.1.2.1.1 285 13 kF_216_285_13)
  have e13 : hV H2 285 15 = hV H1 285 15 := (f19.1.2.1.1 285 15 kF_216_285_15)
  have e16 : hV H2 288 = hV H0 288 := (fRow f19.1.2.1 288 kR_216_288).trans (fRow f10.1.2.1 288 kR_230_288)
  have e18 : hV H3 288 = hV H0 288 := (fRow f27.1.2.1 288 kR_223_288).trans e16
  have e20 : hV H4 285 11 = hV H3 285 11 := (f36.1.2.1.1 285 11 kF_216_285_11)
  have e22 : hV H4 285 13 = hV H3 285 13 := (f36.1.2.1.1 285 13 kF_216_285_13)
  have e24 : hV H4 288 = hV H0 288 := (fRow f36.1.2.1 288 kR_216_288).trans e18
  have e27 : hV H5 285 15 = hV H3 285 15 := ((f38.1.2.1.1 285 15 kF_219_285_15)).trans (f36.1.2.1.1 285 15 kF_216_285_15)
  have e34 : hV H5 300 = hV H1 300 := (fRow f38.1.2.1 300 kR_219_300).trans ((fRow f36.1.2.1 300 kR_216_300).trans ((fRow f27.1.2.1 300 kR_223_300).trans (fRow f19.1.2.1 300 kR_216_300)))
  have e35 : PA H2 = PA H1 := PA_fr f19.1.2.1 (by decide +kernel)
  have e36 : PA H3 = PA H2 := PA_fr f27.1.2.1 (by decide +kernel)
  have e37 : PA H3 = PA H1 := e36.trans e35
  have e38 : PA H4 = PA H3 := PA_fr f36.1.2.1 (by decide +kernel)
  have e39 : PA H4 = PA H1 := e38.trans e37
  have e40 : PA H5 = PA H4 := PA_fr f38.1.2.1 (by decide +kernel)
  have e41 : PA H5 = PA H1 := e40.trans e39
  have e42 : PW H2 = PW H1 := PW_fr f19.1.2.1 (by decide +kernel)
  have e43 : PW H3 = PW H2 := PW_fr f27.1.2.1 (by decide +kernel)
  have e44 : PW H3 = PW H1 := e43.trans e42
  have e45 : PW H4 = PW H3 := PW_fr f36.1.2.1 (by decide +kernel)
  have e46 : PW H4 = PW H1 := e45.trans e44
  have e47 : PW H5 = PW H4 := PW_fr f38.1.2.1 (by decide +kernel)
  have e48 : PW H5 = PW H1 := e47.trans e46
  have e49 : (0 : Int) ≤ hV H1 285 11 ∧ hV H1 285 11 ≤ 500 := f10.1.2.2 285 11 _ _ kW_285_11
  have e50 : (0 : Int) ≤ hV H1 285 13 ∧ hV H1 285 13 ≤ 2 := f10.1.2.2 285 13 _ _ kW_285_13
  have e51 : (0 : Int) ≤ hV H1 285 15 ∧ hV H1 285 15 ≤ 6 := f10.1.2.2 285 15 _ _ kW_285_15
  have e52 : (0 : Int) ≤ hV H0 285 18 ∧ hV H0 285 18 ≤ 8 := bTo e3 (f10.1.2.2 285 18 _ _ kW_285_18)
  have e53 : (0 : Int) ≤ hV H0 285 32 ∧ hV H0 285 32 ≤ 7 := bTo e5 (f10.1.2.2 285 32 _ _ kW_285_32)
  have e54 : (0 : Int) ≤ hV H0 285 33 ∧ hV H0 285 33 ≤ 62 := bTo e7 (f10.1.2.2 285 33 _ _ kW_285_33)
  have e58 : (0 : Int) ≤ hV H3 285 11 ∧ hV H3 285 11 ≤ 500 := f27.1.2.2.2 285 11 _ _ kW_285_11
  have e59 : (0 : Int) ≤ hV H3 285 13 ∧ hV H3 285 13 ≤ 2 := f27.1.2.2.2 285 13 _ _ kW_285_13
  have e60 : (0 : Int) ≤ hV H3 285 15 ∧ hV H3 285 15 ≤ 6 := f27.1.2.2.2 285 15 _ _ kW_285_15
  have e63 : (0 : Int) ≤ hV H5 285 11 ∧ hV H5 285 11 ≤ 500 := f38.1.2.2.2 285 11 _ _ kW_285_11
  have e64 : (0 : Int) ≤ hV H5 285 13 ∧ hV H5 285 13 ≤ 2 := f38.1.2.2.2 285 13 _ _ kW_285_13
  try simp only [e27, e34, e41, e48]
  have k0 := g4.1
  have y0 := g4.2.1
  have y1 := g4.2.2.1
  have y2 := g4.2.2.2.1
  have y3 := g4.2.2.2.2.1
  have y4 := g4.2.2.2.2.2.1
  have y5 := g4.2.2.2.2.2.2.1
  have y6 := g4.2.2.2.2.2.2.2.1
  have y7 := g4.2.2.2.2.2.2.2.2.1
  have y8 := g4.2.2.2.2.2.2.2.2.2.1
  have y9 := g4.2.2.2.2.2.2.2.2.2.2.1
  have y10 := g4.2.2.2.2.2.2.2.2.2.2.2
  have p0 := g3.1
  have p1 := g3.2.1
  have p2 := g3.2.2.1
  have p3 := g3.2.2.2.1
  have p4 := g3.2.2.2.2.1
  have p5 := g3.2.2.2.2.2.1
  have p6 := g3.2.2.2.2.2.2.1
  have p7 := g3.2.2.2.2.2.2.2
  have r0_0 := f19.2.1
  have r0_1 := f19.2.2.resolve_right (fun z => f20 z.1)
  have r1_0 := f27.2.1
  have r1_1 := f27.2.2.1
  have r1_2 := f27.2.2.2.1
  have r1_3 := f27.2.2.2.2.1
  have r1_4 := f27.2.2.2.2.2.1
  have r1_5 := f27.2.2.2.2.2.2.1
  have r1_6 := f27.2.2.2.2.2.2.2.1
  have r1_7 := f27.2.2.2.2.2.2.2.2
  have r2_0 := f36.2.1
  have r2_1 := f36.2.2.resolve_right (fun z => f37 z.1)
  have r3_0 := f38.2.1
  have r3_1 := f38.2.2.1
  have r3_2 := f38.2.2.2.1
  have r3_3 := f38.2.2.2.2
  try simp only [e11] at r0_0
  try simp only [e3, e5, e7, e9, e11, e13, e16] at r0_1
  try simp only [e9] at r1_0
  try simp only [e9] at r1_1
  try simp only [e11] at r1_2
  try simp only [e9] at r1_3
  try simp only [e13] at r1_4
  try simp only [e9, e18] at r1_7
  try simp only [e22] at r2_0
  try simp only [e18, e20, e22, e24] at r2_1
  try simp only [e20] at r3_0
  try simp only [e20] at r3_1
  try simp only [e22] at r3_2
  try simp only [e20] at r3_3
  clear g3
  clear g4
  have wb0 := (p7 (hV H0 285 32).toNat).1
  have wp0 := (p7 (hV H0 285 33).toNat).2
  try simp only [e3, e5, e7] at wb0
  try simp only [e3, e5, e7] at wp0
  clear f14 f30 e3 e5 e7 e9 e11 e13 e16 e18 e20 e22 e24 e27 e34 e35 e36 e37 e38 e39 e40 e41 e42 e43 e44 e45 e46 e47 e48
  clear f10 f19 f27 f36 f38
  subst e0
  subst e1
  first
  | (have ix0 : n14 = n1 + 1 := Eq.trans f32 (w32_iv (Iad (Iat f3 f2) (IC 1)) (by decide)); subst ix0; clear f32)
  | (have ix0 : n14 = n1 + 1 := Eq.trans f32 (w32_id (by omega) (by omega)); subst ix0; clear f32)
  | (unfold w32 at f32; have ix0 : n14 = n1 + 1 := (by omega); subst ix0)
  | skip
  try unfold w32 at f32

  refine ⟨⟨?_, ?_, ?_, ?_⟩, fun q hq => ?_⟩
  · first | exact True.intro | rfl | omega
  · exact y0
  · intro z1 z2
    exact y1 (by omega) (by omega)
  · (try clear y0 y1 p0 p5 p7)
    first
    | omega
    | (refine ⟨?_, ?_, ?_, ?_, ?_, ?_, ?_, ?_, ?_⟩ <;> first | exact True.intro | omega)
  · (try clear y0 y1 p0 p5 p7)
    have g6 := Option.some.inj hq
    subst g6
    omega
def g_230_22_22 : vG := ([(1219, [2], [4, 5], 0), (31, [16], [], 0), (1216, [16, 2, 15], [3, 4], 0), (90, [16], [], 0), (91, [16], [], 1), (0, [15], [], 5), (10, [14, 4], [], 1), (31, [13], [], 0), (20, [13, 2], [3], 13), (90, [13], [], 0), (91, [13], [], 2), (1223, [12, 2, 10, 11], [2, 3], 0), (90, [12], [], 0), (91, [12], [], 9999), (0, [11], [], 400), (0, [10], [], 0), (41, [4, 9], [], 0), (0, [9], [], 4), (31, [8], [], 0), (1216, [8, 2, 7], [1, 2], 0), (90, [8], [], 0), (91, [8], [], 1), (0, [7], [], 2), (30, [6], [], 0), (20, [6, 2], [1], 13), (90, [6], [], 0), (91, [6], [], 2), (31, [5], [], 0), (5000, [0, 1, 2, 3, 4, 5], [0, 1], 22), (0, [0], [], 285), (90, [1], [], 0), (91, [1], [], 1007), (0, [2], [], 285), (90, [3], [], 0), (91, [3], [], 1007), (90, [4], [], 0), (91, [4], [], 5), (90, [5], [], 0), (91, [5], [], 1)], (4000, [2, 3, 14, 16], [5], 22))
theorem c_230_22_22 {q0 : Nat} : vOkm T0 (eP e_230 L_230 A_230 mu_230 (some q0)) 2 g_230_22_22 := vOk_inI fun ρ η f0 f1 f2 f3 f4 f5 f6 f7 f8 f9 f10 f11 f12 f13 f14 f15 f16 f17 f18 f19 f20 f21 f22 f23 f24 f25 f26 f27 f28 f29 f30 f31 f32 f33 f34 f35 f36 f37 f38 => q_230_17 (q0 := q0) (n0 := ρ 5) (n1 := ρ 4) (n2 := ρ 3) (n3 := ρ 2) (n4 := ρ 1) (n5 := ρ 0) (n6 := ρ 6) (n7 := ρ 7) (n8 := ρ 8) (n9 := ρ 9) (n10 := ρ 10) (n11 := ρ 11) (n12 := ρ 12) (n13 := ρ 13) (n14 := ρ 14) (n15 := ρ 15) (n16 := ρ 16) (H0 := η 0) (H1 := η 1) (H2 := η 2) (H3 := η 3) (H4 := η 4) (H5 := η 5) f38 f37 f36 f35 f34 f33 f32 f31 f30 f29 f28 f27 f26 f25 f24 f23 f22 f21 f20 f19 f18 f17 f16 f15 f14 f13 f12 f11 f10 f9 f8 f7 f6 f5 f4 f3 f2 f1 f0
set_option maxHeartbeats 20000000 in
theorem q_230_18 {q0 : Nat} {n0 n1 n2 n3 n4 n5 n6 n7 n8 n9 n10 n11 n12 n13 n14 n15 n16 n17 n18 : Int} {H0 H1 H2 H3 : gH} (f0 : n0 ≤ 1) (f1 : 0 ≤ n0) (f2 : n1 ≤ 5) (f3 : 0 ≤ n1) (f4 : n2 ≤ 1007) (f5 : 0 ≤ n2) (f6 : n3 = 285) (f7 : n4 ≤ 1007) (f8 : 0 ≤ n4) (f9 : n5 = 285) (f10 : (hLe T0 H0 H1 ∧ hFr s_230.2.2.2.2 H0 H1 ∧ hWt T0 H1) ∧ (Ab_230_22 n5 n4 n3 n2 n1 n0 H0 H1 ∧ preb_230 n5 n4 H0) ∧ some q0 = some (mub_230_22 n5 n4 n3 n2 n1 n0 H0 H1)) (f11 : n0 ≠ 0) (f12 : n6 ≤ 2) (f13 : 0 ≤ n6) (f14 : n6 = hV H1 (n3).toNat 13) (f15 : n6 = 0) (f16 : n7 = 2) (f17 : n8 ≤ 1) (f18 : 0 ≤ n8) (f19 : (hLe T0 H1 H2 ∧ hFr s_216.2.2.2.2 H1 H2 ∧ ((0 : Int) = 0 → H2.length = H1.length) ∧ hWt T0 H2) ∧ postb_216 n8 n3 n7 H1 H2) (f20 : n8 ≠ 0) (f21 : n9 = 4) (f22 : n1 ≠ n9) (f23 : n10 = 0) (f24 : n11 = 400) (f25 : n12 ≤ 9999) (f26 : 0 ≤ n12) (f27 : (hLe T0 H2 H3 ∧ hFr s_223.2.2.2.2 H2 H3 ∧ ((0 : Int) = 0 → H3.length = H2.length) ∧ hWt T0 H3) ∧ postb_223 n12 n3 n10 n11 H2 H3) (f28 : n13 ≤ 2) (f29 : 0 ≤ n13) (f30 : n13 = hV H3 (n3).toNat 13) (f31 : n13 = 0) (f32 : n14 = 6) (f33 : n15 = w32 (n14 * n2)) (f34 : n16 = 1) (f35 : n17 = w32 (n15 + n16)) (f36 : n18 = w32 (n17 + n1)) : 0 ≤ n18 ∧ n18 < 6048 := by
  have g4 := f10.2.1.1
  unfold Ab_230_22 at g4
  have g3 := f10.2.1.2
  unfold preb_230 at g3
  unfold postb_216 at f19
  unfold postb_223 at f27
  have e0 : n6 = hV H1 285 13 := (by rw [f6] at f14; exact f14 : n6 = hV H1 285 13)
  have e1 : n13 = hV H3 285 13 := (by rw [f6] at f30; exact f30 : n13 = hV H3 285 13)
  have e3 : hV H1 285 18 = hV H0 285 18 := (f10.1.2.1.1 285 18 kF_230_285_18)
  have e5 : hV H1 285 32 = hV H0 285 32 := (f10.1.2.1.1 285 32 kF_230_285_32)
  have e7 : hV H1 285 33 = hV H0 285 33 := (f10.1.2.1.1 285 33 kF_230_285_33)
  have e9 : hV H2 285 11 = hV H1 285 11 := (f19.1.2.1.1 285 11 kF_216_285_11)
  have e11 : hV H2 285 13 = hV H1 285 13 := (f19.1.2.1.1 285 13 kF_216_285_13)
  have e13 : hV H2 285 15 = hV H1 285 15 := (f19.1.2.1.1 285 15 kF_216_285_15)
  have e16 : hV H2 288 = hV H0 288 := (fRow f19.1.2.1 288 kR_216_288).trans (fRow f10.1.2.1 288 kR_230_288)
  have e18 : hV H3 288 = hV H0 288 := (fRow f27.1.2.1 288 kR_223_288).trans e16
  have e19 : (0 : Int) ≤ hV H1 285 11 ∧ hV H1 285 11 ≤ 500 := f10.1.2.2 285 11 _ _ kW_285_11
  have e20 : (0 : Int) ≤ hV H1 285 13 ∧ hV H1 285 13 ≤ 2 := f10.1.2.2 285 13 _ _ kW_285_13
  have e21 : (0 : Int) ≤ hV H1 285 15 ∧ hV H1 285 15 ≤ 6 := f10.1.2.2 285 15 _ _ kW_285_15
  have e22 : (0 : Int) ≤ hV H0 285 18 ∧ hV H0 285 18 ≤ 8 := bTo e3 (f10.1.2.2 285 18 _ _ kW_285_18)
  have e23 : (0 : Int) ≤ hV H0 285 32 ∧ hV H0 285 32 ≤ 7 := bTo e5 (f10.1.2.2 285 32 _ _ kW_285_32)
  have e24 : (0 : Int) ≤ hV H0 285 33 ∧ hV H0 285 33 ≤ 62 := bTo e7 (f10.1.2.2 285 33 _ _ kW_285_33)
  have e28 : (0 : Int) ≤ hV H3 285 11 ∧ hV H3 285 11 ≤ 500 := f27.1.2.2.2 285 11 _ _ kW_285_11
  have e29 : (0 : Int) ≤ hV H3 285 13 ∧ hV H3 285 13 ≤ 2 := f27.1.2.2.2 285 13 _ _ kW_285_13
  have e30 : (0 : Int) ≤ hV H3 285 15 ∧ hV H3 285 15 ≤ 6 := f27.1.2.2.2 285 15 _ _ kW_285_15
  have k0 := g4.1
  have y0 := g4.2.1
  have y1 := g4.2.2.1
  have y2 := g4.2.2.2.1
  have y3 := g4.2.2.2.2.1
  have y4 := g4.2.2.2.2.2.1
  have y5 := g4.2.2.2.2.2.2.1
  have y6 := g4.2.2.2.2.2.2.2.1
  have y7 := g4.2.2.2.2.2.2.2.2.1
  have y8 := g4.2.2.2.2.2.2.2.2.2.1
  have y9 := g4.2.2.2.2.2.2.2.2.2.2.1
  have y10 := g4.2.2.2.2.2.2.2.2.2.2.2
  have p0 := g3.1
  have p1 := g3.2.1
  have p2 := g3.2.2.1
  have p3 := g3.2.2.2.1
  have p4 := g3.2.2.2.2.1
  have p5 := g3.2.2.2.2.2.1
  have p6 := g3.2.2.2.2.2.2.1
  have p7 := g3.2.2.2.2.2.2.2
  have r0_0 := f19.2.1
  have r0_1 := f19.2.2.resolve_right (fun z => f20 z.1)
  have r1_0 := f27.2.1
  have r1_1 := f27.2.2.1
  have r1_2 := f27.2.2.2.1
  have r1_3 := f27.2.2.2.2.1
  have r1_4 := f27.2.2.2.2.2.1
  have r1_5 := f27.2.2.2.2.2.2.1
  have r1_6 := f27.2.2.2.2.2.2.2.1
  have r1_7 := f27.2.2.2.2.2.2.2.2
  try simp only [e11] at r0_0
  try simp only [e3, e5, e7, e9, e11, e13, e16] at r0_1
  try simp only [e9] at r1_0
  try simp only [e9] at r1_1
  try simp only [e11] at r1_2
  try simp only [e9] at r1_3
  try simp only [e13] at r1_4
  try simp only [e9, e18] at r1_7
  clear g3
  clear g4
  have wb0 := (p7 (hV H0 285 32).toNat).1
  have wp0 := (p7 (hV H0 285 33).toNat).2
  try simp only [e3, e5, e7] at wb0
  try simp only [e3, e5, e7] at wp0
  clear f14 f30 e3 e5 e7 e9 e11 e13 e16 e18
  clear f10 f19 f27
  subst e0
  subst e1
  rw [f32] at f33
  first
  | (have ix0 : n15 = 6 * n2 := Eq.trans f33 (w32_iv (Iml 6 rfl (Iat f5 f4)) (by decide)); subst ix0; clear f33)
  | (have ix0 : n15 = 6 * n2 := Eq.trans f33 (w32_id (by omega) (by omega)); subst ix0; clear f33)
  | (unfold w32 at f33; have ix0 : n15 = 6 * n2 := (by omega); subst ix0)
  | skip
  first
  | (have ix1 : n17 = (6 * n2) + 1 := Eq.trans f35 (w32_iv (Iad (Iml 6 rfl (Iat f5 f4)) (IC 1)) (by decide)); subst ix1; clear f35)
  | (have ix1 : n17 = (6 * n2) + 1 := Eq.trans f35 (w32_id (by omega) (by omega)); subst ix1; clear f35)
  | (unfold w32 at f35; have ix1 : n17 = (6 * n2) + 1 := (by omega); subst ix1)
  | skip
  first
  | (have ix2 : n18 = ((6 * n2) + 1) + n1 := Eq.trans f36 (w32_iv (Iad (Iad (Iml 6 rfl (Iat f5 f4)) (IC 1)) (Iat f3 f2)) (by decide)); subst ix2; clear f36)
  | (have ix2 : n18 = ((6 * n2) + 1) + n1 := Eq.trans f36 (w32_id (by omega) (by omega)); subst ix2; clear f36)
  | (unfold w32 at f36; have ix2 : n18 = ((6 * n2) + 1) + n1 := (by omega); subst ix2)
  | skip
  try unfold w32 at f33
  try unfold w32 at f35
  try unfold w32 at f36

  (try clear y0 y1 p0 p5 p7)
  omega
def g_230_22_23 : vG := ([(1, [19, 18, 4], [], 0), (1, [18, 16, 17], [], 0), (0, [17], [], 1), (3, [16, 15, 3], [], 0), (0, [15], [], 6), (30, [13], [], 0), (20, [13, 2], [3], 13), (90, [13], [], 0), (91, [13], [], 2), (1223, [12, 2, 10, 11], [2, 3], 0), (90, [12], [], 0), (91, [12], [], 9999), (0, [11], [], 400), (0, [10], [], 0), (41, [4, 9], [], 0), (0, [9], [], 4), (31, [8], [], 0), (1216, [8, 2, 7], [1, 2], 0), (90, [8], [], 0), (91, [8], [], 1), (0, [7], [], 2), (30, [6], [], 0), (20, [6, 2], [1], 13), (90, [6], [], 0), (91, [6], [], 2), (31, [5], [], 0), (5000, [0, 1, 2, 3, 4, 5], [0, 1], 22), (0, [0], [], 285), (90, [1], [], 0), (91, [1], [], 1007), (0, [2], [], 285), (90, [3], [], 0), (91, [3], [], 1007), (90, [4], [], 0), (91, [4], [], 5), (90, [5], [], 0), (91, [5], [], 1)], (70, [19], [], 6048))
theorem c_230_22_23 {q0 : Nat} : vOkm T0 (eP e_230 L_230 A_230 mu_230 (some q0)) 2 g_230_22_23 := vOk_inI fun ρ η f0 f1 f2 f3 f4 f5 f6 f7 f8 f9 f10 f11 f12 f13 f14 f15 f16 f17 f18 f19 f20 f21 f22 f23 f24 f25 f26 f27 f28 f29 f30 f31 f32 f33 f34 f35 f36 => q_230_18 (q0 := q0) (n0 := ρ 5) (n1 := ρ 4) (n2 := ρ 3) (n3 := ρ 2) (n4 := ρ 1) (n5 := ρ 0) (n6 := ρ 6) (n7 := ρ 7) (n8 := ρ 8) (n9 := ρ 9) (n10 := ρ 10) (n11 := ρ 11) (n12 := ρ 12) (n13 := ρ 13) (n14 := ρ 15) (n15 := ρ 16) (n16 := ρ 17) (n17 := ρ 18) (n18 := ρ 19) (H0 := η 0) (H1 := η 1) (H2 := η 2) (H3 := η 3) f36 f35 f34 f33 f32 f31 f30 f29 f28 f27 f26 f25 f24 f23 f22 f21 f20 f19 f18 f17 f16 f15 f14 f13 f12 f11 f10 f9 f8 f7 f6 f5 f4 f3 f2 f1 f0
set_option maxHeartbeats 20000000 in
theorem q_230_19 {q0 : Nat} {n0 n1 n2 n3 n4 n5 n6 n7 n8 n9 n10 n11 n12 n13 n14 n15 n16 n17 n18 n19 : Int} {H0 H1 H2 H3 : gH} (f0 : n0 ≤ 1) (f1 : 0 ≤ n0) (f2 : n1 ≤ 5) (f3 : 0 ≤ n1) (f4 : n2 ≤ 1007) (f5 : 0 ≤ n2) (f6 : n3 = 285) (f7 : n4 ≤ 1007) (f8 : 0 ≤ n4) (f9 : n5 = 285) (f10 : (hLe T0 H0 H1 ∧ hFr s_230.2.2.2.2 H0 H1 ∧ hWt T0 H1) ∧ (Ab_230_22 n5 n4 n3 n2 n1 n0 H0 H1 ∧ preb_230 n5 n4 H0) ∧ some q0 = some (mub_230_22 n5 n4 n3 n2 n1 n0 H0 H1)) (f11 : n0 ≠ 0) (f12 : n6 ≤ 2) (f13 : 0 ≤ n6) (f14 : n6 = hV H1 (n3).toNat 13) (f15 : n6 = 0) (f16 : n7 = 2) (f17 : n8 ≤ 1) (f18 : 0 ≤ n8) (f19 : (hLe T0 H1 H2 ∧ hFr s_216.2.2.2.2 H1 H2 ∧ ((0 : Int) = 0 → H2.length = H1.length) ∧ hWt T0 H2) ∧ postb_216 n8 n3 n7 H1 H2) (f20 : n8 ≠ 0) (f21 : n9 = 4) (f22 : n1 ≠ n9) (f23 : n10 = 0) (f24 : n11 = 400) (f25 : n12 ≤ 9999) (f26 : 0 ≤ n12) (f27 : (hLe T0 H2 H3 ∧ hFr s_223.2.2.2.2 H2 H3 ∧ ((0 : Int) = 0 → H3.length = H2.length) ∧ hWt T0 H3) ∧ postb_223 n12 n3 n10 n11 H2 H3) (f28 : n13 ≤ 2) (f29 : 0 ≤ n13) (f30 : n13 = hV H3 (n3).toNat 13) (f31 : n13 = 0) (f32 : n14 = 6) (f33 : n15 = w32 (n14 * n2)) (f34 : n16 = 1) (f35 : n17 = w32 (n15 + n16)) (f36 : n18 = w32 (n17 + n1)) (f37 : n19 = w32 (n1 + 1)) : 0 ≤ n19 := by
  have g4 := f10.2.1.1
  unfold Ab_230_22 at g4
  have g3 := f10.2.1.2
  unfold preb_230 at g3
  unfold postb_216 at f19
  unfold postb_223 at f27
  have e0 : n6 = hV H1 285 13 := (by rw [f6] at f14; exact f14 : n6 = hV H1 285 13)
  have e1 : n13 = hV H3 285 13 := (by rw [f6] at f30; exact f30 : n13 = hV H3 285 13)
  have e3 : hV H1 285 18 = hV H0 285 18 := (f10.1.2.1.1 285 18 kF_230_285_18)
  have e5 : hV H1 285 32 = hV H0 285 32 := (f10.1.2.1.1 285 32 kF_230_285_32)
  have e7 : hV H1 285 33 = hV H0 285 33 := (f10.1.2.1.1 285 33 kF_230_285_33)
  have e9 : hV H2 285 11 = hV H1 285 11 := (f19.1.2.1.1 285 11 kF_216_285_11)
  have e11 : hV H2 285 13 = hV H1 285 13 := (f19.1.2.1.1 285 13 kF_216_285_13)
  have e13 : hV H2 285 15 = hV H1 285 15 := (f19.1.2.1.1 285 15 kF_216_285_15)
  have e16 : hV H2 288 = hV H0 288 := (fRow f19.1.2.1 288 kR_216_288).trans (fRow f10.1.2.1 288 kR_230_288)
  have e18 : hV H3 288 = hV H0 288 := (fRow f27.1.2.1 288 kR_223_288).trans e16
  have e19 : (0 : Int) ≤ hV H1 285 11 ∧ hV H1 285 11 ≤ 500 := f10.1.2.2 285 11 _ _ kW_285_11
  have e20 : (0 : Int) ≤ hV H1 285 13 ∧ hV H1 285 13 ≤ 2 := f10.1.2.2 285 13 _ _ kW_285_13
  have e21 : (0 : Int) ≤ hV H1 285 15 ∧ hV H1 285 15 ≤ 6 := f10.1.2.2 285 15 _ _ kW_285_15
  have e22 : (0 : Int) ≤ hV H0 285 18 ∧ hV H0 285 18 ≤ 8 := bTo e3 (f10.1.2.2 285 18 _ _ kW_285_18)
  have e23 : (0 : Int) ≤ hV H0 285 32 ∧ hV H0 285 32 ≤ 7 := bTo e5 (f10.1.2.2 285 32 _ _ kW_285_32)
  have e24 : (0 : Int) ≤ hV H0 285 33 ∧ hV H0 285 33 ≤ 62 := bTo e7 (f10.1.2.2 285 33 _ _ kW_285_33)
  have e28 : (0 : Int) ≤ hV H3 285 11 ∧ hV H3 285 11 ≤ 500 := f27.1.2.2.2 285 11 _ _ kW_285_11
  have e29 : (0 : Int) ≤ hV H3 285 13 ∧ hV H3 285 13 ≤ 2 := f27.1.2.2.2 285 13 _ _ kW_285_13
  have e30 : (0 : Int) ≤ hV H3 285 15 ∧ hV H3 285 15 ≤ 6 := f27.1.2.2.2 285 15 _ _ kW_285_15
  have k0 := g4.1
  have y0 := g4.2.1
  have y1 := g4.2.2.1
  have y2 := g4.2.2.2.1
  have y3 := g4.2.2.2.2.1
  have y4 := g4.2.2.2.2.2.1
  have y5 := g4.2.2.2.2.2.2.1
  have y6 := g4.2.2.2.2.2.2.2.1
  have y7 := g4.2.2.2.2.2.2.2.2.1
  have y8 := g4.2.2.2.2.2.2.2.2.2.1
  have y9 := g4.2.2.2.2.2.2.2.2.2.2.1
  have y10 := g4.2.2.2.2.2.2.2.2.2.2.2
  have p0 := g3.1
  have p1 := g3.2.1
  have p2 := g3.2.2.1
  have p3 := g3.2.2.2.1
  have p4 := g3.2.2.2.2.1
  have p5 := g3.2.2.2.2.2.1
  have p6 := g3.2.2.2.2.2.2.1
  have p7 := g3.2.2.2.2.2.2.2
  have r0_0 := f19.2.1
  have r0_1 := f19.2.2.resolve_right (fun z => f20 z.1)
  have r1_0 := f27.2.1
  have r1_1 := f27.2.2.1
  have r1_2 := f27.2.2.2.1
  have r1_3 := f27.2.2.2.2.1
  have r1_4 := f27.2.2.2.2.2.1
  have r1_5 := f27.2.2.2.2.2.2.1
  have r1_6 := f27.2.2.2.2.2.2.2.1
  have r1_7 := f27.2.2.2.2.2.2.2.2
  try simp only [e11] at r0_0
  try simp only [e3, e5, e7, e9, e11, e13, e16] at r0_1
  try simp only [e9] at r1_0
  try simp only [e9] at r1_1
  try simp only [e11] at r1_2
  try simp only [e9] at r1_3
  try simp only [e13] at r1_4
  try simp only [e9, e18] at r1_7
  clear g3
  clear g4
  have wb0 := (p7 (hV H0 285 32).toNat).1
  have wp0 := (p7 (hV H0 285 33).toNat).2
  try simp only [e3, e5, e7] at wb0
  try simp only [e3, e5, e7] at wp0
  clear f14 f30 e3 e5 e7 e9 e11 e13 e16 e18
  clear f10 f19 f27
  subst e0
  subst e1
  rw [f32] at f33
  first
  | (have ix0 : n19 = n1 + 1 := Eq.trans f37 (w32_iv (Iad (Iat f3 f2) (IC 1)) (by decide)); subst ix0; clear f37)
  | (have ix0 : n19 = n1 + 1 := Eq.trans f37 (w32_id (by omega) (by omega)); subst ix0; clear f37)
  | (unfold w32 at f37; have ix0 : n19 = n1 + 1 := (by omega); subst ix0)
  | skip
  try unfold w32 at f33
  try unfold w32 at f35
  try unfold w32 at f36
  try unfold w32 at f37

  (try clear y0 y1 p0 p5 p7)
  omega
def g_230_22_24 : vG := ([(10, [20, 4], [], 1), (1, [19, 18, 4], [], 0), (1, [18, 16, 17], [], 0), (0, [17], [], 1), (3, [16, 15, 3], [], 0), (0, [15], [], 6), (30, [13], [], 0), (20, [13, 2], [3], 13), (90, [13], [], 0), (91, [13], [], 2), (1223, [12, 2, 10, 11], [2, 3], 0), (90, [12], [], 0), (91, [12], [], 9999), (0, [11], [], 400), (0, [10], [], 0), (41, [4, 9], [], 0), (0, [9], [], 4), (31, [8], [], 0), (1216, [8, 2, 7], [1, 2], 0), (90, [8], [], 0), (91, [8], [], 1), (0, [7], [], 2), (30, [6], [], 0), (20, [6, 2], [1], 13), (90, [6], [], 0), (91, [6], [], 2), (31, [5], [], 0), (5000, [0, 1, 2, 3, 4, 5], [0, 1], 22), (0, [0], [], 285), (90, [1], [], 0), (91, [1], [], 1007), (0, [2], [], 285), (90, [3], [], 0), (91, [3], [], 1007), (90, [4], [], 0), (91, [4], [], 5), (90, [5], [], 0), (91, [5], [], 1)], (90, [20], [], 0))
theorem c_230_22_24 {q0 : Nat} : vOkm T0 (eP e_230 L_230 A_230 mu_230 (some q0)) 2 g_230_22_24 := vOk_inI fun ρ η f0 f1 f2 f3 f4 f5 f6 f7 f8 f9 f10 f11 f12 f13 f14 f15 f16 f17 f18 f19 f20 f21 f22 f23 f24 f25 f26 f27 f28 f29 f30 f31 f32 f33 f34 f35 f36 f37 => q_230_19 (q0 := q0) (n0 := ρ 5) (n1 := ρ 4) (n2 := ρ 3) (n3 := ρ 2) (n4 := ρ 1) (n5 := ρ 0) (n6 := ρ 6) (n7 := ρ 7) (n8 := ρ 8) (n9 := ρ 9) (n10 := ρ 10) (n11 := ρ 11) (n12 := ρ 12) (n13 := ρ 13) (n14 := ρ 15) (n15 := ρ 16) (n16 := ρ 17) (n17 := ρ 18) (n18 := ρ 19) (n19 := ρ 20) (H0 := η 0) (H1 := η 1) (H2 := η 2) (H3 := η 3) f37 f36 f35 f34 f33 f32 f31 f30 f29 f28 f27 f26 f25 f24 f23 f22 f21 f20 f19 f18 f17 f16 f15 f14 f13 f12 f11 f10 f9 f8 f7 f6 f5 f4 f3 f2 f1 f0
set_option maxHeartbeats 20000000 in
theorem q_230_20 {q0 : Nat} {n0 n1 n2 n3 n4 n5 n6 n7 n8 n9 n10 n11 n12 n13 n14 n15 n16 n17 n18 n19 : Int} {H0 H1 H2 H3 : gH} (f0 : n0 ≤ 1) (f1 : 0 ≤ n0) (f2 : n1 ≤ 5) (f3 : 0 ≤ n1) (f4 : n2 ≤ 1007) (f5 : 0 ≤ n2) (f6 : n3 = 285) (f7 : n4 ≤ 1007) (f8 : 0 ≤ n4) (f9 : n5 = 285) (f10 : (hLe T0 H0 H1 ∧ hFr s_230.2.2.2.2 H0 H1 ∧ hWt T0 H1) ∧ (Ab_230_22 n5 n4 n3 n2 n1 n0 H0 H1 ∧ preb_230 n5 n4 H0) ∧ some q0 = some (mub_230_22 n5 n4 n3 n2 n1 n0 H0 H1)) (f11 : n0 ≠ 0) (f12 : n6 ≤ 2) (f13 : 0 ≤ n6) (f14 : n6 = hV H1 (n3).toNat 13) (f15 : n6 = 0) (f16 : n7 = 2) (f17 : n8 ≤ 1) (f18 : 0 ≤ n8) (f19 : (hLe T0 H1 H2 ∧ hFr s_216.2.2.2.2 H1 H2 ∧ ((0 : Int) = 0 → H2.length = H1.length) ∧ hWt T0 H2) ∧ postb_216 n8 n3 n7 H1 H2) (f20 : n8 ≠ 0) (f21 : n9 = 4) (f22 : n1 ≠ n9) (f23 : n10 = 0) (f24 : n11 = 400) (f25 : n12 ≤ 9999) (f26 : 0 ≤ n12) (f27 : (hLe T0 H2 H3 ∧ hFr s_223.2.2.2.2 H2 H3 ∧ ((0 : Int) = 0 → H3.length = H2.length) ∧ hWt T0 H3) ∧ postb_223 n12 n3 n10 n11 H2 H3) (f28 : n13 ≤ 2) (f29 : 0 ≤ n13) (f30 : n13 = hV H3 (n3).toNat 13) (f31 : n13 = 0) (f32 : n14 = 6) (f33 : n15 = w32 (n14 * n2)) (f34 : n16 = 1) (f35 : n17 = w32 (n15 + n16)) (f36 : n18 = w32 (n17 + n1)) (f37 : n19 = w32 (n1 + 1)) : n19 ≤ 5 := by
  have g4 := f10.2.1.1
  unfold Ab_230_22 at g4
  have g3 := f10.2.1.2
  unfold preb_230 at g3
  unfold postb_216 at f19
  unfold postb_223 at f27
  have e0 : n6 = hV H1 285 13 := (by rw [f6] at f14; exact f14 : n6 = hV H1 285 13)
  have e1 : n13 = hV H3 285 13 := (by rw [f6] at f30; exact f30 : n13 = hV H3 285 13)
  have e3 : hV H1 285 18 = hV H0 285 18 := (f10.1.2.1.1 285 18 kF_230_285_18)
  have e5 : hV H1 285 32 = hV H0 285 32 := (f10.1.2.1.1 285 32 kF_230_285_32)
  have e7 : hV H1 285 33 = hV H0 285 33 := (f10.1.2.1.1 285 33 kF_230_285_33)
  have e9 : hV H2 285 11 = hV H1 285 11 := (f19.1.2.1.1 285 11 kF_216_285_11)
  have e11 : hV H2 285 13 = hV H1 285 13 := (f19.1.2.1.1 285 13 kF_216_285_13)
  have e13 : hV H2 285 15 = hV H1 285 15 := (f19.1.2.1.1 285 15 kF_216_285_15)
  have e16 : hV H2 288 = hV H0 288 := (fRow f19.1.2.1 288 kR_216_288).trans (fRow f10.1.2.1 288 kR_230_288)
  have e18 : hV H3 288 = hV H0 288 := (fRow f27.1.2.1 288 kR_223_288).trans e16
  have e19 : (0 : Int) ≤ hV H1 285 11 ∧ hV H1 285 11 ≤ 500 := f10.1.2.2 285 11 _ _ kW_285_11
  have e20 : (0 : Int) ≤ hV H1 285 13 ∧ hV H1 285 13 ≤ 2 := f10.1.2.2 285 13 _ _ kW_285_13
  have e21 : (0 : Int) ≤ hV H1 285 15 ∧ hV H1 285 15 ≤ 6 := f10.1.2.2 285 15 _ _ kW_285_15
  have e22 : (0 : Int) ≤ hV H0 285 18 ∧ hV H0 285 18 ≤ 8 := bTo e3 (f10.1.2.2 285 18 _ _ kW_285_18)
  have e23 : (0 : Int) ≤ hV H0 285 32 ∧ hV H0 285 32 ≤ 7 := bTo e5 (f10.1.2.2 285 32 _ _ kW_285_32)
  have e24 : (0 : Int) ≤ hV H0 285 33 ∧ hV H0 285 33 ≤ 62 := bTo e7 (f10.1.2.2 285 33 _ _ kW_285_33)
  have e28 : (0 : Int) ≤ hV H3 285 11 ∧ hV H3 285 11 ≤ 500 := f27.1.2.2.2 285 11 _ _ kW_285_11
  have e29 : (0 : Int) ≤ hV H3 285 13 ∧ hV H3 285 13 ≤ 2 := f27.1.2.2.2 285 13 _ _ kW_285_13
  have e30 : (0 : Int) ≤ hV H3 285 15 ∧ hV H3 285 15 ≤ 6 := f27.1.2.2.2 285 15 _ _ kW_285_15
  have k0 := g4.1
  have y0 := g4.2.1
  have y1 := g4.2.2.1
  have y2 := g4.2.2.2.1
  have y3 := g4.2.2.2.2.1
  have y4 := g4.2.2.2.2.2.1
  have y5 := g4.2.2.2.2.2.2.1
  have y6 := g4.2.2.2.2.2.2.2.1
  have y7 := g4.2.2.2.2.2.2.2.2.1
  have y8 := g4.2.2.2.2.2.2.2.2.2.1
  have y9 := g4.2.2.2.2.2.2.2.2.2.2.1
  have y10 := g4.2.2.2.2.2.2.2.2.2.2.2
  have p0 := g3.1
  have p1 := g3.2.1
  have p2 := g3.2.2.1
  have p3 := g3.2.2.2.1
  have p4 := g3.2.2.2.2.1
  have p5 := g3.2.2.2.2.2.1
  have p6 := g3.2.2.2.2.2.2.1
  have p7 := g3.2.2.2.2.2.2.2
  have r0_0 := f19.2.1
  have r0_1 := f19.2.2.resolve_right (fun z => f20 z.1)
  have r1_0 := f27.2.1
  have r1_1 := f27.2.2.1
  have r1_2 := f27.2.2.2.1
  have r1_3 := f27.2.2.2.2.1
  have r1_4 := f27.2.2.2.2.2.1
  have r1_5 := f27.2.2.2.2.2.2.1
  have r1_6 := f27.2.2.2.2.2.2.2.1
  have r1_7 := f27.2.2.2.2.2.2.2.2
  try simp only [e11] at r0_0
  try simp only [e3, e5, e7, e9, e11, e13, e16] at r0_1
  try simp only [e9] at r1_0
  try simp only [e9] at r1_1
  try simp only [e11] at r1_2
  try simp only [e9] at r1_3
  try simp only [e13] at r1_4
  try simp only [e9, e18] at r1_7
  clear g3
  clear g4
  have wb0 := (p7 (hV H0 285 32).toNat).1
  have wp0 := (p7 (hV H0 285 33).toNat).2
  try simp only [e3, e5, e7] at wb0
  try simp only [e3, e5, e7] at wp0
  clear f14 f30 e3 e5 e7 e9 e11 e13 e16 e18
  clear f10 f19 f27
  subst e0
  subst e1
  rw [f32] at f33
  first
  | (have ix0 : n19 = n1 + 1 := Eq.trans f37 (w32_iv (Iad (Iat f3 f2) (IC 1)) (by decide)); subst ix0; clear f37)
  | (have ix0 : n19 = n1 + 1 := Eq.trans f37 (w32_id (by omega) (by omega)); subst ix0; clear f37)
  | (unfold w32 at f37; have ix0 : n19 = n1 + 1 := (by omega); subst ix0)
  | skip
  try unfold w32 at f33
  try unfold w32 at f35
  try unfold w32 at f36
  try unfold w32 at f37

  (try clear y0 y1 p0 p5 p7)
  omega
def g_230_22_25 : vG := ([(10, [20, 4], [], 1), (1, [19, 18, 4], [], 0), (1, [18, 16, 17], [], 0), (0, [17], [], 1), (3, [16, 15, 3], [], 0), (0, [15], [], 6), (30, [13], [], 0), (20, [13, 2], [3], 13), (90, [13], [], 0), (91, [13], [], 2), (1223, [12, 2, 10, 11], [2, 3], 0), (90, [12], [], 0), (91, [12], [], 9999), (0, [11], [], 400), (0, [10], [], 0), (41, [4, 9], [], 0), (0, [9], [], 4), (31, [8], [], 0), (1216, [8, 2, 7], [1, 2], 0), (90, [8], [], 0), (91, [8], [], 1), (0, [7], [], 2), (30, [6], [], 0), (20, [6, 2], [1], 13), (90, [6], [], 0), (91, [6], [], 2), (31, [5], [], 0), (5000, [0, 1, 2, 3, 4, 5], [0, 1], 22), (0, [0], [], 285), (90, [1], [], 0), (91, [1], [], 1007), (0, [2], [], 285), (90, [3], [], 0), (91, [3], [], 1007), (90, [4], [], 0), (91, [4], [], 5), (90, [5], [], 0), (91, [5], [], 1)], (91, [20], [], 5))
theorem c_230_22_25 {q0 : Nat} : vOkm T0 (eP e_230 L_230 A_230 mu_230 (some q0)) 2 g_230_22_25 := vOk_inI fun ρ η f0 f1 f2 f3 f4 f5 f6 f7 f8 f9 f10 f11 f12 f13 f14 f15 f16 f17 f18 f19 f20 f21 f22 f23 f24 f25 f26 f27 f28 f29 f30 f31 f32 f33 f34 f35 f36 f37 => q_230_20 (q0 := q0) (n0 := ρ 5) (n1 := ρ 4) (n2 := ρ 3) (n3 := ρ 2) (n4 := ρ 1) (n5 := ρ 0) (n6 := ρ 6) (n7 := ρ 7) (n8 := ρ 8) (n9 := ρ 9) (n10 := ρ 10) (n11 := ρ 11) (n12 := ρ 12) (n13 := ρ 13) (n14 := ρ 15) (n15 := ρ 16) (n16 := ρ 17) (n17 := ρ 18) (n18 := ρ 19) (n19 := ρ 20) (H0 := η 0) (H1 := η 1) (H2 := η 2) (H3 := η 3) f37 f36 f35 f34 f33 f32 f31 f30 f29 f28 f27 f26 f25 f24 f23 f22 f21 f20 f19 f18 f17 f16 f15 f14 f13 f12 f11 f10 f9 f8 f7 f6 f5 f4 f3 f2 f1 f0
set_option maxHeartbeats 20000000 in
theorem q_230_21 {q0 : Nat} {n0 n1 n2 n3 n4 n5 n6 n7 n8 n9 n10 n11 n12 n13 n14 n15 n16 n17 n18 n19 n20 n21 n22 : Int} {H0 H1 H2 H3 H4 H5 : gH} (f0 : n0 ≤ 1) (f1 : 0 ≤ n0) (f2 : n1 ≤ 5) (f3 : 0 ≤ n1) (f4 : n2 ≤ 1007) (f5 : 0 ≤ n2) (f6 : n3 = 285) (f7 : n4 ≤ 1007) (f8 : 0 ≤ n4) (f9 : n5 = 285) (f10 : (hLe T0 H0 H1 ∧ hFr s_230.2.2.2.2 H0 H1 ∧ hWt T0 H1) ∧ (Ab_230_22 n5 n4 n3 n2 n1 n0 H0 H1 ∧ preb_230 n5 n4 H0) ∧ some q0 = some (mub_230_22 n5 n4 n3 n2 n1 n0 H0 H1)) (f11 : n0 ≠ 0) (f12 : n6 ≤ 2) (f13 : 0 ≤ n6) (f14 : n6 = hV H1 (n3).toNat 13) (f15 : n6 = 0) (f16 : n7 = 2) (f17 : n8 ≤ 1) (f18 : 0 ≤ n8) (f19 : (hLe T0 H1 H2 ∧ hFr s_216.2.2.2.2 H1 H2 ∧ ((0 : Int) = 0 → H2.length = H1.length) ∧ hWt T0 H2) ∧ postb_216 n8 n3 n7 H1 H2) (f20 : n8 ≠ 0) (f21 : n9 = 4) (f22 : n1 ≠ n9) (f23 : n10 = 0) (f24 : n11 = 400) (f25 : n12 ≤ 9999) (f26 : 0 ≤ n12) (f27 : (hLe T0 H2 H3 ∧ hFr s_223.2.2.2.2 H2 H3 ∧ ((0 : Int) = 0 → H3.length = H2.length) ∧ hWt T0 H3) ∧ postb_223 n12 n3 n10 n11 H2 H3) (f28 : n13 ≤ 2) (f29 : 0 ≤ n13) (f30 : n13 = hV H3 (n3).toNat 13) (f31 : n13 = 0) (f32 : n14 = 305) (f33 : n14 = hV H3 (n3).toNat 31) (f34 : n15 = 6) (f35 : n16 = w32 (n15 * n2)) (f36 : n17 = 1) (f37 : n18 = w32 (n16 + n17)) (f38 : n19 = w32 (n18 + n1)) (f39 : hUpd H4 H3 n14 n19 n12) (f40 : n20 = w32 (n1 + 1)) (f41 : n21 = 5) (f42 : n22 ≤ 1) (f43 : 0 ≤ n22) (f44 : (hLe T0 H4 H5 ∧ hFr s_216.2.2.2.2 H4 H5 ∧ ((0 : Int) = 0 → H5.length = H4.length) ∧ hWt T0 H5) ∧ postb_216 n22 n3 n21 H4 H5) (f45 : n22 = 0) : Ab_230_22 n5 n4 n3 n2 n20 n22 H0 H5 ∧ ∀ q, some q0 = some q → mub_230_22 n5 n4 n3 n2 n20 n22 H0 H5 < q := by
  have g4 := f10.2.1.1
  unfold Ab_230_22 at g4
  have g3 := f10.2.1.2
  unfold preb_230 at g3
  have g5 := Option.some.inj f10.2.2
  unfold mub_230_22 at g5
  unfold postb_216 at f19
  unfold postb_223 at f27
  unfold postb_216 at f44
  unfold Ab_230_22
  unfold mub_230_22
  have e0 : n6 = hV H1 285 13 := (by rw [f6] at f14; exact f14 : n6 = hV H1 285 13)
  have e1 : n13 = hV H3 285 13 := (by rw [f6] at f30; exact f30 : n13 = hV H3 285 13)
  have e3 : hV H1 285 18 = hV H0 285 18 := (f10.1.2.1.1 285 18 kF_230_285_18)
  have e5 : hV H1 285 32 = hV H0 285 32 := (f10.1.2.1.1 285 32 kF_230_285_32)
  have e7 : hV H1 285 33 = hV H0 285 33 := (f10.1.2.1.1 285 33 kF_230_285_33)
  have e9 : hV H1 285 64 = hV H0 285 64 := (f10.1.2.1.1 285 64 kF_230_285_64)
  have e10 : hV H1 294 = hV H0 294 := fRow f10.1.2.1 294 kR_230_294
  have e11 : hV H1 296 = hV H0 296 := fRow f10.1.2.1 296 kR_230_296
  have e12 : hV H1 297 = hV H0 297 := fRow f10.1.2.1 297 kR_230_297
  have e13 : hV H1 298 = hV H0 298 := fRow f10.1.2.1 298 kR_230_298
  have e14 : hV H1 301 = hV H0 301 := fRow f10.1.2.1 301 kR_230_301
  have e15 : hV H1 302 = hV H0 302 := fRow f10.1.2.1 302 kR_230_302
  have e16 : hV H1 303 = hV H0 303 := fRow f10.1.2.1 303 kR_230_303
  have e17 : hV H1 328 = hV H0 328 := fRow f10.1.2.1 328 kR_230_328
  have e18 : hV H1 332 = hV H0 332 := fRow f10.1.2.1 332 kR_230_332
  have e19 : hV H1 335 = hV H0 335 := fRow f10.1.2.1 335 kR_230_335
  have e21 : hV H2 285 11 = hV H1 285 11 := (f19.1.2.1.1 285 11 kF_216_285_11)
  have e23 : hV H2 285 13 = hV H1 285 13 := (f19.1.2.1.1 285 13 kF_216_285_13)
  have e25 : hV H2 285 15 = hV H1 285 15 := (f19.1.2.1.1 285 15 kF_216_285_15)
  have e28 : hV H2 288 = hV H0 288 := (fRow f19.1.2.1 288 kR_216_288).trans (fRow f10.1.2.1 288 kR_230_288)
  have e30 : hV H3 288 = hV H0 288 := (fRow f27.1.2.1 288 kR_223_288).trans e28
  have e33 : hV H5 285 11 = hV H3 285 11 := ((f44.1.2.1.1 285 11 kF_216_285_11)).trans (uPlace f39 285 11 (iS (show n14 = ((305 : Nat) : Int) from f32) rfl))
  have e36 : hV H5 285 13 = hV H3 285 13 := ((f44.1.2.1.1 285 13 kF_216_285_13)).trans (uPlace f39 285 13 (iS (show n14 = ((305 : Nat) : Int) from f32) rfl))
  have e39 : hV H5 285 15 = hV H3 285 15 := ((f44.1.2.1.1 285 15 kF_216_285_15)).trans (uPlace f39 285 15 (iS (show n14 = ((305 : Nat) : Int) from f32) rfl))
  have e44 : hV H5 285 18 = hV H0 285 18 := ((f44.1.2.1.1 285 18 kF_216_285_18)).trans (((uPlace f39 285 18 (iS (show n14 = ((305 : Nat) : Int) from f32) rfl))).trans (((f27.1.2.1.1 285 18 kF_223_285_18)).trans (((f19.1.2.1.1 285 18 kF_216_285_18)).trans (f10.1.2.1.1 285 18 kF_230_285_18))))
  have e49 : hV H5 285 32 = hV H0 285 32 := ((f44.1.2.1.1 285 32 kF_216_285_32)).trans (((uPlace f39 285 32 (iS (show n14 = ((305 : Nat) : Int) from f32) rfl))).trans (((f27.1.2.1.1 285 32 kF_223_285_32)).trans (((f19.1.2.1.1 285 32 kF_216_285_32)).trans (f10.1.2.1.1 285 32 kF_230_285_32))))
  have e54 : hV H5 285 33 = hV H0 285 33 := ((f44.1.2.1.1 285 33 kF_216_285_33)).trans (((uPlace f39 285 33 (iS (show n14 = ((305 : Nat) : Int) from f32) rfl))).trans (((f27.1.2.1.1 285 33 kF_223_285_33)).trans (((f19.1.2.1.1 285 33 kF_216_285_33)).trans (f10.1.2.1.1 285 33 kF_230_285_33))))
  have e59 : hV H5 285 64 = hV H0 285 64 := ((f44.1.2.1.1 285 64 kF_216_285_64)).trans (((uPlace f39 285 64 (iS (show n14 = ((305 : Nat) : Int) from f32) rfl))).trans (((f27.1.2.1.1 285 64 kF_223_285_64)).trans (((f19.1.2.1.1 285 64 kF_216_285_64)).trans (f10.1.2.1.1 285 64 kF_230_285_64))))
  have e63 : hV H5 288 = hV H0 288 := (fRow f44.1.2.1 288 kR_216_288).trans ((uRowNe f39 288 (iS (show n14 = ((305 : Nat) : Int) from f32) rfl)).trans e30)
  have e71 : hV H5 294 = hV H0 294 := (fRow f44.1.2.1 294 kR_216_294).trans ((uRowNe f39 294 (iS (show n14 = ((305 : Nat) : Int) from f32) rfl)).trans ((fRow f27.1.2.1 294 kR_223_294).trans ((fRow f19.1.2.1 294 kR_216_294).trans e10)))
  have e79 : hV H5 296 = hV H0 296 := (fRow f44.1.2.1 296 kR_216_296).trans ((uRowNe f39 296 (iS (show n14 = ((305 : Nat) : Int) from f32) rfl)).trans ((fRow f27.1.2.1 296 kR_223_296).trans ((fRow f19.1.2.1 296 kR_216_296).trans e11)))
  have e87 : hV H5 297 = hV H0 297 := (fRow f44.1.2.1 297 kR_216_297).trans ((uRowNe f39 297 (iS (show n14 = ((305 : Nat) : Int) from f32) rfl)).trans ((fRow f27.1.2.1 297 kR_223_297).trans ((fRow f19.1.2.1 297 kR_216_297).trans e12)))
  have e95 : hV H5 298 = hV H0 298 := (fRow f44.1.2.1 298 kR_216_298).trans ((uRowNe f39 298 (iS (show n14 = ((305 : Nat) : Int) from f32) rfl)).trans ((fRow f27.1.2.1 298 kR_223_298).trans ((fRow f19.1.2.1 298 kR_216_298).trans e13)))
  have e102 : hV H5 300 = hV H1 300 := (fRow f44.1.2.1 300 kR_216_300).trans ((uRowNe f39 300 (iS (show n14 = ((305 : Nat) : Int) from f32) rfl)).trans ((fRow f27.1.2.1 300 kR_223_300).trans (fRow f19.1.2.1 300 kR_216_300)))
  have e110 : hV H5 301 = hV H0 301 := (fRow f44.1.2.1 301 kR_216_301).trans ((uRowNe f39 301 (iS (show n14 = ((305 : Nat) : Int) from f32) rfl)).trans ((fRow f27.1.2.1 301 kR_223_301).trans ((fRow f19.1.2.1 301 kR_216_301).trans e14)))
  have e118 : hV H5 302 = hV H0 302 := (fRow f44.1.2.1 302 kR_216_302).trans ((uRowNe f39 302 (iS (show n14 = ((305 : Nat) : Int) from f32) rfl)).trans ((fRow f27.1.2.1 302 kR_223_302).trans ((fRow f19.1.2.1 302 kR_216_302).trans e15)))
  have e126 : hV H5 303 = hV H0 303 := (fRow f44.1.2.1 303 kR_216_303).trans ((uRowNe f39 303 (iS (show n14 = ((305 : Nat) : Int) from f32) rfl)).trans ((fRow f27.1.2.1 303 kR_223_303).trans ((fRow f19.1.2.1 303 kR_216_303).trans e16)))
  have e133 : hV H5 305 = (uF (hV H1 305) n19 n12) := (fRow f44.1.2.1 305 kR_216_305).trans ((uRow f39 305 f32.symm).trans (congrArg (fun z => uF z n19 n12) ((fRow f27.1.2.1 305 kR_223_305).trans (fRow f19.1.2.1 305 kR_216_305))))
  have e141 : hV H5 328 = hV H0 328 := (fRow f44.1.2.1 328 kR_216_328).trans ((uRowNe f39 328 (iS (show n14 = ((305 : Nat) : Int) from f32) rfl)).trans ((fRow f27.1.2.1 328 kR_223_328).trans ((fRow f19.1.2.1 328 kR_216_328).trans e17)))
  have e149 : hV H5 332 = hV H0 332 := (fRow f44.1.2.1 332 kR_216_332).trans ((uRowNe f39 332 (iS (show n14 = ((305 : Nat) : Int) from f32) rfl)).trans ((fRow f27.1.2.1 332 kR_223_332).trans ((fRow f19.1.2.1 332 kR_216_332).trans e18)))
  have e157 : hV H5 335 = hV H0 335 := (fRow f44.1.2.1 335 kR_216_335).trans ((uRowNe f39 335 (iS (show n14 = ((305 : Nat) : Int) from f32) rfl)).trans ((fRow f27.1.2.1 335 kR_223_335).trans ((fRow f19.1.2.1 335 kR_216_335).trans e19)))
  have e158 : (0 : Int) ≤ hV H1 285 11 ∧ hV H1 285 11 ≤ 500 := f10.1.2.2 285 11 _ _ kW_285_11
  have e159 : (0 : Int) ≤ hV H1 285 13 ∧ hV H1 285 13 ≤ 2 := f10.1.2.2 285 13 _ _ kW_285_13
  have e160 : (0 : Int) ≤ hV H1 285 15 ∧ hV H1 285 15 ≤ 6 := f10.1.2.2 285 15 _ _ kW_285_15
  have e161 : (0 : Int) ≤ hV H0 285 18 ∧ hV H0 285 18 ≤ 8 := bTo e3 (f10.1.2.2 285 18 _ _ kW_285_18)
  have e162 : (0 : Int) ≤ hV H0 285 32 ∧ hV H0 285 32 ≤ 7 := bTo e5 (f10.1.2.2 285 32 _ _ kW_285_32)
  have e163 : (0 : Int) ≤ hV H0 285 33 ∧ hV H0 285 33 ≤ 62 := bTo e7 (f10.1.2.2 285 33 _ _ kW_285_33)
  have e164 : (0 : Int) ≤ hV H0 285 64 ∧ hV H0 285 64 ≤ 20 := bTo e9 (f10.1.2.2 285 64 _ _ kW_285_64)
  have e168 : (0 : Int) ≤ hV H3 285 11 ∧ hV H3 285 11 ≤ 500 := f27.1.2.2.2 285 11 _ _ kW_285_11
  have e169 : (0 : Int) ≤ hV H3 285 13 ∧ hV H3 285 13 ≤ 2 := f27.1.2.2.2 285 13 _ _ kW_285_13
  have e170 : (0 : Int) ≤ hV H3 285 15 ∧ hV H3 285 15 ≤ 6 := f27.1.2.2.2 285 15 _ _ kW_285_15
  try simp only [PA, PW]
  try simp only [e33, e36, e39, e44, e49, e54, e59, e71, e79, e87, e95, e102, e110, e118, e126, e133, e141, e149, e157]
  have k0 := g4.1
  have y0 := g4.2.1
  have y1 := g4.2.2.1
  have y2 := g4.2.2.2.1
  have y3 := g4.2.2.2.2.1
  have y4 := g4.2.2.2.2.2.1
  have y5 := g4.2.2.2.2.2.2.1
  have y6 := g4.2.2.2.2.2.2.2.1
  have y7 := g4.2.2.2.2.2.2.2.2.1
  have y8 := g4.2.2.2.2.2.2.2.2.2.1
  have y9 := g4.2.2.2.2.2.2.2.2.2.2.1
  have y10 := g4.2.2.2.2.2.2.2.2.2.2.2
  have p0 := g3.1
  have p1 := g3.2.1
  have p2 := g3.2.2.1
  have p3 := g3.2.2.2.1
  have p4 := g3.2.2.2.2.1
  have p5 := g3.2.2.2.2.2.1
  have p6 := g3.2.2.2.2.2.2.1
  have p7 := g3.2.2.2.2.2.2.2
  have r0_0 := f19.2.1
  have r0_1 := f19.2.2.resolve_right (fun z => f20 z.1)
  have r1_0 := f27.2.1
  have r1_1 := f27.2.2.1
  have r1_2 := f27.2.2.2.1
  have r1_3 := f27.2.2.2.2.1
  have r1_4 := f27.2.2.2.2.2.1
  have r1_5 := f27.2.2.2.2.2.2.1
  have r1_6 := f27.2.2.2.2.2.2.2.1
  have r1_7 := f27.2.2.2.2.2.2.2.2
  have r2_0 := f44.2.1
  have r2_1 := f44.2.2
  try simp only [PA] at y0
  try simp only [PW] at y1
  try simp only [PA] at p0
  try simp only [PW] at p5
  try simp only [e3, e9, e10, e11, e13, e14, e15, e16, e17, e18, e19] at y0
  try simp only [e5, e7, e10, e11, e12, e13, e14, e15, e16] at y1
  try simp only [e23] at r0_0
  try simp only [e3, e5, e7, e9, e10, e11, e12, e13, e14, e15, e16, e17, e18, e19, e21, e23, e25, e28] at r0_1
  try simp only [e21] at r1_0
  try simp only [e21] at r1_1
  try simp only [e23] at r1_2
  try simp only [e21] at r1_3
  try simp only [e25] at r1_4
  try simp only [e21, e30] at r1_7
  try simp only [e36] at r2_0
  try simp only [e33, e36, e63] at r2_1
  clear g3
  clear g4
  have wb0 := (p7 (hV H0 285 32).toNat).1
  have wp0 := (p7 (hV H0 285 33).toNat).2
  try simp only [e3, e5, e7, e9, e10, e11, e12, e13, e14, e15, e16, e17, e18, e19] at wb0
  try simp only [e3, e5, e7, e9, e10, e11, e12, e13, e14, e15, e16, e17, e18, e19] at wp0
  clear f14 f30 f33 e3 e5 e7 e9 e10 e11 e12 e13 e14 e15 e16 e17 e18 e19 e21 e23 e25 e28 e30 e33 e36 e39 e44 e49 e54 e59 e63 e71 e79 e87 e95 e102 e110 e118 e126 e133 e141 e149 e157
  clear f10 f19 f27 f44
  subst e0
  subst e1
  rw [f34] at f35
  first
  | (have ix0 : n16 = 6 * n2 := Eq.trans f35 (w32_iv (Iml 6 rfl (Iat f5 f4)) (by decide)); subst ix0; clear f35)
  | (have ix0 : n16 = 6 * n2 := Eq.trans f35 (w32_id (by omega) (by omega)); subst ix0; clear f35)
  | (unfold w32 at f35; have ix0 : n16 = 6 * n2 := (by omega); subst ix0)
  | skip
  first
  | (have ix1 : n18 = (6 * n2) + 1 := Eq.trans f37 (w32_iv (Iad (Iml 6 rfl (Iat f5 f4)) (IC 1)) (by decide)); subst ix1; clear f37)
  | (have ix1 : n18 = (6 * n2) + 1 := Eq.trans f37 (w32_id (by omega) (by omega)); subst ix1; clear f37)
  | (unfold w32 at f37; have ix1 : n18 = (6 * n2) + 1 := (by omega); subst ix1)
  | skip
  first
  | (have ix2 : n19 = ((6 * n2) + 1) + n1 := Eq.trans f38 (w32_iv (Iad (Iad (Iml 6 rfl (Iat f5 f4)) (IC 1)) (Iat f3 f2)) (by decide)); subst ix2; clear f38)
  | (have ix2 : n19 = ((6 * n2) + 1) + n1 := Eq.trans f38 (w32_id (by omega) (by omega)); subst ix2; clear f38)
  | (unfold w32 at f38; have ix2 : n19 = ((6 * n2) + 1) + n1 := (by omega); subst ix2)
  | skip
  first
  | (have ix3 : n20 = n1 + 1 := Eq.trans f40 (w32_iv (Iad (Iat f3 f2) (IC 1)) (by decide)); subst ix3; clear f40)
  | (have ix3 : n20 = n1 + 1 := Eq.trans f40 (w32_id (by omega) (by omega)); subst ix3; clear f40)
  | (unfold w32 at f40; have ix3 : n20 = n1 + 1 := (by omega); subst ix3)
  | skip
  try unfold w32 at f35
  try unfold w32 at f37
  try unfold w32 at f38
  try unfold w32 at f40

  refine ⟨⟨?_, ?_, ?_, ?_⟩, fun q hq => ?_⟩
  · first | exact True.intro | rfl | omega
  · refine PA_cn ?_ (by omega)
    exact y0
  · intro z1 z2
    refine PW_cn ?_ (by omega) (by omega) (by omega) (by omega)
    exact y1 (by omega) (by omega)
  · (try clear y0 y1 p0 p5 p7)
    first
    | omega
    | (refine ⟨?_, ?_, ?_, ?_, ?_, ?_, ?_, ?_, ?_⟩ <;> first | exact True.intro | omega)
  · (try clear y0 y1 p0 p5 p7)
    have g6 := Option.some.inj hq
    subst g6
    omega
def g_230_22_26 : vG := ([(30, [22], [], 0), (1216, [22, 2, 21], [4, 5], 0), (90, [22], [], 0), (91, [22], [], 1), (0, [21], [], 5), (10, [20, 4], [], 1), (80, [14, 19, 12], [4, 3], 0), (1, [19, 18, 4], [], 0), (1, [18, 16, 17], [], 0), (0, [17], [], 1), (3, [16, 15, 3], [], 0), (0, [15], [], 6), (20, [14, 2], [3], 31), (0, [14], [], 305), (30, [13], [], 0), (20, [13, 2], [3], 13), (90, [13], [], 0), (91, [13], [], 2), (1223, [12, 2, 10, 11], [2, 3], 0), (90, [12], [], 0), (91, [12], [], 9999), (0, [11], [], 400), (0, [10], [], 0), (41, [4, 9], [], 0), (0, [9], [], 4), (31, [8], [], 0), (1216, [8, 2, 7], [1, 2], 0), (90, [8], [], 0), (91, [8], [], 1), (0, [7], [], 2), (30, [6], [], 0), (20, [6, 2], [1], 13), (90, [6], [], 0), (91, [6], [], 2), (31, [5], [], 0), (5000, [0, 1, 2, 3, 4, 5], [0, 1], 22), (0, [0], [], 285), (90, [1], [], 0), (91, [1], [], 1007), (0, [2], [], 285), (90, [3], [], 0), (91, [3], [], 1007), (90, [4], [], 0), (91, [4], [], 5), (90, [5], [], 0), (91, [5], [], 1)], (4000, [2, 3, 20, 22], [5], 22))
theorem c_230_22_26 {q0 : Nat} : vOkm T0 (eP e_230 L_230 A_230 mu_230 (some q0)) 2 g_230_22_26 := vOk_inI fun ρ η f0 f1 f2 f3 f4 f5 f6 f7 f8 f9 f10 f11 f12 f13 f14 f15 f16 f17 f18 f19 f20 f21 f22 f23 f24 f25 f26 f27 f28 f29 f30 f31 f32 f33 f34 f35 f36 f37 f38 f39 f40 f41 f42 f43 f44 f45 => q_230_21 (q0 := q0) (n0 := ρ 5) (n1 := ρ 4) (n2 := ρ 3) (n3 := ρ 2) (n4 := ρ 1) (n5 := ρ 0) (n6 := ρ 6) (n7 := ρ 7) (n8 := ρ 8) (n9 := ρ 9) (n10 := ρ 10) (n11 := ρ 11) (n12 := ρ 12) (n13 := ρ 13) (n14 := ρ 14) (n15 := ρ 15) (n16 := ρ 16) (n17 := ρ 17) (n18 := ρ 18) (n19 := ρ 19) (n20 := ρ 20) (n21 := ρ 21) (n22 := ρ 22) (H0 := η 0) (H1 := η 1) (H2 := η 2) (H3 := η 3) (H4 := η 4) (H5 := η 5) f45 f44 f43 f42 f41 f40 f39 f38 f37 f36 f35 f34 f33 f32 f31 f30 f29 f28 f27 f26 f25 f24 f23 f22 f21 f20 f19 f18 f17 f16 f15 f14 f13 f12 f11 f10 f9 f8 f7 f6 f5 f4 f3 f2 f1 f0
def g_230_22_27 : vG := ([(10, [20, 4], [], 1), (1, [19, 18, 4], [], 0), (1, [18, 16, 17], [], 0), (0, [17], [], 1), (3, [16, 15, 3], [], 0), (0, [15], [], 6), (30, [13], [], 0), (20, [13, 2], [3], 13), (90, [13], [], 0), (91, [13], [], 2), (1223, [12, 2, 10, 11], [2, 3], 0), (90, [12], [], 0), (91, [12], [], 9999), (0, [11], [], 400), (0, [10], [], 0), (41, [4, 9], [], 0), (0, [9], [], 4), (31, [8], [], 0), (1216, [8, 2, 7], [1, 2], 0), (90, [8], [], 0), (91, [8], [], 1), (0, [7], [], 2), (30, [6], [], 0), (20, [6, 2], [1], 13), (90, [6], [], 0), (91, [6], [], 2), (31, [5], [], 0), (5000, [0, 1, 2, 3, 4, 5], [0, 1], 22), (0, [0], [], 285), (90, [1], [], 0), (91, [1], [], 1007), (0, [2], [], 285), (90, [3], [], 0), (91, [3], [], 1007), (90, [4], [], 0), (91, [4], [], 5), (90, [5], [], 0), (91, [5], [], 1)], (90, [20], [], 0))
theorem c_230_22_27 {q0 : Nat} : vOkm T0 (eP e_230 L_230 A_230 mu_230 (some q0)) 2 g_230_22_27 := vOk_inI fun ρ η f0 f1 f2 f3 f4 f5 f6 f7 f8 f9 f10 f11 f12 f13 f14 f15 f16 f17 f18 f19 f20 f21 f22 f23 f24 f25 f26 f27 f28 f29 f30 f31 f32 f33 f34 f35 f36 f37 => q_230_19 (q0 := q0) (n0 := ρ 5) (n1 := ρ 4) (n2 := ρ 3) (n3 := ρ 2) (n4 := ρ 1) (n5 := ρ 0) (n6 := ρ 6) (n7 := ρ 7) (n8 := ρ 8) (n9 := ρ 9) (n10 := ρ 10) (n11 := ρ 11) (n12 := ρ 12) (n13 := ρ 13) (n14 := ρ 15) (n15 := ρ 16) (n16 := ρ 17) (n17 := ρ 18) (n18 := ρ 19) (n19 := ρ 20) (H0 := η 0) (H1 := η 1) (H2 := η 2) (H3 := η 3) f37 f36 f35 f34 f33 f32 f31 f30 f29 f28 f27 f26 f25 f24 f23 f22 f21 f20 f19 f18 f17 f16 f15 f14 f13 f12 f11 f10 f9 f8 f7 f6 f5 f4 f3 f2 f1 f0
def g_230_22_28 : vG := ([(10, [20, 4], [], 1), (1, [19, 18, 4], [], 0), (1, [18, 16, 17], [], 0), (0, [17], [], 1), (3, [16, 15, 3], [], 0), (0, [15], [], 6), (30, [13], [], 0), (20, [13, 2], [3], 13), (90, [13], [], 0), (91, [13], [], 2), (1223, [12, 2, 10, 11], [2, 3], 0), (90, [12], [], 0), (91, [12], [], 9999), (0, [11], [], 400), (0, [10], [], 0), (41, [4, 9], [], 0), (0, [9], [], 4), (31, [8], [], 0), (1216, [8, 2, 7], [1, 2], 0), (90, [8], [], 0), (91, [8], [], 1), (0, [7], [], 2), (30, [6], [], 0), (20, [6, 2], [1], 13), (90, [6], [], 0), (91, [6], [], 2), (31, [5], [], 0), (5000, [0, 1, 2, 3, 4, 5], [0, 1], 22), (0, [0], [], 285), (90, [1], [], 0), (91, [1], [], 1007), (0, [2], [], 285), (90, [3], [], 0), (91, [3], [], 1007), (90, [4], [], 0), (91, [4], [], 5), (90, [5], [], 0), (91, [5], [], 1)], (91, [20], [], 5))
theorem c_230_22_28 {q0 : Nat} : vOkm T0 (eP e_230 L_230 A_230 mu_230 (some q0)) 2 g_230_22_28 := vOk_inI fun ρ η f0 f1 f2 f3 f4 f5 f6 f7 f8 f9 f10 f11 f12 f13 f14 f15 f16 f17 f18 f19 f20 f21 f22 f23 f24 f25 f26 f27 f28 f29 f30 f31 f32 f33 f34 f35 f36 f37 => q_230_20 (q0 := q0) (n0 := ρ 5) (n1 := ρ 4) (n2 := ρ 3) (n3 := ρ 2) (n4 := ρ 1) (n5 := ρ 0) (n6 := ρ 6) (n7 := ρ 7) (n8 := ρ 8) (n9 := ρ 9) (n10 := ρ 10) (n11 := ρ 11) (n12 := ρ 12) (n13 := ρ 13) (n14 := ρ 15) (n15 := ρ 16) (n16 := ρ 17) (n17 := ρ 18) (n18 := ρ 19) (n19 := ρ 20) (H0 := η 0) (H1 := η 1) (H2 := η 2) (H3 := η 3) f37 f36 f35 f34 f33 f32 f31 f30 f29 f28 f27 f26 f25 f24 f23 f22 f21 f20 f19 f18 f17 f16 f15 f14 f13 f12 f11 f10 f9 f8 f7 f6 f5 f4 f3 f2 f1 f0
set_option maxHeartbeats 20000000 in
theorem q_230_22 {q0 : Nat} {n0 n1 n2 n3 n4 n5 n6 n7 n8 n9 n10 n11 n12 n13 n14 n15 n16 n17 n18 n19 n20 n21 n22 : Int} {H0 H1 H2 H3 H4 H5 H6 : gH} (f0 : n0 ≤ 1) (f1 : 0 ≤ n0) (f2 : n1 ≤ 5) (f3 : 0 ≤ n1) (f4 : n2 ≤ 1007) (f5 : 0 ≤ n2) (f6 : n3 = 285) (f7 : n4 ≤ 1007) (f8 : 0 ≤ n4) (f9 : n5 = 285) (f10 : (hLe T0 H0 H1 ∧ hFr s_230.2.2.2.2 H0 H1 ∧ hWt T0 H1) ∧ (Ab_230_22 n5 n4 n3 n2 n1 n0 H0 H1 ∧ preb_230 n5 n4 H0) ∧ some q0 = some (mub_230_22 n5 n4 n3 n2 n1 n0 H0 H1)) (f11 : n0 ≠ 0) (f12 : n6 ≤ 2) (f13 : 0 ≤ n6) (f14 : n6 = hV H1 (n3).toNat 13) (f15 : n6 = 0) (f16 : n7 = 2) (f17 : n8 ≤ 1) (f18 : 0 ≤ n8) (f19 : (hLe T0 H1 H2 ∧ hFr s_216.2.2.2.2 H1 H2 ∧ ((0 : Int) = 0 → H2.length = H1.length) ∧ hWt T0 H2) ∧ postb_216 n8 n3 n7 H1 H2) (f20 : n8 ≠ 0) (f21 : n9 = 4) (f22 : n1 ≠ n9) (f23 : n10 = 0) (f24 : n11 = 400) (f25 : n12 ≤ 9999) (f26 : 0 ≤ n12) (f27 : (hLe T0 H2 H3 ∧ hFr s_223.2.2.2.2 H2 H3 ∧ ((0 : Int) = 0 → H3.length = H2.length) ∧ hWt T0 H3) ∧ postb_223 n12 n3 n10 n11 H2 H3) (f28 : n13 ≤ 2) (f29 : 0 ≤ n13) (f30 : n13 = hV H3 (n3).toNat 13) (f31 : n13 = 0) (f32 : n14 = 305) (f33 : n14 = hV H3 (n3).toNat 31) (f34 : n15 = 6) (f35 : n16 = w32 (n15 * n2)) (f36 : n17 = 1) (f37 : n18 = w32 (n16 + n17)) (f38 : n19 = w32 (n18 + n1)) (f39 : hUpd H4 H3 n14 n19 n12) (f40 : n20 = w32 (n1 + 1)) (f41 : n21 = 5) (f42 : n22 ≤ 1) (f43 : 0 ≤ n22) (f44 : (hLe T0 H4 H5 ∧ hFr s_216.2.2.2.2 H4 H5 ∧ ((0 : Int) = 0 → H5.length = H4.length) ∧ hWt T0 H5) ∧ postb_216 n22 n3 n21 H4 H5) (f45 : n22 ≠ 0) (f46 : (hLe T0 H5 H6 ∧ hFr s_219.2.2.2.2 H5 H6 ∧ ((0 : Int) = 0 → H6.length = H5.length) ∧ hWt T0 H6) ∧ postb_219 n3 H5 H6) : Ab_230_22 n5 n4 n3 n2 n20 n22 H0 H6 ∧ ∀ q, some q0 = some q → mub_230_22 n5 n4 n3 n2 n20 n22 H0 H6 < q := by
  have g4 := f10.2.1.1
  unfold Ab_230_22 at g4
  have g3 := f10.2.1.2
  unfold preb_230 at g3
  have g5 := Option.some.inj f10.2.2
  unfold mub_230_22 at g5
  unfold postb_216 at f19
  unfold postb_223 at f27
  unfold postb_216 at f44
  unfold postb_219 at f46
  unfold Ab_230_22
  unfold mub_230_22
  have e0 : n6 = hV H1 285 13 := (by rw [f6] at f14; exact f14 : n6 = hV H1 285 13)
  have e1 : n13 = hV H3 285 13 := (by rw [f6] at f30; exact f30 : n13 = hV H3 285 13)
  have e3 : hV H1 285 18 = hV H0 285 18 := (f10.1.2.1.1 285 18 kF_230_285_18)
  have e5 : hV H1 285 32 = hV H0 285 32 := (f10.1.2.1.1 285 32 kF_230_285_32)
  have e7 : hV H1 285 33 = hV H0 285 33 := (f10.1.2.1.1 285 33 kF_230_285_33)
  have e9 : hV H1 285 64 = hV H0 285 64 := (f10.1.2.1.1 285 64 kF_230_285_64)
  have e10 : hV H1 294 = hV H0 294 := fRow f10.1.2.1 294 kR_230_294
  have e11 : hV H1 296 = hV H0 296 := fRow f10.1.2.1 296 kR_230_296
  have e12 : hV H1 297 = hV H0 297 := fRow f10.1.2.1 297 kR_230_297
  have e13 : hV H1 298 = hV H0 298 := fRow f10.1.2.1 298 kR_230_298
  have e14 : hV H1 301 = hV H0 301 := fRow f10.1.2.1 301 kR_230_301
  have e15 : hV H1 302 = hV H0 302 := fRow f10.1.2.1 302 kR_230_302
  have e16 : hV H1 303 = hV H0 303 := fRow f10.1.2.1 303 kR_230_303
  have e17 : hV H1 328 = hV H0 328 := fRow f10.1.2.1 328 kR_230_328
  have e18 : hV H1 332 = hV H0 332 := fRow f10.1.2.1 332 kR_230_332
  have e19 : hV H1 335 = hV H0 335 := fRow f10.1.2.1 335 kR_230_335
  have e21 : hV H2 285 11 = hV H1 285 11 := (f19.1.2.1.1 285 11 kF_216_285_11)
  have e23 : hV H2 285 13 = hV H1 285 13 := (f19.1.2.1.1 285 13 kF_216_285_13)
  have e25 : hV H2 285 15 = hV H1 285 15 := (f19.1.2.1.1 285 15 kF_216_285_15)
  have e28 : hV H2 288 = hV H0 288 := (fRow f19.1.2.1 288 kR_216_288).trans (fRow f10.1.2.1 288 kR_230_288)
  have e30 : hV H3 288 = hV H0 288 := (fRow f27.1.2.1 288 kR_223_288).trans e28
  have e33 : hV H5 285 11 = hV H3 285 11 := ((f44.1.2.1.1 285 11 kF_216_285_11)).trans (uPlace f39 285 11 (iS (show n14 = ((305 : Nat) : Int) from f32) rfl))
  have e36 : hV H5 285 13 = hV H3 285 13 := ((f44.1.2.1.1 285 13 kF_216_285_13)).trans (uPlace f39 285 13 (iS (show n14 = ((305 : Nat) : Int) from f32) rfl))
  have e40 : hV H5 288 = hV H0 288 := (fRow f44.1.2.1 288 kR_216_288).trans ((uRowNe f39 288 (iS (show n14 = ((305 : Nat) : Int) from f32) rfl)).trans e30)
  have e44 : hV H6 285 15 = hV H3 285 15 := ((f46.1.2.1.1 285 15 kF_219_285_15)).trans (((f44.1.2.1.1 285 15 kF_216_285_15)).trans (uPlace f39 285 15 (iS (show n14 = ((305 : Nat) : Int) from f32) rfl)))
  have e50 : hV H6 285 18 = hV H0 285 18 := ((f46.1.2.1.1 285 18 kF_219_285_18)).trans (((f44.1.2.1.1 285 18 kF_216_285_18)).trans (((uPlace f39 285 18 (iS (show n14 = ((305 : Nat) : Int) from f32) rfl))).trans (((f27.1.2.1.1 285 18 kF_223_285_18)).trans (((f19.1.2.1.1 285 18 kF_216_285_18)).trans (f10.1.2.1.1 285 18 kF_230_285_18)))))
  have e56 : hV H6 285 32 = hV H0 285 32 := ((f46.1.2.1.1 285 32 kF_219_285_32)).trans (((f44.1.2.1.1 285 32 kF_216_285_32)).trans (((uPlace f39 285 32 (iS (show n14 = ((305 : Nat) : Int) from f32) rfl))).trans (((f27.1.2.1.1 285 32 kF_223_285_32)).trans (((f19.1.2.1.1 285 32 kF_216_285_32)).trans (f10.1.2.1.1 285 32 kF_230_285_32)))))
  have e62 : hV H6 285 33 = hV H0 285 33 := ((f46.1.2.1.1 285 33 kF_219_285_33)).trans (((f44.1.2.1.1 285 33 kF_216_285_33)).trans (((uPlace f39 285 33 (iS (show n14 = ((305 : Nat) : Int) from f32) rfl))).trans (((f27.1.2.1.1 285 33 kF_223_285_33)).trans (((f19.1.2.1.1 285 33 kF_216_285_33)).trans (f10.1.2.1.1 285 33 kF_230_285_33)))))
  have e68 : hV H6 285 64 = hV H0 285 64 := ((f46.1.2.1.1 285 64 kF_219_285_64)).trans (((f44.1.2.1.1 285 64 kF_216_285_64)).trans (((uPlace f39 285 64 (iS (show n14 = ((305 : Nat) : Int) from f32) rfl))).trans (((f27.1.2.1.1 285 64 kF_223_285_64)).trans (((f19.1.2.1.1 285 64 kF_216_285_64)).trans (f10.1.2.1.1 285 64 kF_230_285_64)))))
  have e78 : hV H6 294 = hV H0 294 := (fRow f46.1.2.1 294 kR_219_294).trans ((fRow f44.1.2.1 294 kR_216_294).trans ((uRowNe f39 294 (iS (show n14 = ((305 : Nat) : Int) from f32) rfl)).trans ((fRow f27.1.2.1 294 kR_223_294).trans ((fRow f19.1.2.1 294 kR_216_294).trans e10))))
  have e88 : hV H6 296 = hV H0 296 := (fRow f46.1.2.1 296 kR_219_296).trans ((fRow f44.1.2.1 296 kR_216_296).trans ((uRowNe f39 296 (iS (show n14 = ((305 : Nat) : Int) from f32) rfl)).trans ((fRow f27.1.2.1 296 kR_223_296).trans ((fRow f19.1.2.1 296 kR_216_296).trans e11))))
  have e98 : hV H6 297 = hV H0 297 := (fRow f46.1.2.1 297 kR_219_297).trans ((fRow f44.1.2.1 297 kR_216_297).trans ((uRowNe f39 297 (iS (show n14 = ((305 : Nat) : Int) from f32) rfl)).trans ((fRow f27.1.2.1 297 kR_223_297).trans ((fRow f19.1.2.1 297 kR_216_297).trans e12))))
  have e108 : hV H6 298 = hV H0 298 := (fRow f46.1.2.1 298 kR_219_298).trans ((fRow f44.1.2.1 298 kR_216_298).trans ((uRowNe f39 298 (iS (show n14 = ((305 : Nat) : Int) from f32) rfl)).trans ((fRow f27.1.2.1 298 kR_223_298).trans ((fRow f19.1.2.1 298 kR_216_298).trans e13))))
  have e117 : hV H6 300 = hV H1 300 := (fRow f46.1.2.1 300 kR_219_300).trans ((fRow f44.1.2.1 300 kR_216_300).trans ((uRowNe f39 300 (iS (show n14 = ((305 : Nat) : Int) from f32) rfl)).trans ((fRow f27.1.2.1 300 kR_223_300).trans (fRow f19.1.2.1 300 kR_216_300))))
  have e127 : hV H6 301 = hV H0 301 := (fRow f46.1.2.1 301 kR_219_301).trans ((fRow f44.1.2.1 301 kR_216_301).trans ((uRowNe f39 301 (iS (show n14 = ((305 : Nat) : Int) from f32) rfl)).trans ((fRow f27.1.2.1 301 kR_223_301).trans ((fRow f19.1.2.1 301 kR_216_301).trans e14))))
  have e137 : hV H6 302 = hV H0 302 := (fRow f46.1.2.1 302 kR_219_302).trans ((fRow f44.1.2.1 302 kR_216_302).trans ((uRowNe f39 302 (iS (show n14 = ((305 : Nat) : Int) from f32) rfl)).trans ((fRow f27.1.2.1 302 kR_223_302).trans ((fRow f19.1.2.1 302 kR_216_302).trans e15))))
  have e147 : hV H6 303 = hV H0 303 := (fRow f46.1.2.1 303 kR_219_303).trans ((fRow f44.1.2.1 303 kR_216_303).trans ((uRowNe f39 303 (iS (show n14 = ((305 : Nat) : Int) from f32) rfl)).trans ((fRow f27.1.2.1 303 kR_223_303).trans ((fRow f19.1.2.1 303 kR_216_303).trans e16))))
  have e156 : hV H6 305 = (uF (hV H1 305) n19 n12) := (fRow f46.1.2.1 305 kR_219_305).trans ((fRow f44.1.2.1 305 kR_216_305).trans ((uRow f39 305 f32.symm).trans (congrArg (fun z => uF z n19 n12) ((fRow f27.1.2.1 305 kR_223_305).trans (fRow f19.1.2.1 305 kR_216_305)))))
  have e166 : hV H6 328 = hV H0 328 := (fRow f46.1.2.1 328 kR_219_328).trans ((fRow f44.1.2.1 328 kR_216_328).trans ((uRowNe f39 328 (iS (show n14 = ((305 : Nat) : Int) from f32) rfl)).trans ((fRow f27.1.2.1 328 kR_223_328).trans ((fRow f19.1.2.1 328 kR_216_328).trans e17))))
  have e176 : hV H6 332 = hV H0 332 := (fRow f46.1.2.1 332 kR_219_332).trans ((fRow f44.1.2.1 332 kR_216_332).trans ((uRowNe f39 332 (iS (show n14 = ((305 : Nat) : Int) from f32) rfl)).trans ((fRow f27.1.2.1 332 kR_223_332).trans ((fRow f19.1.2.1 332 kR_216_332).trans e18))))
  have e186 : hV H6 335 = hV H0 335 := (fRow f46.1.2.1 335 kR_219_335).trans ((fRow f44.1.2.1 335 kR_216_335).trans ((uRowNe f39 335 (iS (show n14 = ((305 : Nat) : Int) from f32) rfl)).trans ((fRow f27.1.2.1 335 kR_223_335).trans ((fRow f19.1.2.1 335 kR_216_335).trans e19))))
  have e187 : (0 : Int) ≤ hV H1 285 11 ∧ hV H1 285 11 ≤ 500 := f10.1.2.2 285 11 _ _ kW_285_11
  have e188 : (0 : Int) ≤ hV H1 285 13 ∧ hV H1 285 13 ≤ 2 := f10.1.2.2 285 13 _ _ kW_285_13
  have e189 : (0 : Int) ≤ hV H1 285 15 ∧ hV H1 285 15 ≤ 6 := f10.1.2.2 285 15 _ _ kW_285_15
  have e190 : (0 : Int) ≤ hV H0 285 18 ∧ hV H0 285 18 ≤ 8 := bTo e3 (f10.1.2.2 285 18 _ _ kW_285_18)
  have e191 : (0 : Int) ≤ hV H0 285 32 ∧ hV H0 285 32 ≤ 7 := bTo e5 (f10.1.2.2 285 32 _ _ kW_285_32)
  have e192 : (0 : Int) ≤ hV H0 285 33 ∧ hV H0 285 33 ≤ 62 := bTo e7 (f10.1.2.2 285 33 _ _ kW_285_33)
  have e193 : (0 : Int) ≤ hV H0 285 64 ∧ hV H0 285 64 ≤ 20 := bTo e9 (f10.1.2.2 285 64 _ _ kW_285_64)
  have e197 : (0 : Int) ≤ hV H3 285 11 ∧ hV H3 285 11 ≤ 500 := f27.1.2.2.2 285 11 _ _ kW_285_11
  have e198 : (0 : Int) ≤ hV H3 285 13 ∧ hV H3 285 13 ≤ 2 := f27.1.2.2.2 285 13 _ _ kW_285_13
  have e199 : (0 : Int) ≤ hV H3 285 15 ∧ hV H3 285 15 ≤ 6 := f27.1.2.2.2 285 15 _ _ kW_285_15
  have e202 : (0 : Int) ≤ hV H6 285 11 ∧ hV H6 285 11 ≤ 500 := f46.1.2.2.2 285 11 _ _ kW_285_11
  have e203 : (0 : Int) ≤ hV H6 285 13 ∧ hV H6 285 13 ≤ 2 := f46.1.2.2.2 285 13 _ _ kW_285_13
  try simp only [PA, PW]
  try simp only [e44, e50, e56, e62, e68, e78, e88, e98, e108, e117, e127, e137, e147, e156, e166, e176, e186]
  have k0 := g4.1
  have y0 := g4.2.1
  have y1 := g4.2.2.1
  have y2 := g4.2.2.2.1
  have y3 := g4.2.2.2.2.1
  have y4 := g4.2.2.2.2.2.1
  have y5 := g4.2.2.2.2.2.2.1
  have y6 := g4.2.2.2.2.2.2.2.1
  have y7 := g4.2.2.2.2.2.2.2.2.1
  have y8 := g4.2.2.2.2.2.2.2.2.2.1
  have y9 := g4.2.2.2.2.2.2.2.2.2.2.1
  have y10 := g4.2.2.2.2.2.2.2.2.2.2.2
  have p0 := g3.1
  have p1 := g3.2.1
  have p2 := g3.2.2.1
  have p3 := g3.2.2.2.1
  have p4 := g3.2.2.2.2.1
  have p5 := g3.2.2.2.2.2.1
  have p6 := g3.2.2.2.2.2.2.1
  have p7 := g3.2.2.2.2.2.2.2
  have r0_0 := f19.2.1
  have r0_1 := f19.2.2.resolve_right (fun z => f20 z.1)
  have r1_0 := f27.2.1
  have r1_1 := f27.2.2.1
  have r1_2 := f27.2.2.2.1
  have r1_3 := f27.2.2.2.2.1
  have r1_4 := f27.2.2.2.2.2.1
  have r1_5 := f27.2.2.2.2.2.2.1
  have r1_6 := f27.2.2.2.2.2.2.2.1
  have r1_7 := f27.2.2.2.2.2.2.2.2
  have r2_0 := f44.2.1
  have r2_1 := f44.2.2.resolve_right (fun z => f45 z.1)
  have r3_0 := f46.2.1
  have r3_1 := f46.2.2.1
  have r3_2 := f46.2.2.2.1
  have r3_3 := f46.2.2.2.2
  try simp only [PA] at y0
  try simp only [PW] at y1
  try simp only [PA] at p0
  try simp only [PW] at p5
  try simp only [e3, e9, e10, e11, e13, e14, e15, e16, e17, e18, e19] at y0
  try simp only [e5, e7, e10, e11, e12, e13, e14, e15, e16] at y1
  try simp only [e23] at r0_0
  try simp only [e3, e5, e7, e9, e10, e11, e12, e13, e14, e15, e16, e17, e18, e19, e21, e23, e25, e28] at r0_1
  try simp only [e21] at r1_0
  try simp only [e21] at r1_1
  try simp only [e23] at r1_2
  try simp only [e21] at r1_3
  try simp only [e25] at r1_4
  try simp only [e21, e30] at r1_7
  try simp only [e36] at r2_0
  try simp only [e33, e36, e40] at r2_1
  try simp only [e33] at r3_0
  try simp only [e33] at r3_1
  try simp only [e36] at r3_2
  try simp only [e33] at r3_3
  clear g3
  clear g4
  have wb0 := (p7 (hV H0 285 32).toNat).1
  have wp0 := (p7 (hV H0 285 33).toNat).2
  try simp only [e3, e5, e7, e9, e10, e11, e12, e13, e14, e15, e16, e17, e18, e19] at wb0
  try simp only [e3, e5, e7, e9, e10, e11, e12, e13, e14, e15, e16, e17, e18, e19] at wp0
  clear f14 f30 f33 e3 e5 e7 e9 e10 e11 e12 e13 e14 e15 e16 e17 e18 e19 e21 e23 e25 e28 e30 e33 e36 e40 e44 e50 e56 e62 e68 e78 e88 e98 e108 e117 e127 e137 e147 e156 e166 e176 e186
  clear f10 f19 f27 f44 f46
  subst e0
  subst e1
  rw [f34] at f35
  first
  | (have ix0 : n16 = 6 * n2 := Eq.trans f35 (w32_iv (Iml 6 rfl (Iat f5 f4)) (by decide)); subst ix0; clear f35)
  | (have ix0 : n16 = 6 * n2 := Eq.trans f35 (w32_id (by omega) (by omega)); subst ix0; clear f35)
  | (unfold w32 at f35; have ix0 : n16 = 6 * n2 := (by omega); subst ix0)
  | skip
  first
  | (have ix1 : n18 = (6 * n2) + 1 := Eq.trans f37 (w32_iv (Iad (Iml 6 rfl (Iat f5 f4)) (IC 1)) (by decide)); subst ix1; clear f37)
  | (have ix1 : n18 = (6 * n2) + 1 := Eq.trans f37 (w32_id (by omega) (by omega)); subst ix1; clear f37)
  | (unfold w32 at f37; have ix1 : n18 = (6 * n2) + 1 := (by omega); subst ix1)
  | skip
  first
  | (have ix2 : n19 = ((6 * n2) + 1) + n1 := Eq.trans f38 (w32_iv (Iad (Iad (Iml 6 rfl (Iat f5 f4)) (IC 1)) (Iat f3 f2)) (by decide)); subst ix2; clear f38)
  | (have ix2 : n19 = ((6 * n2) + 1) + n1 := Eq.trans f38 (w32_id (by omega) (by omega)); subst ix2; clear f38)
  | (unfold w32 at f38; have ix2 : n19 = ((6 * n2) + 1) + n1 := (by omega); subst ix2)
  | skip
  first
  | (have ix3 : n20 = n1 + 1 := Eq.trans f40 (w32_iv (Iad (Iat f3 f2) (IC 1)) (by decide)); subst ix3; clear f40)
  | (have ix3 : n20 = n1 + 1 := Eq.trans f40 (w32_id (by omega) (by omega)); subst ix3; clear f40)
  | (unfold w32 at f40; have ix3 : n20 = n1 + 1 := (by omega); subst ix3)
  | skip
  try unfold w32 at f35
  try unfold w32 at f37
  try unfold w32 at f38
  try unfold w32 at f40

  refine ⟨⟨?_, ?_, ?_, ?_⟩, fun q hq => ?_⟩
  · first | exact True.intro | rfl | omega
  · refine PA_cn ?_ (by omega)
    exact y0
  · intro z1 z2
    refine PW_cn ?_ (by omega) (by omega) (by omega) (by omega)
    exact y1 (by omega) (by omega)
  · (try clear y0 y1 p0 p5 p7)
    first
    | omega
    | (refine ⟨?_, ?_, ?_, ?_, ?_, ?_, ?_, ?_, ?_⟩ <;> first | exact True.intro | omega)
  · (try clear y0 y1 p0 p5 p7)
    have g6 := Option.some.inj hq
    subst g6
    omega
def g_230_22_29 : vG := ([(1219, [2], [5, 6], 0), (31, [22], [], 0), (1216, [22, 2, 21], [4, 5], 0), (90, [22], [], 0), (91, [22], [], 1), (0, [21], [], 5), (10, [20, 4], [], 1), (80, [14, 19, 12], [4, 3], 0), (1, [19, 18, 4], [], 0), (1, [18, 16, 17], [], 0), (0, [17], [], 1), (3, [16, 15, 3], [], 0), (0, [15], [], 6), (20, [14, 2], [3], 31), (0, [14], [], 305), (30, [13], [], 0), (20, [13, 2], [3], 13), (90, [13], [], 0), (91, [13], [], 2), (1223, [12, 2, 10, 11], [2, 3], 0), (90, [12], [], 0), (91, [12], [], 9999), (0, [11], [], 400), (0, [10], [], 0), (41, [4, 9], [], 0), (0, [9], [], 4), (31, [8], [], 0), (1216, [8, 2, 7], [1, 2], 0), (90, [8], [], 0), (91, [8], [], 1), (0, [7], [], 2), (30, [6], [], 0), (20, [6, 2], [1], 13), (90, [6], [], 0), (91, [6], [], 2), (31, [5], [], 0), (5000, [0, 1, 2, 3, 4, 5], [0, 1], 22), (0, [0], [], 285), (90, [1], [], 0), (91, [1], [], 1007), (0, [2], [], 285), (90, [3], [], 0), (91, [3], [], 1007), (90, [4], [], 0), (91, [4], [], 5), (90, [5], [], 0), (91, [5], [], 1)], (4000, [2, 3, 20, 22], [6], 22))
theorem c_230_22_29 {q0 : Nat} : vOkm T0 (eP e_230 L_230 A_230 mu_230 (some q0)) 2 g_230_22_29 := vOk_inI fun ρ η f0 f1 f2 f3 f4 f5 f6 f7 f8 f9 f10 f11 f12 f13 f14 f15 f16 f17 f18 f19 f20 f21 f22 f23 f24 f25 f26 f27 f28 f29 f30 f31 f32 f33 f34 f35 f36 f37 f38 f39 f40 f41 f42 f43 f44 f45 f46 => q_230_22 (q0 := q0) (n0 := ρ 5) (n1 := ρ 4) (n2 := ρ 3) (n3 := ρ 2) (n4 := ρ 1) (n5 := ρ 0) (n6 := ρ 6) (n7 := ρ 7) (n8 := ρ 8) (n9 := ρ 9) (n10 := ρ 10) (n11 := ρ 11) (n12 := ρ 12) (n13 := ρ 13) (n14 := ρ 14) (n15 := ρ 15) (n16 := ρ 16) (n17 := ρ 17) (n18 := ρ 18) (n19 := ρ 19) (n20 := ρ 20) (n21 := ρ 21) (n22 := ρ 22) (H0 := η 0) (H1 := η 1) (H2 := η 2) (H3 := η 3) (H4 := η 4) (H5 := η 5) (H6 := η 6) f46 f45 f44 f43 f42 f41 f40 f39 f38 f37 f36 f35 f34 f33 f32 f31 f30 f29 f28 f27 f26 f25 f24 f23 f22 f21 f20 f19 f18 f17 f16 f15 f14 f13 f12 f11 f10 f9 f8 f7 f6 f5 f4 f3 f2 f1 f0
set_option maxHeartbeats 20000000 in
theorem kF_217_285_15 : vFree s_217.2.2.2.2 285 15 = true := by decide +kernel
theorem q_230_23 {q0 : Nat} {n0 n1 n2 n3 n4 n5 n6 n7 n8 n9 n10 n11 n12 n13 n14 n15 : Int} {H0 H1 H2 H3 H4 : gH} (f0 : n0 ≤ 1) (f1 : 0 ≤ n0) (f2 : n1 ≤ 5) (f3 : 0 ≤ n1) (f4 : n2 ≤ 1007) (f5 : 0 ≤ n2) (f6 : n3 = 285) (f7 : n4 ≤ 1007) (f8 : 0 ≤ n4) (f9 : n5 = 285) (f10 : (hLe T0 H0 H1 ∧ hFr s_230.2.2.2.2 H0 H1 ∧ hWt T0 H1) ∧ (Ab_230_22 n5 n4 n3 n2 n1 n0 H0 H1 ∧ preb_230 n5 n4 H0) ∧ some q0 = some (mub_230_22 n5 n4 n3 n2 n1 n0 H0 H1)) (f11 : n0 ≠ 0) (f12 : n6 ≤ 2) (f13 : 0 ≤ n6) (f14 : n6 = hV H1 (n3).toNat 13) (f15 : n6 = 0) (f16 : n7 = 2) (f17 : n8 ≤ 1) (f18 : 0 ≤ n8) (f19 : (hLe T0 H1 H2 ∧ hFr s_216.2.2.2.2 H1 H2 ∧ ((0 : Int) = 0 → H2.length = H1.length) ∧ hWt T0 H2) ∧ postb_216 n8 n3 n7 H1 H2) (f20 : n8 ≠ 0) (f21 : n9 = 4) (f22 : n1 = n9) (f23 : n10 = 2) (f24 : (hLe T0 H2 H3 ∧ hFr s_217.2.2.2.2 H2 H3 ∧ ((0 : Int) = 0 → H3.length = H2.length) ∧ hWt T0 H3) ∧ postb_217 n3 n10 H2 H3) (f25 : n11 = 0) (f26 : n12 = 400) (f27 : n13 ≤ 9999) (f28 : 0 ≤ n13) (f29 : (hLe T0 H3 H4 ∧ hFr s_223.2.2.2.2 H3 H4 ∧ ((0 : Int) = 0 → H4.length = H3.length) ∧ hWt T0 H4) ∧ postb_223 n13 n3 n11 n12 H3 H4) (f30 : n14 ≤ 2) (f31 : 0 ≤ n14) (f32 : n14 = hV H4 (n3).toNat 13) (f33 : n14 ≠ 0) (f34 : n15 = w32 (n1 + 1)) : 0 ≤ n15 := by
  have g4 := f10.2.1.1
  unfold Ab_230_22 at g4
  have g3 := f10.2.1.2
  unfold preb_230 at g3
  unfold postb_216 at f19
  unfold postb_217 at f24
  unfold postb_223 at f29
  have e0 : n6 = hV H1 285 13 := (by rw [f6] at f14; exact f14 : n6 = hV H1 285 13)
  have e1 : n14 = hV H4 285 13 := (by rw [f6] at f32; exact f32 : n14 = hV H4 285 13)
  have e3 : hV H1 285 18 = hV H0 285 18 := (f10.1.2.1.1 285 18 kF_230_285_18)
  have e5 : hV H1 285 32 = hV H0 285 32 := (f10.1.2.1.1 285 32 kF_230_285_32)
  have e7 : hV H1 285 33 = hV H0 285 33 := (f10.1.2.1.1 285 33 kF_230_285_33)
  have e9 : hV H2 285 11 = hV H1 285 11 := (f19.1.2.1.1 285 11 kF_216_285_11)
  have e11 : hV H2 285 13 = hV H1 285 13 := (f19.1.2.1.1 285 13 kF_216_285_13)
  have e14 : hV H2 288 = hV H0 288 := (fRow f19.1.2.1 288 kR_216_288).trans (fRow f10.1.2.1 288 kR_230_288)
  have e16 : hV H3 285 11 = hV H1 285 11 := ((f24.1.2.1.1 285 11 kF_217_285_11)).trans (f19.1.2.1.1 285 11 kF_216_285_11)
  have e19 : hV H3 285 15 = hV H1 285 15 := ((f24.1.2.1.1 285 15 kF_217_285_15)).trans (f19.1.2.1.1 285 15 kF_216_285_15)
  have e23 : hV H4 288 = hV H0 288 := (fRow f29.1.2.1 288 kR_223_288).trans ((fRow f24.1.2.1 288 kR_217_288).trans e14)
  have e24 : (0 : Int) ≤ hV H1 285 11 ∧ hV H1 285 11 ≤ 500 := f10.1.2.2 285 11 _ _ kW_285_11
  have e25 : (0 : Int) ≤ hV H1 285 13 ∧ hV H1 285 13 ≤ 2 := f10.1.2.2 285 13 _ _ kW_285_13
  have e26 : (0 : Int) ≤ hV H1 285 15 ∧ hV H1 285 15 ≤ 6 := f10.1.2.2 285 15 _ _ kW_285_15
  have e27 : (0 : Int) ≤ hV H0 285 18 ∧ hV H0 285 18 ≤ 8 := bTo e3 (f10.1.2.2 285 18 _ _ kW_285_18)
  have e28 : (0 : Int) ≤ hV H0 285 32 ∧ hV H0 285 32 ≤ 7 := bTo e5 (f10.1.2.2 285 32 _ _ kW_285_32)
  have e29 : (0 : Int) ≤ hV H0 285 33 ∧ hV H0 285 33 ≤ 62 := bTo e7 (f10.1.2.2 285 33 _ _ kW_285_33)
  have e33 : (0 : Int) ≤ hV H3 285 13 ∧ hV H3 285 13 ≤ 2 := f24.1.2.2.2 285 13 _ _ kW_285_13
  have e35 : (0 : Int) ≤ hV H4 285 11 ∧ hV H4 285 11 ≤ 500 := f29.1.2.2.2 285 11 _ _ kW_285_11
  have e36 : (0 : Int) ≤ hV H4 285 13 ∧ hV H4 285 13 ≤ 2 := f29.1.2.2.2 285 13 _ _ kW_285_13
  have e37 : (0 : Int) ≤ hV H4 285 15 ∧ hV H4 285 15 ≤ 6 := f29.1.2.2.2 285 15 _ _ kW_285_15
  have k0 := g4.1
  have y0 := g4.2.1
  have y1 := g4.2.2.1
  have y2 := g4.2.2.2.1
  have y3 := g4.2.2.2.2.1
  have y4 := g4.2.2.2.2.2.1
  have y5 := g4.2.2.2.2.2.2.1
  have y6 := g4.2.2.2.2.2.2.2.1
  have y7 := g4.2.2.2.2.2.2.2.2.1
  have y8 := g4.2.2.2.2.2.2.2.2.2.1
  have y9 := g4.2.2.2.2.2.2.2.2.2.2.1
  have y10 := g4.2.2.2.2.2.2.2.2.2.2.2
  have p0 := g3.1
  have p1 := g3.2.1
  have p2 := g3.2.2.1
  have p3 := g3.2.2.2.1
  have p4 := g3.2.2.2.2.1
  have p5 := g3.2.2.2.2.2.1
  have p6 := g3.2.2.2.2.2.2.1
  have p7 := g3.2.2.2.2.2.2.2
  have r0_0 := f19.2.1
  have r0_1 := f19.2.2.resolve_right (fun z => f20 z.1)
  have r1_0 := f24.2.1
  have r1_1 := f24.2.2
  have r2_0 := f29.2.1
  have r2_1 := f29.2.2.1
  have r2_2 := f29.2.2.2.1
  have r2_3 := f29.2.2.2.2.1
  have r2_4 := f29.2.2.2.2.2.1
  have r2_5 := f29.2.2.2.2.2.2.1
  have r2_6 := f29.2.2.2.2.2.2.2.1
  have r2_7 := f29.2.2.2.2.2.2.2.2
  try simp only [e11] at r0_0
  try simp only [e3, e5, e7, e9, e11, e14] at r0_1
  try simp only [e11] at r1_0
  try simp only [e16] at r2_0
  try simp only [e16] at r2_1
  try simp only [e16] at r2_3
  try simp only [e19] at r2_4
  try simp only [e16, e23] at r2_7
  clear g3
  clear g4
  have wb0 := (p7 (hV H0 285 32).toNat).1
  have wp0 := (p7 (hV H0 285 33).toNat).2
  try simp only [e3, e5, e7] at wb0
  try simp only [e3, e5, e7] at wp0
  clear f14 f32 e3 e5 e7 e9 e11 e14 e16 e19 e23
  clear f10 f19 f24 f29
  subst e0
  subst e1
  first
  | (have ix0 : n15 = n1 + 1 := Eq.trans f34 (w32_iv (Iad (Iat f3 f2) (IC 1)) (by decide)); subst ix0; clear f34)
  | (have ix0 : n15 = n1 + 1 := Eq.trans f34 (w32_id (by omega) (by omega)); subst ix0; clear f34)
  | (unfold w32 at f34; have ix0 : n15 = n1 + 1 := (by omega); subst ix0)
  | skip
  try unfold w32 at f34

  (try clear y0 y1 p0 p5 p7)
  omega
def g_230_22_30 : vG := ([(10, [15, 4], [], 1), (31, [14], [], 0), (20, [14, 2], [4], 13), (90, [14], [], 0), (91, [14], [], 2), (1223, [13, 2, 11, 12], [3, 4], 0), (90, [13], [], 0), (91, [13], [], 9999), (0, [12], [], 400), (0, [11], [], 0), (1217, [2, 10], [2, 3], 0), (0, [10], [], 2), (40, [4, 9], [], 0), (0, [9], [], 4), (31, [8], [], 0), (1216, [8, 2, 7], [1, 2], 0), (90, [8], [], 0), (91, [8], [], 1), (0, [7], [], 2), (30, [6], [], 0), (20, [6, 2], [1], 13), (90, [6], [], 0), (91, [6], [], 2), (31, [5], [], 0), (5000, [0, 1, 2, 3, 4, 5], [0, 1], 22), (0, [0], [], 285), (90, [1], [], 0), (91, [1], [], 1007), (0, [2], [], 285), (90, [3], [], 0), (91, [3], [], 1007), (90, [4], [], 0), (91, [4], [], 5), (90, [5], [], 0), (91, [5], [], 1)], (90, [15], [], 0))
theorem c_230_22_30 {q0 : Nat} : vOkm T0 (eP e_230 L_230 A_230 mu_230 (some q0)) 2 g_230_22_30 := vOk_inI fun ρ η f0 f1 f2 f3 f4 f5 f6 f7 f8 f9 f10 f11 f12 f13 f14 f15 f16 f17 f18 f19 f20 f21 f22 f23 f24 f25 f26 f27 f28 f29 f30 f31 f32 f33 f34 => q_230_23 (q0 := q0) (n0 := ρ 5) (n1 := ρ 4) (n2 := ρ 3) (n3 := ρ 2) (n4 := ρ 1) (n5 := ρ 0) (n6 := ρ 6) (n7 := ρ 7) (n8 := ρ 8) (n9 := ρ 9) (n10 := ρ 10) (n11 := ρ 11) (n12 := ρ 12) (n13 := ρ 13) (n14 := ρ 14) (n15 := ρ 15) (H0 := η 0) (H1 := η 1) (H2 := η 2) (H3 := η 3) (H4 := η 4) f34 f33 f32 f31 f30 f29 f28 f27 f26 f25 f24 f23 f22 f21 f20 f19 f18 f17 f16 f15 f14 f13 f12 f11 f10 f9 f8 f7 f6 f5 f4 f3 f2 f1 f0
set_option maxHeartbeats 20000000 in
theorem q_230_24 {q0 : Nat} {n0 n1 n2 n3 n4 n5 n6 n7 n8 n9 n10 n11 n12 n13 n14 n15 : Int} {H0 H1 H2 H3 H4 : gH} (f0 : n0 ≤ 1) (f1 : 0 ≤ n0) (f2 : n1 ≤ 5) (f3 : 0 ≤ n1) (f4 : n2 ≤ 1007) (f5 : 0 ≤ n2) (f6 : n3 = 285) (f7 : n4 ≤ 1007) (f8 : 0 ≤ n4) (f9 : n5 = 285) (f10 : (hLe T0 H0 H1 ∧ hFr s_230.2.2.2.2 H0 H1 ∧ hWt T0 H1) ∧ (Ab_230_22 n5 n4 n3 n2 n1 n0 H0 H1 ∧ preb_230 n5 n4 H0) ∧ some q0 = some (mub_230_22 n5 n4 n3 n2 n1 n0 H0 H1)) (f11 : n0 ≠ 0) (f12 : n6 ≤ 2) (f13 : 0 ≤ n6) (f14 : n6 = hV H1 (n3).toNat 13) (f15 : n6 = 0) (f16 : n7 = 2) (f17 : n8 ≤ 1) (f18 : 0 ≤ n8) (f19 : (hLe T0 H1 H2 ∧ hFr s_216.2.2.2.2 H1 H2 ∧ ((0 : Int) = 0 → H2.length = H1.length) ∧ hWt T0 H2) ∧ postb_216 n8 n3 n7 H1 H2) (f20 : n8 ≠ 0) (f21 : n9 = 4) (f22 : n1 = n9) (f23 : n10 = 2) (f24 : (hLe T0 H2 H3 ∧ hFr s_217.2.2.2.2 H2 H3 ∧ ((0 : Int) = 0 → H3.length = H2.length) ∧ hWt T0 H3) ∧ postb_217 n3 n10 H2 H3) (f25 : n11 = 0) (f26 : n12 = 400) (f27 : n13 ≤ 9999) (f28 : 0 ≤ n13) (f29 : (hLe T0 H3 H4 ∧ hFr s_223.2.2.2.2 H3 H4 ∧ ((0 : Int) = 0 → H4.length = H3.length) ∧ hWt T0 H4) ∧ postb_223 n13 n3 n11 n12 H3 H4) (f30 : n14 ≤ 2) (f31 : 0 ≤ n14) (f32 : n14 = hV H4 (n3).toNat 13) (f33 : n14 ≠ 0) (f34 : n15 = w32 (n1 + 1)) : n15 ≤ 5 := by
  have g4 := f10.2.1.1
  unfold Ab_230_22 at g4
  have g3 := f10.2.1.2
  unfold preb_230 at g3
  unfold postb_216 at f19
  unfold postb_217 at f24
  unfold postb_223 at f29
  have e0 : n6 = hV H1 285 13 := (by rw [f6] at f14; exact f14 : n6 = hV H1 285 13)
  have e1 : n14 = hV H4 285 13 := (by rw [f6] at f32; exact f32 : n14 = hV H4 285 13)
  have e3 : hV H1 285 18 = hV H0 285 18 := (f10.1.2.1.1 285 18 kF_230_285_18)
  have e5 : hV H1 285 32 = hV H0 285 32 := (f10.1.2.1.1 285 32 kF_230_285_32)
  have e7 : hV H1 285 33 = hV H0 285 33 := (f10.1.2.1.1 285 33 kF_230_285_33)
  have e9 : hV H2 285 11 = hV H1 285 11 := (f19.1.2.1.1 285 11 kF_216_285_11)
  have e11 : hV H2 285 13 = hV H1 285 13 := (f19.1.2.1.1 285 13 kF_216_285_13)
  have e14 : hV H2 288 = hV H0 288 := (fRow f19.1.2.1 288 kR_216_288).trans (fRow f10.1.2.1 288 kR_230_288)
  have e16 : hV H3 285 11 = hV H1 285 11 := ((f24.1.2.1.1 285 11 kF_217_285_11)).trans (f19.1.2.1.1 285 11 kF_216_285_11)
  have e19 : hV H3 285 15 = hV H1 285 15 := ((f24.1.2.1.1 285 15 kF_217_285_15)).trans (f19.1.2.1.1 285 15 kF_216_285_15)
  have e23 : hV H4 288 = hV H0 288 := (fRow f29.1.2.1 288 kR_223_288).trans ((fRow f24.1.2.1 288 kR_217_288).trans e14)
  have e24 : (0 : Int) ≤ hV H1 285 11 ∧ hV H1 285 11 ≤ 500 := f10.1.2.2 285 11 _ _ kW_285_11
  have e25 : (0 : Int) ≤ hV H1 285 13 ∧ hV H1 285 13 ≤ 2 := f10.1.2.2 285 13 _ _ kW_285_13
  have e26 : (0 : Int) ≤ hV H1 285 15 ∧ hV H1 285 15 ≤ 6 := f10.1.2.2 285 15 _ _ kW_285_15
  have e27 : (0 : Int) ≤ hV H0 285 18 ∧ hV H0 285 18 ≤ 8 := bTo e3 (f10.1.2.2 285 18 _ _ kW_285_18)
  have e28 : (0 : Int) ≤ hV H0 285 32 ∧ hV H0 285 32 ≤ 7 := bTo e5 (f10.1.2.2 285 32 _ _ kW_285_32)
  have e29 : (0 : Int) ≤ hV H0 285 33 ∧ hV H0 285 33 ≤ 62 := bTo e7 (f10.1.2.2 285 33 _ _ kW_285_33)
  have e33 : (0 : Int) ≤ hV H3 285 13 ∧ hV H3 285 13 ≤ 2 := f24.1.2.2.2 285 13 _ _ kW_285_13
  have e35 : (0 : Int) ≤ hV H4 285 11 ∧ hV H4 285 11 ≤ 500 := f29.1.2.2.2 285 11 _ _ kW_285_11
  have e36 : (0 : Int) ≤ hV H4 285 13 ∧ hV H4 285 13 ≤ 2 := f29.1.2.2.2 285 13 _ _ kW_285_13
  have e37 : (0 : Int) ≤ hV H4 285 15 ∧ hV H4 285 15 ≤ 6 := f29.1.2.2.2 285 15 _ _ kW_285_15
  have k0 := g4.1
  have y0 := g4.2.1
  have y1 := g4.2.2.1
  have y2 := g4.2.2.2.1
  have y3 := g4.2.2.2.2.1
  have y4 := g4.2.2.2.2.2.1
  have y5 := g4.2.2.2.2.2.2.1
  have y6 := g4.2.2.2.2.2.2.2.1
  have y7 := g4.2.2.2.2.2.2.2.2.1
  have y8 := g4.2.2.2.2.2.2.2.2.2.1
  have y9 := g4.2.2.2.2.2.2.2.2.2.2.1
  have y10 := g4.2.2.2.2.2.2.2.2.2.2.2
  have p0 := g3.1
  have p1 := g3.2.1
  have p2 := g3.2.2.1
  have p3 := g3.2.2.2.1
  have p4 := g3.2.2.2.2.1
  have p5 := g3.2.2.2.2.2.1
  have p6 := g3.2.2.2.2.2.2.1
  have p7 := g3.2.2.2.2.2.2.2
  have r0_0 := f19.2.1
  have r0_1 := f19.2.2.resolve_right (fun z => f20 z.1)
  have r1_0 := f24.2.1
  have r1_1 := f24.2.2
  have r2_0 := f29.2.1
  have r2_1 := f29.2.2.1
  have r2_2 := f29.2.2.2.1
  have r2_3 := f29.2.2.2.2.1
  have r2_4 := f29.2.2.2.2.2.1
  have r2_5 := f29.2.2.2.2.2.2.1
  have r2_6 := f29.2.2.2.2.2.2.2.1
  have r2_7 := f29.2.2.2.2.2.2.2.2
  try simp only [e11] at r0_0
  try simp only [e3, e5, e7, e9, e11, e14] at r0_1
  try simp only [e11] at r1_0
  try simp only [e16] at r2_0
  try simp only [e16] at r2_1
  try simp only [e16] at r2_3
  try simp only [e19] at r2_4
  try simp only [e16, e23] at r2_7
  clear g3
  clear g4
  have wb0 := (p7 (hV H0 285 32).toNat).1
  have wp0 := (p7 (hV H0 285 33).toNat).2
  try simp only [e3, e5, e7] at wb0
  try simp only [e3, e5, e7] at wp0
  clear f14 f32 e3 e5 e7 e9 e11 e14 e16 e19 e23
  clear f10 f19 f24 f29
  subst e0
  subst e1
  first
  | (have ix0 : n15 = n1 + 1 := Eq.trans f34 (w32_iv (Iad (Iat f3 f2) (IC 1)) (by decide)); subst ix0; clear f34)
  | (have ix0 : n15 = n1 + 1 := Eq.trans f34 (w32_id (by omega) (by omega)); subst ix0; clear f34)
  | (unfold w32 at f34; have ix0 : n15 = n1 + 1 := (by omega); subst ix0)
  | skip
  try unfold w32 at f34

  (try clear y0 y1 p0 p5 p7)
  omega
def g_230_22_31 : vG := ([(10, [15, 4], [], 1), (31, [14], [], 0), (20, [14, 2], [4], 13), (90, [14], [], 0), (91, [14], [], 2), (1223, [13, 2, 11, 12], [3, 4], 0), (90, [13], [], 0), (91, [13], [], 9999), (0, [12], [], 400), (0, [11], [], 0), (1217, [2, 10], [2, 3], 0), (0, [10], [], 2), (40, [4, 9], [], 0), (0, [9], [], 4), (31, [8], [], 0), (1216, [8, 2, 7], [1, 2], 0), (90, [8], [], 0), (91, [8], [], 1), (0, [7], [], 2), (30, [6], [], 0), (20, [6, 2], [1], 13), (90, [6], [], 0), (91, [6], [], 2), (31, [5], [], 0), (5000, [0, 1, 2, 3, 4, 5], [0, 1], 22), (0, [0], [], 285), (90, [1], [], 0), (91, [1], [], 1007), (0, [2], [], 285), (90, [3], [], 0), (91, [3], [], 1007), (90, [4], [], 0), (91, [4], [], 5), (90, [5], [], 0), (91, [5], [], 1)], (91, [15], [], 5))
theorem c_230_22_31 {q0 : Nat} : vOkm T0 (eP e_230 L_230 A_230 mu_230 (some q0)) 2 g_230_22_31 := vOk_inI fun ρ η f0 f1 f2 f3 f4 f5 f6 f7 f8 f9 f10 f11 f12 f13 f14 f15 f16 f17 f18 f19 f20 f21 f22 f23 f24 f25 f26 f27 f28 f29 f30 f31 f32 f33 f34 => q_230_24 (q0 := q0) (n0 := ρ 5) (n1 := ρ 4) (n2 := ρ 3) (n3 := ρ 2) (n4 := ρ 1) (n5 := ρ 0) (n6 := ρ 6) (n7 := ρ 7) (n8 := ρ 8) (n9 := ρ 9) (n10 := ρ 10) (n11 := ρ 11) (n12 := ρ 12) (n13 := ρ 13) (n14 := ρ 14) (n15 := ρ 15) (H0 := η 0) (H1 := η 1) (H2 := η 2) (H3 := η 3) (H4 := η 4) f34 f33 f32 f31 f30 f29 f28 f27 f26 f25 f24 f23 f22 f21 f20 f19 f18 f17 f16 f15 f14 f13 f12 f11 f10 f9 f8 f7 f6 f5 f4 f3 f2 f1 f0
set_option maxHeartbeats 20000000 in
theorem kR_217_300 : vFreeR s_217.2.2.2.2 300 = true := by decide +kernel
theorem q_230_25 {q0 : Nat} {n0 n1 n2 n3 n4 n5 n6 n7 n8 n9 n10 n11 n12 n13 n14 n15 n16 n17 : Int} {H0 H1 H2 H3 H4 H5 : gH} (f0 : n0 ≤ 1) (f1 : 0 ≤ n0) (f2 : n1 ≤ 5) (f3 : 0 ≤ n1) (f4 : n2 ≤ 1007) (f5 : 0 ≤ n2) (f6 : n3 = 285) (f7 : n4 ≤ 1007) (f8 : 0 ≤ n4) (f9 : n5 = 285) (f10 : (hLe T0 H0 H1 ∧ hFr s_230.2.2.2.2 H0 H1 ∧ hWt T0 H1) ∧ (Ab_230_22 n5 n4 n3 n2 n1 n0 H0 H1 ∧ preb_230 n5 n4 H0) ∧ some q0 = some (mub_230_22 n5 n4 n3 n2 n1 n0 H0 H1)) (f11 : n0 ≠ 0) (f12 : n6 ≤ 2) (f13 : 0 ≤ n6) (f14 : n6 = hV H1 (n3).toNat 13) (f15 : n6 = 0) (f16 : n7 = 2) (f17 : n8 ≤ 1) (f18 : 0 ≤ n8) (f19 : (hLe T0 H1 H2 ∧ hFr s_216.2.2.2.2 H1 H2 ∧ ((0 : Int) = 0 → H2.length = H1.length) ∧ hWt T0 H2) ∧ postb_216 n8 n3 n7 H1 H2) (f20 : n8 ≠ 0) (f21 : n9 = 4) (f22 : n1 = n9) (f23 : n10 = 2) (f24 : (hLe T0 H2 H3 ∧ hFr s_217.2.2.2.2 H2 H3 ∧ ((0 : Int) = 0 → H3.length = H2.length) ∧ hWt T0 H3) ∧ postb_217 n3 n10 H2 H3) (f25 : n11 = 0) (f26 : n12 = 400) (f27 : n13 ≤ 9999) (f28 : 0 ≤ n13) (f29 : (hLe T0 H3 H4 ∧ hFr s_223.2.2.2.2 H3 H4 ∧ ((0 : Int) = 0 → H4.length = H3.length) ∧ hWt T0 H4) ∧ postb_223 n13 n3 n11 n12 H3 H4) (f30 : n14 ≤ 2) (f31 : 0 ≤ n14) (f32 : n14 = hV H4 (n3).toNat 13) (f33 : n14 ≠ 0) (f34 : n15 = w32 (n1 + 1)) (f35 : n16 = 5) (f36 : n17 ≤ 1) (f37 : 0 ≤ n17) (f38 : (hLe T0 H4 H5 ∧ hFr s_216.2.2.2.2 H4 H5 ∧ ((0 : Int) = 0 → H5.length = H4.length) ∧ hWt T0 H5) ∧ postb_216 n17 n3 n16 H4 H5) (f39 : n17 = 0) : Ab_230_22 n5 n4 n3 n2 n15 n17 H0 H5 ∧ ∀ q, some q0 = some q → mub_230_22 n5 n4 n3 n2 n15 n17 H0 H5 < q := by
  have g4 := f10.2.1.1
  unfold Ab_230_22 at g4
  have g3 := f10.2.1.2
  unfold preb_230 at g3
  have g5 := Option.some.inj f10.2.2
  unfold mub_230_22 at g5
  unfold postb_216 at f19
  unfold postb_217 at f24
  unfold postb_223 at f29
  unfold postb_216 at f38
  unfold Ab_230_22
  unfold mub_230_22
  have e0 : n6 = hV H1 285 13 := (by rw [f6] at f14; exact f14 : n6 = hV H1 285 13)
  have e1 : n14 = hV H4 285 13 := (by rw [f6] at f32; exact f32 : n14 = hV H4 285 13)
  have e3 : hV H1 285 18 = hV H0 285 18 := (f10.1.2.1.1 285 18 kF_230_285_18)
  have e5 : hV H1 285 32 = hV H0 285 32 := (f10.1.2.1.1 285 32 kF_230_285_32)
  have e7 : hV H1 285 33 = hV H0 285 33 := (f10.1.2.1.1 285 33 kF_230_285_33)
  have e9 : hV H2 285 11 = hV H1 285 11 := (f19.1.2.1.1 285 11 kF_216_285_11)
  have e11 : hV H2 285 13 = hV H1 285 13 := (f19.1.2.1.1 285 13 kF_216_285_13)
  have e14 : hV H2 288 = hV H0 288 := (fRow f19.1.2.1 288 kR_216_288).trans (fRow f10.1.2.1 288 kR_230_288)
  have e16 : hV H3 285 11 = hV H1 285 11 := ((f24.1.2.1.1 285 11 kF_217_285_11)).trans (f19.1.2.1.1 285 11 kF_216_285_11)
  have e19 : hV H3 285 15 = hV H1 285 15 := ((f24.1.2.1.1 285 15 kF_217_285_15)).trans (f19.1.2.1.1 285 15 kF_216_285_15)
  have e23 : hV H4 288 = hV H0 288 := (fRow f29.1.2.1 288 kR_223_288).trans ((fRow f24.1.2.1 288 kR_217_288).trans e14)
  have e25 : hV H5 285 11 = hV H4 285 11 := (f38.1.2.1.1 285 11 kF_216_285_11)
  have e27 : hV H5 285 13 = hV H4 285 13 := (f38.1.2.1.1 285 13 kF_216_285_13)
  have e29 : hV H5 285 15 = hV H4 285 15 := (f38.1.2.1.1 285 15 kF_216_285_15)
  have e31 : hV H5 288 = hV H0 288 := (fRow f38.1.2.1 288 kR_216_288).trans e23
  have e38 : hV H5 300 = hV H1 300 := (fRow f38.1.2.1 300 kR_216_300).trans ((fRow f29.1.2.1 300 kR_223_300).trans ((fRow f24.1.2.1 300 kR_217_300).trans (fRow f19.1.2.1 300 kR_216_300)))
  have e39 : PA H2 = PA H1 := PA_fr f19.1.2.1 (by decide +kernel)
  have e40 : PA H3 = PA H2 := PA_fr f24.1.2.1 (by decide +kernel)
  have e41 : PA H3 = PA H1 := e40.trans e39
  have e42 : PA H4 = PA H3 := PA_fr f29.1.2.1 (by decide +kernel)
  have e43 : PA H4 = PA H1 := e42.trans e41
  have e44 : PA H5 = PA H4 := PA_fr f38.1.2.1 (by decide +kernel)
  have e45 : PA H5 = PA H1 := e44.trans e43
  have e46 : PW H2 = PW H1 := PW_fr f19.1.2.1 (by decide +kernel)
  have e47 : PW H3 = PW H2 := PW_fr f24.1.2.1 (by decide +kernel)
  have e48 : PW H3 = PW H1 := e47.trans e46
  have e49 : PW H4 = PW H3 := PW_fr f29.1.2.1 (by decide +kernel)
  have e50 : PW H4 = PW H1 := e49.trans e48
  have e51 : PW H5 = PW H4 := PW_fr f38.1.2.1 (by decide +kernel)
  have e52 : PW H5 = PW H1 := e51.trans e50
  have e53 : (0 : Int) ≤ hV H1 285 11 ∧ hV H1 285 11 ≤ 500 := f10.1.2.2 285 11 _ _ kW_285_11
  have e54 : (0 : Int) ≤ hV H1 285 13 ∧ hV H1 285 13 ≤ 2 := f10.1.2.2 285 13 _ _ kW_285_13
  have e55 : (0 : Int) ≤ hV H1 285 15 ∧ hV H1 285 15 ≤ 6 := f10.1.2.2 285 15 _ _ kW_285_15
  have e56 : (0 : Int) ≤ hV H0 285 18 ∧ hV H0 285 18 ≤ 8 := bTo e3 (f10.1.2.2 285 18 _ _ kW_285_18)
  have e57 : (0 : Int) ≤ hV H0 285 32 ∧ hV H0 285 32 ≤ 7 := bTo e5 (f10.1.2.2 285 32 _ _ kW_285_32)
  have e58 : (0 : Int) ≤ hV H0 285 33 ∧ hV H0 285 33 ≤ 62 := bTo e7 (f10.1.2.2 285 33 _ _ kW_285_33)
  have e62 : (0 : Int) ≤ hV H3 285 13 ∧ hV H3 285 13 ≤ 2 := f24.1.2.2.2 285 13 _ _ kW_285_13
  have e64 : (0 : Int) ≤ hV H4 285 11 ∧ hV H4 285 11 ≤ 500 := f29.1.2.2.2 285 11 _ _ kW_285_11
  have e65 : (0 : Int) ≤ hV H4 285 13 ∧ hV H4 285 13 ≤ 2 := f29.1.2.2.2 285 13 _ _ kW_285_13
  have e66 : (0 : Int) ≤ hV H4 285 15 ∧ hV H4 285 15 ≤ 6 := f29.1.2.2.2 285 15 _ _ kW_285_15
  try simp only [e25, e27, e29, e38, e45, e52]
  have k0 := g4.1
  have y0 := g4.2.1
  have y1 := g4.2.2.1
  have y2 := g4.2.2.2.1
  have y3 := g4.2.2.2.2.1
  have y4 := g4.2.2.2.2.2.1
  have y5 := g4.2.2.2.2.2.2.1
  have y6 := g4.2.2.2.2.2.2.2.1
  have y7 := g4.2.2.2.2.2.2.2.2.1
  have y8 := g4.2.2.2.2.2.2.2.2.2.1
  have y9 := g4.2.2.2.2.2.2.2.2.2.2.1
  have y10 := g4.2.2.2.2.2.2.2.2.2.2.2
  have p0 := g3.1
  have p1 := g3.2.1
  have p2 := g3.2.2.1
  have p3 := g3.2.2.2.1
  have p4 := g3.2.2.2.2.1
  have p5 := g3.2.2.2.2.2.1
  have p6 := g3.2.2.2.2.2.2.1
  have p7 := g3.2.2.2.2.2.2.2
  have r0_0 := f19.2.1
  have r0_1 := f19.2.2.resolve_right (fun z => f20 z.1)
  have r1_0 := f24.2.1
  have r1_1 := f24.2.2
  have r2_0 := f29.2.1
  have r2_1 := f29.2.2.1
  have r2_2 := f29.2.2.2.1
  have r2_3 := f29.2.2.2.2.1
  have r2_4 := f29.2.2.2.2.2.1
  have r2_5 := f29.2.2.2.2.2.2.1
  have r2_6 := f29.2.2.2.2.2.2.2.1
  have r2_7 := f29.2.2.2.2.2.2.2.2
  have r3_0 := f38.2.1
  have r3_1 := f38.2.2
  try simp only [e11] at r0_0
  try simp only [e3, e5, e7, e9, e11, e14] at r0_1
  try simp only [e11] at r1_0
  try simp only [e16] at r2_0
  try simp only [e16] at r2_1
  try simp only [e16] at r2_3
  try simp only [e19] at r2_4
  try simp only [e16, e23] at r2_7
  try simp only [e27] at r3_0
  try simp only [e25, e27, e31] at r3_1
  clear g3
  clear g4
  have wb0 := (p7 (hV H0 285 32).toNat).1
  have wp0 := (p7 (hV H0 285 33).toNat).2
  try simp only [e3, e5, e7] at wb0
  try simp only [e3, e5, e7] at wp0
  clear f14 f32 e3 e5 e7 e9 e11 e14 e16 e19 e23 e25 e27 e29 e31 e38 e39 e40 e41 e42 e43 e44 e45 e46 e47 e48 e49 e50 e51 e52
  clear f10 f19 f24 f29 f38
  subst e0
  subst e1
  first
  | (have ix0 : n15 = n1 + 1 := Eq.trans f34 (w32_iv (Iad (Iat f3 f2) (IC 1)) (by decide)); subst ix0; clear f34)
  | (have ix0 : n15 = n1 + 1 := Eq.trans f34 (w32_id (by omega) (by omega)); subst ix0; clear f34)
  | (unfold w32 at f34; have ix0 : n15 = n1 + 1 := (by omega); subst ix0)
  | skip
  try unfold w32 at f34

  refine ⟨⟨?_, ?_, ?_, ?_⟩, fun q hq => ?_⟩
  · first | exact True.intro | rfl | omega
  · exact y0
  · intro z1 z2
    exact y1 (by omega) (by omega)
  · (try clear y0 y1 p0 p5 p7)
    first
    | omega
    | (refine ⟨?_, ?_, ?_, ?_, ?_, ?_, ?_, ?_, ?_⟩ <;> first | exact True.intro | omega)
  · (try clear y0 y1 p0 p5 p7)
    have g6 := Option.some.inj hq
    subst g6
    omega
def g_230_22_32 : vG := ([(30, [17], [], 0), (1216, [17, 2, 16], [4, 5], 0), (90, [17], [], 0), (91, [17], [], 1), (0, [16], [], 5), (10, [15, 4], [], 1), (31, [14], [], 0), (20, [14, 2], [4], 13), (90, [14], [], 0), (91, [14], [], 2), (1223, [13, 2, 11, 12], [3, 4], 0), (90, [13], [], 0), (91, [13], [], 9999), (0, [12], [], 400), (0, [11], [], 0), (1217, [2, 10], [2, 3], 0), (0, [10], [], 2), (40, [4, 9], [], 0), (0, [9], [], 4), (31, [8], [], 0), (1216, [8, 2, 7], [1, 2], 0), (90, [8], [], 0), (91, [8], [], 1), (0, [7], [], 2), (30, [6], [], 0), (20, [6, 2], [1], 13), (90, [6], [], 0), (91, [6], [], 2), (31, [5], [], 0), (5000, [0, 1, 2, 3, 4, 5], [0, 1], 22), (0, [0], [], 285), (90, [1], [], 0), (91, [1], [], 1007), (0, [2], [], 285), (90, [3], [], 0), (91, [3], [], 1007), (90, [4], [], 0), (91, [4], [], 5), (90, [5], [], 0), (91, [5], [], 1)], (4000, [2, 3, 15, 17], [5], 22))
theorem c_230_22_32 {q0 : Nat} : vOkm T0 (eP e_230 L_230 A_230 mu_230 (some q0)) 2 g_230_22_32 := vOk_inI fun ρ η f0 f1 f2 f3 f4 f5 f6 f7 f8 f9 f10 f11 f12 f13 f14 f15 f16 f17 f18 f19 f20 f21 f22 f23 f24 f25 f26 f27 f28 f29 f30 f31 f32 f33 f34 f35 f36 f37 f38 f39 => q_230_25 (q0 := q0) (n0 := ρ 5) (n1 := ρ 4) (n2 := ρ 3) (n3 := ρ 2) (n4 := ρ 1) (n5 := ρ 0) (n6 := ρ 6) (n7 := ρ 7) (n8 := ρ 8) (n9 := ρ 9) (n10 := ρ 10) (n11 := ρ 11) (n12 := ρ 12) (n13 := ρ 13) (n14 := ρ 14) (n15 := ρ 15) (n16 := ρ 16) (n17 := ρ 17) (H0 := η 0) (H1 := η 1) (H2 := η 2) (H3 := η 3) (H4 := η 4) (H5 := η 5) f39 f38 f37 f36 f35 f34 f33 f32 f31 f30 f29 f28 f27 f26 f25 f24 f23 f22 f21 f20 f19 f18 f17 f16 f15 f14 f13 f12 f11 f10 f9 f8 f7 f6 f5 f4 f3 f2 f1 f0
def g_230_22_33 : vG := ([(10, [15, 4], [], 1), (31, [14], [], 0), (20, [14, 2], [4], 13), (90, [14], [], 0), (91, [14], [], 2), (1223, [13, 2, 11, 12], [3, 4], 0), (90, [13], [], 0), (91, [13], [], 9999), (0, [12], [], 400), (0, [11], [], 0), (1217, [2, 10], [2, 3], 0), (0, [10], [], 2), (40, [4, 9], [], 0), (0, [9], [], 4), (31, [8], [], 0), (1216, [8, 2, 7], [1, 2], 0), (90, [8], [], 0), (91, [8], [], 1), (0, [7], [], 2), (30, [6], [], 0), (20, [6, 2], [1], 13), (90, [6], [], 0), (91, [6], [], 2), (31, [5], [], 0), (5000, [0, 1, 2, 3, 4, 5], [0, 1], 22), (0, [0], [], 285), (90, [1], [], 0), (91, [1], [], 1007), (0, [2], [], 285), (90, [3], [], 0), (91, [3], [], 1007), (90, [4], [], 0), (91, [4], [], 5), (90, [5], [], 0), (91, [5], [], 1)], (90, [15], [], 0))
theorem c_230_22_33 {q0 : Nat} : vOkm T0 (eP e_230 L_230 A_230 mu_230 (some q0)) 2 g_230_22_33 := vOk_inI fun ρ η f0 f1 f2 f3 f4 f5 f6 f7 f8 f9 f10 f11 f12 f13 f14 f15 f16 f17 f18 f19 f20 f21 f22 f23 f24 f25 f26 f27 f28 f29 f30 f31 f32 f33 f34 => q_230_23 (q0 := q0) (n0 := ρ 5) (n1 := ρ 4) (n2 := ρ 3) (n3 := ρ 2) (n4 := ρ 1) (n5 := ρ 0) (n6 := ρ 6) (n7 := ρ 7) (n8 := ρ 8) (n9 := ρ 9) (n10 := ρ 10) (n11 := ρ 11) (n12 := ρ 12) (n13 := ρ 13) (n14 := ρ 14) (n15 := ρ 15) (H0 := η 0) (H1 := η 1) (H2 := η 2) (H3 := η 3) (H4 := η 4) f34 f33 f32 f31 f30 f29 f28 f27 f26 f25 f24 f23 f22 f21 f20 f19 f18 f17 f16 f15 f14 f13 f12 f11 f10 f9 f8 f7 f6 f5 f4 f3 f2 f1 f0
def g_230_22_34 : vG := ([(10, [15, 4], [], 1), (31, [14], [], 0), (20, [14, 2], [4], 13), (90, [14], [], 0), (91, [14], [], 2), (1223, [13, 2, 11, 12], [3, 4], 0), (90, [13], [], 0), (91, [13], [], 9999), (0, [12], [], 400), (0, [11], [], 0), (1217, [2, 10], [2, 3], 0), (0, [10], [], 2), (40, [4, 9], [], 0), (0, [9], [], 4), (31, [8], [], 0), (1216, [8, 2, 7], [1, 2], 0), (90, [8], [], 0), (91, [8], [], 1), (0, [7], [], 2), (30, [6], [], 0), (20, [6, 2], [1], 13), (90, [6], [], 0), (91, [6], [], 2), (31, [5], [], 0), (5000, [0, 1, 2, 3, 4, 5], [0, 1], 22), (0, [0], [], 285), (90, [1], [], 0), (91, [1], [], 1007), (0, [2], [], 285), (90, [3], [], 0), (91, [3], [], 1007), (90, [4], [], 0), (91, [4], [], 5), (90, [5], [], 0), (91, [5], [], 1)], (91, [15], [], 5))
theorem c_230_22_34 {q0 : Nat} : vOkm T0 (eP e_230 L_230 A_230 mu_230 (some q0)) 2 g_230_22_34 := vOk_inI fun ρ η f0 f1 f2 f3 f4 f5 f6 f7 f8 f9 f10 f11 f12 f13 f14 f15 f16 f17 f18 f19 f20 f21 f22 f23 f24 f25 f26 f27 f28 f29 f30 f31 f32 f33 f34 => q_230_24 (q0 := q0) (n0 := ρ 5) (n1 := ρ 4) (n2 := ρ 3) (n3 := ρ 2) (n4 := ρ 1) (n5 := ρ 0) (n6 := ρ 6) (n7 := ρ 7) (n8 := ρ 8) (n9 := ρ 9) (n10 := ρ 10) (n11 := ρ 11) (n12 := ρ 12) (n13 := ρ 13) (n14 := ρ 14) (n15 := ρ 15) (H0 := η 0) (H1 := η 1) (H2 := η 2) (H3 := η 3) (H4 := η 4) f34 f33 f32 f31 f30 f29 f28 f27 f26 f25 f24 f23 f22 f21 f20 f19 f18 f17 f16 f15 f14 f13 f12 f11 f10 f9 f8 f7 f6 f5 f4 f3 f2 f1 f0
set_option maxHeartbeats 20000000 in
theorem q_230_26 {q0 : Nat} {n0 n1 n2 n3 n4 n5 n6 n7 n8 n9 n10 n11 n12 n13 n14 n15 n16 n17 : Int} {H0 H1 H2 H3 H4 H5 H6 : gH} (f0 : n0 ≤ 1) (f1 : 0 ≤ n0) (f2 : n1 ≤ 5) (f3 : 0 ≤ n1) (f4 : n2 ≤ 1007) (f5 : 0 ≤ n2) (f6 : n3 = 285) (f7 : n4 ≤ 1007) (f8 : 0 ≤ n4) (f9 : n5 = 285) (f10 : (hLe T0 H0 H1 ∧ hFr s_230.2.2.2.2 H0 H1 ∧ hWt T0 H1) ∧ (Ab_230_22 n5 n4 n3 n2 n1 n0 H0 H1 ∧ preb_230 n5 n4 H0) ∧ some q0 = some (mub_230_22 n5 n4 n3 n2 n1 n0 H0 H1)) (f11 : n0 ≠ 0) (f12 : n6 ≤ 2) (f13 : 0 ≤ n6) (f14 : n6 = hV H1 (n3).toNat 13) (f15 : n6 = 0) (f16 : n7 = 2) (f17 : n8 ≤ 1) (f18 : 0 ≤ n8) (f19 : (hLe T0 H1 H2 ∧ hFr s_216.2.2.2.2 H1 H2 ∧ ((0 : Int) = 0 → H2.length = H1.length) ∧ hWt T0 H2) ∧ postb_216 n8 n3 n7 H1 H2) (f20 : n8 ≠ 0) (f21 : n9 = 4) (f22 : n1 = n9) (f23 : n10 = 2) (f24 : (hLe T0 H2 H3 ∧ hFr s_217.2.2.2.2 H2 H3 ∧ ((0 : Int) = 0 → H3.length = H2.length) ∧ hWt T0 H3) ∧ postb_217 n3 n10 H2 H3) (f25 : n11 = 0) (f26 : n12 = 400) (f27 : n13 ≤ 9999) (f28 : 0 ≤ n13) (f29 : (hLe T0 H3 H4 ∧ hFr s_223.2.2.2.2 H3 H4 ∧ ((0 : Int) = 0 → H4.length = H3.length) ∧ hWt T0 H4) ∧ postb_223 n13 n3 n11 n12 H3 H4) (f30 : n14 ≤ 2) (f31 : 0 ≤ n14) (f32 : n14 = hV H4 (n3).toNat 13) (f33 : n14 ≠ 0) (f34 : n15 = w32 (n1 + 1)) (f35 : n16 = 5) (f36 : n17 ≤ 1) (f37 : 0 ≤ n17) (f38 : (hLe T0 H4 H5 ∧ hFr s_216.2.2.2.2 H4 H5 ∧ ((0 : Int) = 0 → H5.length = H4.length) ∧ hWt T0 H5) ∧ postb_216 n17 n3 n16 H4 H5) (f39 : n17 ≠ 0) (f40 : (hLe T0 H5 H6 ∧ hFr s_219.2.2.2.2 H5 H6 ∧ ((0 : Int) = 0 → H6.length = H5.length) ∧ hWt T0 H6) ∧ postb_219 n3 H5 H6) : Ab_230_22 n5 n4 n3 n2 n15 n17 H0 H6 ∧ ∀ q, some q0 = some q → mub_230_22 n5 n4 n3 n2 n15 n17 H0 H6 < q := by
  have g4 := f10.2.1.1
  unfold Ab_230_22 at g4
  have g3 := f10.2.1.2
  unfold preb_230 at g3
  have g5 := Option.some.inj f10.2.2
  unfold mub_230_22 at g5
  unfold postb_216 at f19
  unfold postb_217 at f24
  unfold postb_223 at f29
  unfold postb_216 at f38
  unfold postb_219 at f40
  unfold Ab_230_22
  unfold mub_230_22
  have e0 : n6 = hV H1 285 13 := (by rw [f6] at f14; exact f14 : n6 = hV H1 285 13)
  have e1 : n14 = hV H4 285 13 := (by rw [f6] at f32; exact f32 : n14 = hV H4 285 13)
  have e3 : hV H1 285 18 = hV H0 285 18 := (f10.1.2.1.1 285 18 kF_230_285_18)
  have e5 : hV H1 285 32 = hV H0 285 32 := (f10.1.2.1.1 285 32 kF_230_285_32)
  have e7 : hV H1 285 33 = hV H0 285 33 := (f10.1.2.1.1 285 33 kF_230_285_33)
  have e9 : hV H2 285 11 = hV H1 285 11 := (f19.1.2.1.1 285 11 kF_216_285_11)
  have e11 : hV H2 285 13 = hV H1 285 13 := (f19.1.2.1.1 285 13 kF_216_285_13)
  have e14 : hV H2 288 = hV H0 288 := (fRow f19.1.2.1 288 kR_216_288).trans (fRow f10.1.2.1 288 kR_230_288)
  have e16 : hV H3 285 11 = hV H1 285 11 := ((f24.1.2.1.1 285 11 kF_217_285_11)).trans (f19.1.2.1.1 285 11 kF_216_285_11)
  have e19 : hV H3 285 15 = hV H1 285 15 := ((f24.1.2.1.1 285 15 kF_217_285_15)).trans (f19.1.2.1.1 285 15 kF_216_285_15)
  have e23 : hV H4 288 = hV H0 288 := (fRow f29.1.2.1 288 kR_223_288).trans ((fRow f24.1.2.1 288 kR_217_288).trans e14)
  have e25 : hV H5 285 11 = hV H4 285 11 := (f38.1.2.1.1 285 11 kF_216_285_11)
  have e27 : hV H5 285 13 = hV H4 285 13 := (f38.1.2.1.1 285 13 kF_216_285_13)
  have e29 : hV H5 288 = hV H0 288 := (fRow f38.1.2.1 288 kR_216_288).trans e23
  have e32 : hV H6 285 15 = hV H4 285 15 := ((f40.1.2.1.1 285 15 kF_219_285_15)).trans (f38.1.2.1.1 285 15 kF_216_285_15)
  have e41 : hV H6 300 = hV H1 300 := (fRow f40.1.2.1 300 kR_219_300).trans ((fRow f38.1.2.1 300 kR_216_300).trans ((fRow f29.1.2.1 300 kR_223_300).trans ((fRow f24.1.2.1 300 kR_217_300).trans (fRow f19.1.2.1 300 kR_216_300))))
  have e42 : PA H2 = PA H1 := PA_fr f19.1.2.1 (by decide +kernel)
  have e43 : PA H3 = PA H2 := PA_fr f24.1.2.1 (by decide +kernel)
  have e44 : PA H3 = PA H1 := e43.trans e42
  have e45 : PA H4 = PA H3 := PA_fr f29.1.2.1 (by decide +kernel)
  have e46 : PA H4 = PA H1 := e45.trans e44
  have e47 : PA H5 = PA H4 := PA_fr f38.1.2.1 (by decide +kernel)
  have e48 : PA H5 = PA H1 := e47.trans e46
  have e49 : PA H6 = PA H5 := PA_fr f40.1.2.1 (by decide +kernel)
  have e50 : PA H6 = PA H1 := e49.trans e48
  have e51 : PW H2 = PW H1 := PW_fr f19.1.2.1 (by decide +kernel)
  have e52 : PW H3 = PW H2 := PW_fr f24.1.2.1 (by decide +kernel)
  have e53 : PW H3 = PW H1 := e52.trans e51
  have e54 : PW H4 = PW H3 := PW_fr f29.1.2.1 (by decide +kernel)
  have e55 : PW H4 = PW H1 := e54.trans e53
  have e56 : PW H5 = PW H4 := PW_fr f38.1.2.1 (by decide +kernel)
  have e57 : PW H5 = PW H1 := e56.trans e55
  have e58 : PW H6 = PW H5 := PW_fr f40.1.2.1 (by decide +kernel)
  have e59 : PW H6 = PW H1 := e58.trans e57
  have e60 : (0 : Int) ≤ hV H1 285 11 ∧ hV H1 285 11 ≤ 500 := f10.1.2.2 285 11 _ _ kW_285_11
  have e61 : (0 : Int) ≤ hV H1 285 13 ∧ hV H1 285 13 ≤ 2 := f10.1.2.2 285 13 _ _ kW_285_13
  have e62 : (0 : Int) ≤ hV H1 285 15 ∧ hV H1 285 15 ≤ 6 := f10.1.2.2 285 15 _ _ kW_285_15
  have e63 : (0 : Int) ≤ hV H0 285 18 ∧ hV H0 285 18 ≤ 8 := bTo e3 (f10.1.2.2 285 18 _ _ kW_285_18)
  have e64 : (0 : Int) ≤ hV H0 285 32 ∧ hV H0 285 32 ≤ 7 := bTo e5 (f10.1.2.2 285 32 _ _ kW_285_32)
  have e65 : (0 : Int) ≤ hV H0 285 33 ∧ hV H0 285 33 ≤ 62 := bTo e7 (f10.1.2.2 285 33 _ _ kW_285_33)
  have e69 : (0 : Int) ≤ hV H3 285 13 ∧ hV H3 285 13 ≤ 2 := f24.1.2.2.2 285 13 _ _ kW_285_13
  have e71 : (0 : Int) ≤ hV H4 285 11 ∧ hV H4 285 11 ≤ 500 := f29.1.2.2.2 285 11 _ _ kW_285_11
  have e72 : (0 : Int) ≤ hV H4 285 13 ∧ hV H4 285 13 ≤ 2 := f29.1.2.2.2 285 13 _ _ kW_285_13
  have e73 : (0 : Int) ≤ hV H4 285 15 ∧ hV H4 285 15 ≤ 6 := f29.1.2.2.2 285 15 _ _ kW_285_15
  have e76 : (0 : Int) ≤ hV H6 285 11 ∧ hV H6 285 11 ≤ 500 := f40.1.2.2.2 285 11 _ _ kW_285_11
  have e77 : (0 : Int) ≤ hV H6 285 13 ∧ hV H6 285 13 ≤ 2 := f40.1.2.2.2 285 13 _ _ kW_285_13
  try simp only [e32, e41, e50, e59]
  have k0 := g4.1
  have y0 := g4.2.1
  have y1 := g4.2.2.1
  have y2 := g4.2.2.2.1
  have y3 := g4.2.2.2.2.1
  have y4 := g4.2.2.2.2.2.1
  have y5 := g4.2.2.2.2.2.2.1
  have y6 := g4.2.2.2.2.2.2.2.1
  have y7 := g4.2.2.2.2.2.2.2.2.1
  have y8 := g4.2.2.2.2.2.2.2.2.2.1
  have y9 := g4.2.2.2.2.2.2.2.2.2.2.1
  have y10 := g4.2.2.2.2.2.2.2.2.2.2.2
  have p0 := g3.1
  have p1 := g3.2.1
  have p2 := g3.2.2.1
  have p3 := g3.2.2.2.1
  have p4 := g3.2.2.2.2.1
  have p5 := g3.2.2.2.2.2.1
  have p6 := g3.2.2.2.2.2.2.1
  have p7 := g3.2.2.2.2.2.2.2
  have r0_0 := f19.2.1
  have r0_1 := f19.2.2.resolve_right (fun z => f20 z.1)
  have r1_0 := f24.2.1
  have r1_1 := f24.2.2
  have r2_0 := f29.2.1
  have r2_1 := f29.2.2.1
  have r2_2 := f29.2.2.2.1
  have r2_3 := f29.2.2.2.2.1
  have r2_4 := f29.2.2.2.2.2.1
  have r2_5 := f29.2.2.2.2.2.2.1
  have r2_6 := f29.2.2.2.2.2.2.2.1
  have r2_7 := f29.2.2.2.2.2.2.2.2
  have r3_0 := f38.2.1
  have r3_1 := f38.2.2.resolve_right (fun z => f39 z.1)
  have r4_0 := f40.2.1
  have r4_1 := f40.2.2.1
  have r4_2 := f40.2.2.2.1
  have r4_3 := f40.2.2.2.2
  try simp only [e11] at r0_0
  try simp only [e3, e5, e7, e9, e11, e14] at r0_1
  try simp only [e11] at r1_0
  try simp only [e16] at r2_0
  try simp only [e16] at r2_1
  try simp only [e16] at r2_3
  try simp only [e19] at r2_4
  try simp only [e16, e23] at r2_7
  try simp only [e27] at r3_0
  try simp only [e23, e25, e27, e29] at r3_1
  try simp only [e25] at r4_0
  try simp only [e25] at r4_1
  try simp only [e27] at r4_2
  try simp only [e25] at r4_3
  clear g3
  clear g4
  have wb0 := (p7 (hV H0 285 32).toNat).1
  have wp0 := (p7 (hV H0 285 33).toNat).2
  try simp only [e3, e5, e7] at wb0
  try simp only [e3, e5, e7] at wp0
  clear f14 f32 e3 e5 e7 e9 e11 e14 e16 e19 e23 e25 e27 e29 e32 e41 e42 e43 e44 e45 e46 e47 e48 e49 e50 e51 e52 e53 e54 e55 e56 e57 e58 e59
  clear f10 f19 f24 f29 f38 f40
  subst e0
  subst e1
  first
  | (have ix0 : n15 = n1 + 1 := Eq.trans f34 (w32_iv (Iad (Iat f3 f2) (IC 1)) (by decide)); subst ix0; clear f34)
  | (have ix0 : n15 = n1 + 1 := Eq.trans f34 (w32_id (by omega) (by omega)); subst ix0; clear f34)
  | (unfold w32 at f34; have ix0 : n15 = n1 + 1 := (by omega); subst ix0)
  | skip
  try unfold w32 at f34

  refine ⟨⟨?_, ?_, ?_, ?_⟩, fun q hq => ?_⟩
  · first | exact True.intro | rfl | omega
  · exact y0
  · intro z1 z2
    exact y1 (by omega) (by omega)
  · (try clear y0 y1 p0 p5 p7)
    first
    | omega
    | (refine ⟨?_, ?_, ?_, ?_, ?_, ?_, ?_, ?_, ?_⟩ <;> first | exact True.intro | omega)
  · (try clear y0 y1 p0 p5 p7)
    have g6 := Option.some.inj hq
    subst g6
    omega
def g_230_22_35 : vG := ([(1219, [2], [5, 6], 0), (31, [17], [], 0), (1216, [17, 2, 16], [4, 5], 0), (90, [17], [], 0), (91, [17], [], 1), (0, [16], [], 5), (10, [15, 4], [], 1), (31, [14], [], 0), (20, [14, 2], [4], 13), (90, [14], [], 0), (91, [14], [], 2), (1223, [13, 2, 11, 12], [3, 4], 0), (90, [13], [], 0), (91, [13], [], 9999), (0, [12], [], 400), (0, [11], [], 0), (1217, [2, 10], [2, 3], 0), (0, [10], [], 2), (40, [4, 9], [], 0), (0, [9], [], 4), (31, [8], [], 0), (1216, [8, 2, 7], [1, 2], 0), (90, [8], [], 0), (91, [8], [], 1), (0, [7], [], 2), (30, [6], [], 0), (20, [6, 2], [1], 13), (90, [6], [], 0), (91, [6], [], 2), (31, [5], [], 0), (5000, [0, 1, 2, 3, 4, 5], [0, 1], 22), (0, [0], [], 285), (90, [1], [], 0), (91, [1], [], 1007), (0, [2], [], 285), (90, [3], [], 0), (91, [3], [], 1007), (90, [4], [], 0), (91, [4], [], 5), (90, [5], [], 0), (91, [5], [], 1)], (4000, [2, 3, 15, 17], [6], 22))
theorem c_230_22_35 {q0 : Nat} : vOkm T0 (eP e_230 L_230 A_230 mu_230 (some q0)) 2 g_230_22_35 := vOk_inI fun ρ η f0 f1 f2 f3 f4 f5 f6 f7 f8 f9 f10 f11 f12 f13 f14 f15 f16 f17 f18 f19 f20 f21 f22 f23 f24 f25 f26 f27 f28 f29 f30 f31 f32 f33 f34 f35 f36 f37 f38 f39 f40 => q_230_26 (q0 := q0) (n0 := ρ 5) (n1 := ρ 4) (n2 := ρ 3) (n3 := ρ 2) (n4 := ρ 1) (n5 := ρ 0) (n6 := ρ 6) (n7 := ρ 7) (n8 := ρ 8) (n9 := ρ 9) (n10 := ρ 10) (n11 := ρ 11) (n12 := ρ 12) (n13 := ρ 13) (n14 := ρ 14) (n15 := ρ 15) (n16 := ρ 16) (n17 := ρ 17) (H0 := η 0) (H1 := η 1) (H2 := η 2) (H3 := η 3) (H4 := η 4) (H5 := η 5) (H6 := η 6) f40 f39 f38 f37 f36 f35 f34 f33 f32 f31 f30 f29 f28 f27 f26 f25 f24 f23 f22 f21 f20 f19 f18 f17 f16 f15 f14 f13 f12 f11 f10 f9 f8 f7 f6 f5 f4 f3 f2 f1 f0
set_option maxHeartbeats 20000000 in
theorem q_230_27 {q0 : Nat} {n0 n1 n2 n3 n4 n5 n6 n7 n8 n9 n10 n11 n12 n13 n14 n15 n16 n17 n18 n19 : Int} {H0 H1 H2 H3 H4 : gH} (f0 : n0 ≤ 1) (f1 : 0 ≤ n0) (f2 : n1 ≤ 5) (f3 : 0 ≤ n1) (f4 : n2 ≤ 1007) (f5 : 0 ≤ n2) (f6 : n3 = 285) (f7 : n4 ≤ 1007) (f8 : 0 ≤ n4) (f9 : n5 = 285) (f10 : (hLe T0 H0 H1 ∧ hFr s_230.2.2.2.2 H0 H1 ∧ hWt T0 H1) ∧ (Ab_230_22 n5 n4 n3 n2 n1 n0 H0 H1 ∧ preb_230 n5 n4 H0) ∧ some q0 = some (mub_230_22 n5 n4 n3 n2 n1 n0 H0 H1)) (f11 : n0 ≠ 0) (f12 : n6 ≤ 2) (f13 : 0 ≤ n6) (f14 : n6 = hV H1 (n3).toNat 13) (f15 : n6 = 0) (f16 : n7 = 2) (f17 : n8 ≤ 1) (f18 : 0 ≤ n8) (f19 : (hLe T0 H1 H2 ∧ hFr s_216.2.2.2.2 H1 H2 ∧ ((0 : Int) = 0 → H2.length = H1.length) ∧ hWt T0 H2) ∧ postb_216 n8 n3 n7 H1 H2) (f20 : n8 ≠ 0) (f21 : n9 = 4) (f22 : n1 = n9) (f23 : n10 = 2) (f24 : (hLe T0 H2 H3 ∧ hFr s_217.2.2.2.2 H2 H3 ∧ ((0 : Int) = 0 → H3.length = H2.length) ∧ hWt T0 H3) ∧ postb_217 n3 n10 H2 H3) (f25 : n11 = 0) (f26 : n12 = 400) (f27 : n13 ≤ 9999) (f28 : 0 ≤ n13) (f29 : (hLe T0 H3 H4 ∧ hFr s_223.2.2.2.2 H3 H4 ∧ ((0 : Int) = 0 → H4.length = H3.length) ∧ hWt T0 H4) ∧ postb_223 n13 n3 n11 n12 H3 H4) (f30 : n14 ≤ 2) (f31 : 0 ≤ n14) (f32 : n14 = hV H4 (n3).toNat 13) (f33 : n14 = 0) (f34 : n15 = 6) (f35 : n16 = w32 (n15 * n2)) (f36 : n17 = 1) (f37 : n18 = w32 (n16 + n17)) (f38 : n19 = w32 (n18 + n1)) : 0 ≤ n19 ∧ n19 < 6048 := by
  have g4 := f10.2.1.1
  unfold Ab_230_22 at g4
  have g3 := f10.2.1.2
  unfold preb_230 at g3
  unfold postb_216 at f19
  unfold postb_217 at f24
  unfold postb_223 at f29
  have e0 : n6 = hV H1 285 13 := (by rw [f6] at f14; exact f14 : n6 = hV H1 285 13)
  have e1 : n14 = hV H4 285 13 := (by rw [f6] at f32; exact f32 : n14 = hV H4 285 13)
  have e3 : hV H1 285 18 = hV H0 285 18 := (f10.1.2.1.1 285 18 kF_230_285_18)
  have e5 : hV H1 285 32 = hV H0 285 32 := (f10.1.2.1.1 285 32 kF_230_285_32)
  have e7 : hV H1 285 33 = hV H0 285 33 := (f10.1.2.1.1 285 33 kF_230_285_33)
  have e9 : hV H2 285 11 = hV H1 285 11 := (f19.1.2.1.1 285 11 kF_216_285_11)
  have e11 : hV H2 285 13 = hV H1 285 13 := (f19.1.2.1.1 285 13 kF_216_285_13)
  have e14 : hV H2 288 = hV H0 288 := (fRow f19.1.2.1 288 kR_216_288).trans (fRow f10.1.2.1 288 kR_230_288)
  have e16 : hV H3 285 11 = hV H1 285 11 := ((f24.1.2.1.1 285 11 kF_217_285_11)).trans (f19.1.2.1.1 285 11 kF_216_285_11)
  have e19 : hV H3 285 15 = hV H1 285 15 := ((f24.1.2.1.1 285 15 kF_217_285_15)).trans (f19.1.2.1.1 285 15 kF_216_285_15)
  have e23 : hV H4 288 = hV H0 288 := (fRow f29.1.2.1 288 kR_223_288).trans ((fRow f24.1.2.1 288 kR_217_288).trans e14)
  have e24 : (0 : Int) ≤ hV H1 285 11 ∧ hV H1 285 11 ≤ 500 := f10.1.2.2 285 11 _ _ kW_285_11
  have e25 : (0 : Int) ≤ hV H1 285 13 ∧ hV H1 285 13 ≤ 2 := f10.1.2.2 285 13 _ _ kW_285_13
  have e26 : (0 : Int) ≤ hV H1 285 15 ∧ hV H1 285 15 ≤ 6 := f10.1.2.2 285 15 _ _ kW_285_15
  have e27 : (0 : Int) ≤ hV H0 285 18 ∧ hV H0 285 18 ≤ 8 := bTo e3 (f10.1.2.2 285 18 _ _ kW_285_18)
  have e28 : (0 : Int) ≤ hV H0 285 32 ∧ hV H0 285 32 ≤ 7 := bTo e5 (f10.1.2.2 285 32 _ _ kW_285_32)
  have e29 : (0 : Int) ≤ hV H0 285 33 ∧ hV H0 285 33 ≤ 62 := bTo e7 (f10.1.2.2 285 33 _ _ kW_285_33)
  have e33 : (0 : Int) ≤ hV H3 285 13 ∧ hV H3 285 13 ≤ 2 := f24.1.2.2.2 285 13 _ _ kW_285_13
  have e35 : (0 : Int) ≤ hV H4 285 11 ∧ hV H4 285 11 ≤ 500 := f29.1.2.2.2 285 11 _ _ kW_285_11
  have e36 : (0 : Int) ≤ hV H4 285 13 ∧ hV H4 285 13 ≤ 2 := f29.1.2.2.2 285 13 _ _ kW_285_13
  have e37 : (0 : Int) ≤ hV H4 285 15 ∧ hV H4 285 15 ≤ 6 := f29.1.2.2.2 285 15 _ _ kW_285_15
  have k0 := g4.1
  have y0 := g4.2.1
  have y1 := g4.2.2.1
  have y2 := g4.2.2.2.1
  have y3 := g4.2.2.2.2.1
  have y4 := g4.2.2.2.2.2.1
  have y5 := g4.2.2.2.2.2.2.1
  have y6 := g4.2.2.2.2.2.2.2.1
  have y7 := g4.2.2.2.2.2.2.2.2.1
  have y8 := g4.2.2.2.2.2.2.2.2.2.1
  have y9 := g4.2.2.2.2.2.2.2.2.2.2.1
  have y10 := g4.2.2.2.2.2.2.2.2.2.2.2
  have p0 := g3.1
  have p1 := g3.2.1
  have p2 := g3.2.2.1
  have p3 := g3.2.2.2.1
  have p4 := g3.2.2.2.2.1
  have p5 := g3.2.2.2.2.2.1
  have p6 := g3.2.2.2.2.2.2.1
  have p7 := g3.2.2.2.2.2.2.2
  have r0_0 := f19.2.1
  have r0_1 := f19.2.2.resolve_right (fun z => f20 z.1)
  have r1_0 := f24.2.1
  have r1_1 := f24.2.2
  have r2_0 := f29.2.1
  have r2_1 := f29.2.2.1
  have r2_2 := f29.2.2.2.1
  have r2_3 := f29.2.2.2.2.1
  have r2_4 := f29.2.2.2.2.2.1
  have r2_5 := f29.2.2.2.2.2.2.1
  have r2_6 := f29.2.2.2.2.2.2.2.1
  have r2_7 := f29.2.2.2.2.2.2.2.2
  try simp only [e11] at r0_0
  try simp only [e3, e5, e7, e9, e11, e14] at r0_1
  try simp only [e11] at r1_0
  try simp only [e16] at r2_0
  try simp only [e16] at r2_1
  try simp only [e16] at r2_3
  try simp only [e19] at r2_4
  try simp only [e16, e23] at r2_7
  clear g3
  clear g4
  have wb0 := (p7 (hV H0 285 32).toNat).1
  have wp0 := (p7 (hV H0 285 33).toNat).2
  try simp only [e3, e5, e7] at wb0
  try simp only [e3, e5, e7] at wp0
  clear f14 f32 e3 e5 e7 e9 e11 e14 e16 e19 e23
  clear f10 f19 f24 f29
  subst e0
  subst e1
  rw [f34] at f35
  first
  | (have ix0 : n16 = 6 * n2 := Eq.trans f35 (w32_iv (Iml 6 rfl (Iat f5 f4)) (by decide)); subst ix0; clear f35)
  | (have ix0 : n16 = 6 * n2 := Eq.trans f35 (w32_id (by omega) (by omega)); subst ix0; clear f35)
  | (unfold w32 at f35; have ix0 : n16 = 6 * n2 := (by omega); subst ix0)
  | skip
  first
  | (have ix1 : n18 = (6 * n2) + 1 := Eq.trans f37 (w32_iv (Iad (Iml 6 rfl (Iat f5 f4)) (IC 1)) (by decide)); subst ix1; clear f37)
  | (have ix1 : n18 = (6 * n2) + 1 := Eq.trans f37 (w32_id (by omega) (by omega)); subst ix1; clear f37)
  | (unfold w32 at f37; have ix1 : n18 = (6 * n2) + 1 := (by omega); subst ix1)
  | skip
  first
  | (have ix2 : n19 = ((6 * n2) + 1) + n1 := Eq.trans f38 (w32_iv (Iad (Iad (Iml 6 rfl (Iat f5 f4)) (IC 1)) (Iat f3 f2)) (by decide)); subst ix2; clear f38)
  | (have ix2 : n19 = ((6 * n2) + 1) + n1 := Eq.trans f38 (w32_id (by omega) (by omega)); subst ix2; clear f38)
  | (unfold w32 at f38; have ix2 : n19 = ((6 * n2) + 1) + n1 := (by omega); subst ix2)
  | skip
  try unfold w32 at f35
  try unfold w32 at f37
  try unfold w32 at f38

  (try clear y0 y1 p0 p5 p7)
  omega
def g_230_22_36 : vG := ([(1, [20, 19, 4], [], 0), (1, [19, 17, 18], [], 0), (0, [18], [], 1), (3, [17, 16, 3], [], 0), (0, [16], [], 6), (30, [14], [], 0), (20, [14, 2], [4], 13), (90, [14], [], 0), (91, [14], [], 2), (1223, [13, 2, 11, 12], [3, 4], 0), (90, [13], [], 0), (91, [13], [], 9999), (0, [12], [], 400), (0, [11], [], 0), (1217, [2, 10], [2, 3], 0), (0, [10], [], 2), (40, [4, 9], [], 0), (0, [9], [], 4), (31, [8], [], 0), (1216, [8, 2, 7], [1, 2], 0), (90, [8], [], 0), (91, [8], [], 1), (0, [7], [], 2), (30, [6], [], 0), (20, [6, 2], [1], 13), (90, [6], [], 0), (91, [6], [], 2), (31, [5], [], 0), (5000, [0, 1, 2, 3, 4, 5], [0, 1], 22), (0, [0], [], 285), (90, [1], [], 0), (91, [1], [], 1007), (0, [2], [], 285), (90, [3], [], 0), (91, [3], [], 1007), (90, [4], [], 0), (91, [4], [], 5), (90, [5], [], 0), (91, [5], [], 1)], (70, [20], [], 6048))
theorem c_230_22_36 {q0 : Nat} : vOkm T0 (eP e_230 L_230 A_230 mu_230 (some q0)) 2 g_230_22_36 := vOk_inI fun ρ η f0 f1 f2 f3 f4 f5 f6 f7 f8 f9 f10 f11 f12 f13 f14 f15 f16 f17 f18 f19 f20 f21 f22 f23 f24 f25 f26 f27 f28 f29 f30 f31 f32 f33 f34 f35 f36 f37 f38 => q_230_27 (q0 := q0) (n0 := ρ 5) (n1 := ρ 4) (n2 := ρ 3) (n3 := ρ 2) (n4 := ρ 1) (n5 := ρ 0) (n6 := ρ 6) (n7 := ρ 7) (n8 := ρ 8) (n9 := ρ 9) (n10 := ρ 10) (n11 := ρ 11) (n12 := ρ 12) (n13 := ρ 13) (n14 := ρ 14) (n15 := ρ 16) (n16 := ρ 17) (n17 := ρ 18) (n18 := ρ 19) (n19 := ρ 20) (H0 := η 0) (H1 := η 1) (H2 := η 2) (H3 := η 3) (H4 := η 4) f38 f37 f36 f35 f34 f33 f32 f31 f30 f29 f28 f27 f26 f25 f24 f23 f22 f21 f20 f19 f18 f17 f16 f15 f14 f13 f12 f11 f10 f9 f8 f7 f6 f5 f4 f3 f2 f1 f0
set_option maxHeartbeats 20000000 in
theorem q_230_28 {q0 : Nat} {n0 n1 n2 n3 n4 n5 n6 n7 n8 n9 n10 n11 n12 n13 n14 n15 n16 n17 n18 n19 n20 : Int} {H0 H1 H2 H3 H4 : gH} (f0 : n0 ≤ 1) (f1 : 0 ≤ n0) (f2 : n1 ≤ 5) (f3 : 0 ≤ n1) (f4 : n2 ≤ 1007) (f5 : 0 ≤ n2) (f6 : n3 = 285) (f7 : n4 ≤ 1007) (f8 : 0 ≤ n4) (f9 : n5 = 285) (f10 : (hLe T0 H0 H1 ∧ hFr s_230.2.2.2.2 H0 H1 ∧ hWt T0 H1) ∧ (Ab_230_22 n5 n4 n3 n2 n1 n0 H0 H1 ∧ preb_230 n5 n4 H0) ∧ some q0 = some (mub_230_22 n5 n4 n3 n2 n1 n0 H0 H1)) (f11 : n0 ≠ 0) (f12 : n6 ≤ 2) (f13 : 0 ≤ n6) (f14 : n6 = hV H1 (n3).toNat 13) (f15 : n6 = 0) (f16 : n7 = 2) (f17 : n8 ≤ 1) (f18 : 0 ≤ n8) (f19 : (hLe T0 H1 H2 ∧ hFr s_216.2.2.2.2 H1 H2 ∧ ((0 : Int) = 0 → H2.length = H1.length) ∧ hWt T0 H2) ∧ postb_216 n8 n3 n7 H1 H2) (f20 : n8 ≠ 0) (f21 : n9 = 4) (f22 : n1 = n9) (f23 : n10 = 2) (f24 : (hLe T0 H2 H3 ∧ hFr s_217.2.2.2.2 H2 H3 ∧ ((0 : Int) = 0 → H3.length = H2.length) ∧ hWt T0 H3) ∧ postb_217 n3 n10 H2 H3) (f25 : n11 = 0) (f26 : n12 = 400) (f27 : n13 ≤ 9999) (f28 : 0 ≤ n13) (f29 : (hLe T0 H3 H4 ∧ hFr s_223.2.2.2.2 H3 H4 ∧ ((0 : Int) = 0 → H4.length = H3.length) ∧ hWt T0 H4) ∧ postb_223 n13 n3 n11 n12 H3 H4) (f30 : n14 ≤ 2) (f31 : 0 ≤ n14) (f32 : n14 = hV H4 (n3).toNat 13) (f33 : n14 = 0) (f34 : n15 = 6) (f35 : n16 = w32 (n15 * n2)) (f36 : n17 = 1) (f37 : n18 = w32 (n16 + n17)) (f38 : n19 = w32 (n18 + n1)) (f39 : n20 = w32 (n1 + 1)) : 0 ≤ n20 := by
  have g4 := f10.2.1.1
  unfold Ab_230_22 at g4
  have g3 := f10.2.1.2
  unfold preb_230 at g3
  unfold postb_216 at f19
  unfold postb_217 at f24
  unfold postb_223 at f29
  have e0 : n6 = hV H1 285 13 := (by rw [f6] at f14; exact f14 : n6 = hV H1 285 13)
  have e1 : n14 = hV H4 285 13 := (by rw [f6] at f32; exact f32 : n14 = hV H4 285 13)
  have e3 : hV H1 285 18 = hV H0 285 18 := (f10.1.2.1.1 285 18 kF_230_285_18)
  have e5 : hV H1 285 32 = hV H0 285 32 := (f10.1.2.1.1 285 32 kF_230_285_32)
  have e7 : hV H1 285 33 = hV H0 285 33 := (f10.1.2.1.1 285 33 kF_230_285_33)
  have e9 : hV H2 285 11 = hV H1 285 11 := (f19.1.2.1.1 285 11 kF_216_285_11)
  have e11 : hV H2 285 13 = hV H1 285 13 := (f19.1.2.1.1 285 13 kF_216_285_13)
  have e14 : hV H2 288 = hV H0 288 := (fRow f19.1.2.1 288 kR_216_288).trans (fRow f10.1.2.1 288 kR_230_288)
  have e16 : hV H3 285 11 = hV H1 285 11 := ((f24.1.2.1.1 285 11 kF_217_285_11)).trans (f19.1.2.1.1 285 11 kF_216_285_11)
  have e19 : hV H3 285 15 = hV H1 285 15 := ((f24.1.2.1.1 285 15 kF_217_285_15)).trans (f19.1.2.1.1 285 15 kF_216_285_15)
  have e23 : hV H4 288 = hV H0 288 := (fRow f29.1.2.1 288 kR_223_288).trans ((fRow f24.1.2.1 288 kR_217_288).trans e14)
  have e24 : (0 : Int) ≤ hV H1 285 11 ∧ hV H1 285 11 ≤ 500 := f10.1.2.2 285 11 _ _ kW_285_11
  have e25 : (0 : Int) ≤ hV H1 285 13 ∧ hV H1 285 13 ≤ 2 := f10.1.2.2 285 13 _ _ kW_285_13
  have e26 : (0 : Int) ≤ hV H1 285 15 ∧ hV H1 285 15 ≤ 6 := f10.1.2.2 285 15 _ _ kW_285_15
  have e27 : (0 : Int) ≤ hV H0 285 18 ∧ hV H0 285 18 ≤ 8 := bTo e3 (f10.1.2.2 285 18 _ _ kW_285_18)
  have e28 : (0 : Int) ≤ hV H0 285 32 ∧ hV H0 285 32 ≤ 7 := bTo e5 (f10.1.2.2 285 32 _ _ kW_285_32)
  have e29 : (0 : Int) ≤ hV H0 285 33 ∧ hV H0 285 33 ≤ 62 := bTo e7 (f10.1.2.2 285 33 _ _ kW_285_33)
  have e33 : (0 : Int) ≤ hV H3 285 13 ∧ hV H3 285 13 ≤ 2 := f24.1.2.2.2 285 13 _ _ kW_285_13
  have e35 : (0 : Int) ≤ hV H4 285 11 ∧ hV H4 285 11 ≤ 500 := f29.1.2.2.2 285 11 _ _ kW_285_11
  have e36 : (0 : Int) ≤ hV H4 285 13 ∧ hV H4 285 13 ≤ 2 := f29.1.2.2.2 285 13 _ _ kW_285_13
  have e37 : (0 : Int) ≤ hV H4 285 15 ∧ hV H4 285 15 ≤ 6 := f29.1.2.2.2 285 15 _ _ kW_285_15
  have k0 := g4.1
  have y0 := g4.2.1
  have y1 := g4.2.2.1
  have y2 := g4.2.2.2.1
  have y3 := g4.2.2.2.2.1
  have y4 := g4.2.2.2.2.2.1
  have y5 := g4.2.2.2.2.2.2.1
  have y6 := g4.2.2.2.2.2.2.2.1
  have y7 := g4.2.2.2.2.2.2.2.2.1
  have y8 := g4.2.2.2.2.2.2.2.2.2.1
  have y9 := g4.2.2.2.2.2.2.2.2.2.2.1
  have y10 := g4.2.2.2.2.2.2.2.2.2.2.2
  have p0 := g3.1
  have p1 := g3.2.1
  have p2 := g3.2.2.1
  have p3 := g3.2.2.2.1
  have p4 := g3.2.2.2.2.1
  have p5 := g3.2.2.2.2.2.1
  have p6 := g3.2.2.2.2.2.2.1
  have p7 := g3.2.2.2.2.2.2.2
  have r0_0 := f19.2.1
  have r0_1 := f19.2.2.resolve_right (fun z => f20 z.1)
  have r1_0 := f24.2.1
  have r1_1 := f24.2.2
  have r2_0 := f29.2.1
  have r2_1 := f29.2.2.1
  have r2_2 := f29.2.2.2.1
  have r2_3 := f29.2.2.2.2.1
  have r2_4 := f29.2.2.2.2.2.1
  have r2_5 := f29.2.2.2.2.2.2.1
  have r2_6 := f29.2.2.2.2.2.2.2.1
  have r2_7 := f29.2.2.2.2.2.2.2.2
  try simp only [e11] at r0_0
  try simp only [e3, e5, e7, e9, e11, e14] at r0_1
  try simp only [e11] at r1_0
  try simp only [e16] at r2_0
  try simp only [e16] at r2_1
  try simp only [e16] at r2_3
  try simp only [e19] at r2_4
  try simp only [e16, e23] at r2_7
  clear g3
  clear g4
  have wb0 := (p7 (hV H0 285 32).toNat).1
  have wp0 := (p7 (hV H0 285 33).toNat).2
  try simp only [e3, e5, e7] at wb0
  try simp only [e3, e5, e7] at wp0
  clear f14 f32 e3 e5 e7 e9 e11 e14 e16 e19 e23
  clear f10 f19 f24 f29
  subst e0
  subst e1
  rw [f34] at f35
  first
  | (have ix0 : n20 = n1 + 1 := Eq.trans f39 (w32_iv (Iad (Iat f3 f2) (IC 1)) (by decide)); subst ix0; clear f39)
  | (have ix0 : n20 = n1 + 1 := Eq.trans f39 (w32_id (by omega) (by omega)); subst ix0; clear f39)
  | (unfold w32 at f39; have ix0 : n20 = n1 + 1 := (by omega); subst ix0)
  | skip
  try unfold w32 at f35
  try unfold w32 at f37
  try unfold w32 at f38
  try unfold w32 at f39

  (try clear y0 y1 p0 p5 p7)
  omega
def g_230_22_37 : vG := ([(10, [21, 4], [], 1), (1, [20, 19, 4], [], 0), (1, [19, 17, 18], [], 0), (0, [18], [], 1), (3, [17, 16, 3], [], 0), (0, [16], [], 6), (30, [14], [], 0), (20, [14, 2], [4], 13), (90, [14], [], 0), (91, [14], [], 2), (1223, [13, 2, 11, 12], [3, 4], 0), (90, [13], [], 0), (91, [13], [], 9999), (0, [12], [], 400), (0, [11], [], 0), (1217, [2, 10], [2, 3], 0), (0, [10], [], 2), (40, [4, 9], [], 0), (0, [9], [], 4), (31, [8], [], 0), (1216, [8, 2, 7], [1, 2], 0), (90, [8], [], 0), (91, [8], [], 1), (0, [7], [], 2), (30, [6], [], 0), (20, [6, 2], [1], 13), (90, [6], [], 0), (91, [6], [], 2), (31, [5], [], 0), (5000, [0, 1, 2, 3, 4, 5], [0, 1], 22), (0, [0], [], 285), (90, [1], [], 0), (91, [1], [], 1007), (0, [2], [], 285), (90, [3], [], 0), (91, [3], [], 1007), (90, [4], [], 0), (91, [4], [], 5), (90, [5], [], 0), (91, [5], [], 1)], (90, [21], [], 0))
theorem c_230_22_37 {q0 : Nat} : vOkm T0 (eP e_230 L_230 A_230 mu_230 (some q0)) 2 g_230_22_37 := vOk_inI fun ρ η f0 f1 f2 f3 f4 f5 f6 f7 f8 f9 f10 f11 f12 f13 f14 f15 f16 f17 f18 f19 f20 f21 f22 f23 f24 f25 f26 f27 f28 f29 f30 f31 f32 f33 f34 f35 f36 f37 f38 f39 => q_230_28 (q0 := q0) (n0 := ρ 5) (n1 := ρ 4) (n2 := ρ 3) (n3 := ρ 2) (n4 := ρ 1) (n5 := ρ 0) (n6 := ρ 6) (n7 := ρ 7) (n8 := ρ 8) (n9 := ρ 9) (n10 := ρ 10) (n11 := ρ 11) (n12 := ρ 12) (n13 := ρ 13) (n14 := ρ 14) (n15 := ρ 16) (n16 := ρ 17) (n17 := ρ 18) (n18 := ρ 19) (n19 := ρ 20) (n20 := ρ 21) (H0 := η 0) (H1 := η 1) (H2 := η 2) (H3 := η 3) (H4 := η 4) f39 f38 f37 f36 f35 f34 f33 f32 f31 f30 f29 f28 f27 f26 f25 f24 f23 f22 f21 f20 f19 f18 f17 f16 f15 f14 f13 f12 f11 f10 f9 f8 f7 f6 f5 f4 f3 f2 f1 f0
set_option maxHeartbeats 20000000 in
theorem q_230_29 {q0 : Nat} {n0 n1 n2 n3 n4 n5 n6 n7 n8 n9 n10 n11 n12 n13 n14 n15 n16 n17 n18 n19 n20 : Int} {H0 H1 H2 H3 H4 : gH} (f0 : n0 ≤ 1) (f1 : 0 ≤ n0) (f2 : n1 ≤ 5) (f3 : 0 ≤ n1) (f4 : n2 ≤ 1007) (f5 : 0 ≤ n2) (f6 : n3 = 285) (f7 : n4 ≤ 1007) (f8 : 0 ≤ n4) (f9 : n5 = 285) (f10 : (hLe T0 H0 H1 ∧ hFr s_230.2.2.2.2 H0 H1 ∧ hWt T0 H1) ∧ (Ab_230_22 n5 n4 n3 n2 n1 n0 H0 H1 ∧ preb_230 n5 n4 H0) ∧ some q0 = some (mub_230_22 n5 n4 n3 n2 n1 n0 H0 H1)) (f11 : n0 ≠ 0) (f12 : n6 ≤ 2) (f13 : 0 ≤ n6) (f14 : n6 = hV H1 (n3).toNat 13) (f15 : n6 = 0) (f16 : n7 = 2) (f17 : n8 ≤ 1) (f18 : 0 ≤ n8) (f19 : (hLe T0 H1 H2 ∧ hFr s_216.2.2.2.2 H1 H2 ∧ ((0 : Int) = 0 → H2.length = H1.length) ∧ hWt T0 H2) ∧ postb_216 n8 n3 n7 H1 H2) (f20 : n8 ≠ 0) (f21 : n9 = 4) (f22 : n1 = n9) (f23 : n10 = 2) (f24 : (hLe T0 H2 H3 ∧ hFr s_217.2.2.2.2 H2 H3 ∧ ((0 : Int) = 0 → H3.length = H2.length) ∧ hWt T0 H3) ∧ postb_217 n3 n10 H2 H3) (f25 : n11 = 0) (f26 : n12 = 400) (f27 : n13 ≤ 9999) (f28 : 0 ≤ n13) (f29 : (hLe T0 H3 H4 ∧ hFr s_223.2.2.2.2 H3 H4 ∧ ((0 : Int) = 0 → H4.length = H3.length) ∧ hWt T0 H4) ∧ postb_223 n13 n3 n11 n12 H3 H4) (f30 : n14 ≤ 2) (f31 : 0 ≤ n14) (f32 : n14 = hV H4 (n3).toNat 13) (f33 : n14 = 0) (f34 : n15 = 6) (f35 : n16 = w32 (n15 * n2)) (f36 : n17 = 1) (f37 : n18 = w32 (n16 + n17)) (f38 : n19 = w32 (n18 + n1)) (f39 : n20 = w32 (n1 + 1)) : n20 ≤ 5 := by
  have g4 := f10.2.1.1
  unfold Ab_230_22 at g4
  have g3 := f10.2.1.2
  unfold preb_230 at g3
  unfold postb_216 at f19
  unfold postb_217 at f24
  unfold postb_223 at f29
  have e0 : n6 = hV H1 285 13 := (by rw [f6] at f14; exact f14 : n6 = hV H1 285 13)
  have e1 : n14 = hV H4 285 13 := (by rw [f6] at f32; exact f32 : n14 = hV H4 285 13)
  have e3 : hV H1 285 18 = hV H0 285 18 := (f10.1.2.1.1 285 18 kF_230_285_18)
  have e5 : hV H1 285 32 = hV H0 285 32 := (f10.1.2.1.1 285 32 kF_230_285_32)
  have e7 : hV H1 285 33 = hV H0 285 33 := (f10.1.2.1.1 285 33 kF_230_285_33)
  have e9 : hV H2 285 11 = hV H1 285 11 := (f19.1.2.1.1 285 11 kF_216_285_11)
  have e11 : hV H2 285 13 = hV H1 285 13 := (f19.1.2.1.1 285 13 kF_216_285_13)
  have e14 : hV H2 288 = hV H0 288 := (fRow f19.1.2.1 288 kR_216_288).trans (fRow f10.1.2.1 288 kR_230_288)
  have e16 : hV H3 285 11 = hV H1 285 11 := ((f24.1.2.1.1 285 11 kF_217_285_11)).trans (f19.1.2.1.1 285 11 kF_216_285_11)
  have e19 : hV H3 285 15 = hV H1 285 15 := ((f24.1.2.1.1 285 15 kF_217_285_15)).trans (f19.1.2.1.1 285 15 kF_216_285_15)
  have e23 : hV H4 288 = hV H0 288 := (fRow f29.1.2.1 288 kR_223_288).trans ((fRow f24.1.2.1 288 kR_217_288).trans e14)
  have e24 : (0 : Int) ≤ hV H1 285 11 ∧ hV H1 285 11 ≤ 500 := f10.1.2.2 285 11 _ _ kW_285_11
  have e25 : (0 : Int) ≤ hV H1 285 13 ∧ hV H1 285 13 ≤ 2 := f10.1.2.2 285 13 _ _ kW_285_13
  have e26 : (0 : Int) ≤ hV H1 285 15 ∧ hV H1 285 15 ≤ 6 := f10.1.2.2 285 15 _ _ kW_285_15
  have e27 : (0 : Int) ≤ hV H0 285 18 ∧ hV H0 285 18 ≤ 8 := bTo e3 (f10.1.2.2 285 18 _ _ kW_285_18)
  have e28 : (0 : Int) ≤ hV H0 285 32 ∧ hV H0 285 32 ≤ 7 := bTo e5 (f10.1.2.2 285 32 _ _ kW_285_32)
  have e29 : (0 : Int) ≤ hV H0 285 33 ∧ hV H0 285 33 ≤ 62 := bTo e7 (f10.1.2.2 285 33 _ _ kW_285_33)
  have e33 : (0 : Int) ≤ hV H3 285 13 ∧ hV H3 285 13 ≤ 2 := f24.1.2.2.2 285 13 _ _ kW_285_13
  have e35 : (0 : Int) ≤ hV H4 285 11 ∧ hV H4 285 11 ≤ 500 := f29.1.2.2.2 285 11 _ _ kW_285_11
  have e36 : (0 : Int) ≤ hV H4 285 13 ∧ hV H4 285 13 ≤ 2 := f29.1.2.2.2 285 13 _ _ kW_285_13
  have e37 : (0 : Int) ≤ hV H4 285 15 ∧ hV H4 285 15 ≤ 6 := f29.1.2.2.2 285 15 _ _ kW_285_15
  have k0 := g4.1
  have y0 := g4.2.1
  have y1 := g4.2.2.1
  have y2 := g4.2.2.2.1
  have y3 := g4.2.2.2.2.1
  have y4 := g4.2.2.2.2.2.1
  have y5 := g4.2.2.2.2.2.2.1
  have y6 := g4.2.2.2.2.2.2.2.1
  have y7 := g4.2.2.2.2.2.2.2.2.1
  have y8 := g4.2.2.2.2.2.2.2.2.2.1
  have y9 := g4.2.2.2.2.2.2.2.2.2.2.1
  have y10 := g4.2.2.2.2.2.2.2.2.2.2.2
  have p0 := g3.1
  have p1 := g3.2.1
  have p2 := g3.2.2.1
  have p3 := g3.2.2.2.1
  have p4 := g3.2.2.2.2.1
  have p5 := g3.2.2.2.2.2.1
  have p6 := g3.2.2.2.2.2.2.1
  have p7 := g3.2.2.2.2.2.2.2
  have r0_0 := f19.2.1
  have r0_1 := f19.2.2.resolve_right (fun z => f20 z.1)
  have r1_0 := f24.2.1
  have r1_1 := f24.2.2
  have r2_0 := f29.2.1
  have r2_1 := f29.2.2.1
  have r2_2 := f29.2.2.2.1
  have r2_3 := f29.2.2.2.2.1
  have r2_4 := f29.2.2.2.2.2.1
  have r2_5 := f29.2.2.2.2.2.2.1
  have r2_6 := f29.2.2.2.2.2.2.2.1
  have r2_7 := f29.2.2.2.2.2.2.2.2
  try simp only [e11] at r0_0
  try simp only [e3, e5, e7, e9, e11, e14] at r0_1
  try simp only [e11] at r1_0
  try simp only [e16] at r2_0
  try simp only [e16] at r2_1
  try simp only [e16] at r2_3
  try simp only [e19] at r2_4
  try simp only [e16, e23] at r2_7
  clear g3
  clear g4
  have wb0 := (p7 (hV H0 285 32).toNat).1
  have wp0 := (p7 (hV H0 285 33).toNat).2
  try simp only [e3, e5, e7] at wb0
  try simp only [e3, e5, e7] at wp0
  clear f14 f32 e3 e5 e7 e9 e11 e14 e16 e19 e23
  clear f10 f19 f24 f29
  subst e0
  subst e1
  rw [f34] at f35
  first
  | (have ix0 : n20 = n1 + 1 := Eq.trans f39 (w32_iv (Iad (Iat f3 f2) (IC 1)) (by decide)); subst ix0; clear f39)
  | (have ix0 : n20 = n1 + 1 := Eq.trans f39 (w32_id (by omega) (by omega)); subst ix0; clear f39)
  | (unfold w32 at f39; have ix0 : n20 = n1 + 1 := (by omega); subst ix0)
  | skip
  try unfold w32 at f35
  try unfold w32 at f37
  try unfold w32 at f38
  try unfold w32 at f39

  (try clear y0 y1 p0 p5 p7)
  omega
def g_230_22_38 : vG := ([(10, [21, 4], [], 1), (1, [20, 19, 4], [], 0), (1, [19, 17, 18], [], 0), (0, [18], [], 1), (3, [17, 16, 3], [], 0), (0, [16], [], 6), (30, [14], [], 0), (20, [14, 2], [4], 13), (90, [14], [], 0), (91, [14], [], 2), (1223, [13, 2, 11, 12], [3, 4], 0), (90, [13], [], 0), (91, [13], [], 9999), (0, [12], [], 400), (0, [11], [], 0), (1217, [2, 10], [2, 3], 0), (0, [10], [], 2), (40, [4, 9], [], 0), (0, [9], [], 4), (31, [8], [], 0), (1216, [8, 2, 7], [1, 2], 0), (90, [8], [], 0), (91, [8], [], 1), (0, [7], [], 2), (30, [6], [], 0), (20, [6, 2], [1], 13), (90, [6], [], 0), (91, [6], [], 2), (31, [5], [], 0), (5000, [0, 1, 2, 3, 4, 5], [0, 1], 22), (0, [0], [], 285), (90, [1], [], 0), (91, [1], [], 1007), (0, [2], [], 285), (90, [3], [], 0), (91, [3], [], 1007), (90, [4], [], 0), (91, [4], [], 5), (90, [5], [], 0), (91, [5], [], 1)], (91, [21], [], 5))
theorem c_230_22_38 {q0 : Nat} : vOkm T0 (eP e_230 L_230 A_230 mu_230 (some q0)) 2 g_230_22_38 := vOk_inI fun ρ η f0 f1 f2 f3 f4 f5 f6 f7 f8 f9 f10 f11 f12 f13 f14 f15 f16 f17 f18 f19 f20 f21 f22 f23 f24 f25 f26 f27 f28 f29 f30 f31 f32 f33 f34 f35 f36 f37 f38 f39 => q_230_29 (q0 := q0) (n0 := ρ 5) (n1 := ρ 4) (n2 := ρ 3) (n3 := ρ 2) (n4 := ρ 1) (n5 := ρ 0) (n6 := ρ 6) (n7 := ρ 7) (n8 := ρ 8) (n9 := ρ 9) (n10 := ρ 10) (n11 := ρ 11) (n12 := ρ 12) (n13 := ρ 13) (n14 := ρ 14) (n15 := ρ 16) (n16 := ρ 17) (n17 := ρ 18) (n18 := ρ 19) (n19 := ρ 20) (n20 := ρ 21) (H0 := η 0) (H1 := η 1) (H2 := η 2) (H3 := η 3) (H4 := η 4) f39 f38 f37 f36 f35 f34 f33 f32 f31 f30 f29 f28 f27 f26 f25 f24 f23 f22 f21 f20 f19 f18 f17 f16 f15 f14 f13 f12 f11 f10 f9 f8 f7 f6 f5 f4 f3 f2 f1 f0
set_option maxHeartbeats 20000000 in
theorem kR_217_294 : vFreeR s_217.2.2.2.2 294 = true := by decide +kernel
theorem kR_217_296 : vFreeR s_217.2.2.2.2 296 = true := by decide +kernel
theorem kR_217_297 : vFreeR s_217.2.2.2.2 297 = true := by decide +kernel
theorem kR_217_298 : vFreeR s_217.2.2.2.2 298 = true := by decide +kernel
theorem kR_217_301 : vFreeR s_217.2.2.2.2 301 = true := by decide +kernel
theorem kR_217_302 : vFreeR s_217.2.2.2.2 302 = true := by decide +kernel
theorem kR_217_303 : vFreeR s_217.2.2.2.2 303 = true := by decide +kernel
theorem kR_217_305 : vFreeR s_217.2.2.2.2 305 = true := by decide +kernel
theorem kR_217_328 : vFreeR s_217.2.2.2.2 328 = true := by decide +kernel
theorem kR_217_332 : vFreeR s_217.2.2.2.2 332 = true := by decide +kernel
theorem kR_217_335 : vFreeR s_217.2.2.2.2 335 = true := by decide +kernel
theorem kF_217_285_18 : vFree s_217.2.2.2.2 285 18 = true := by decide +kernel
theorem kF_217_285_32 : vFree s_217.2.2.2.2 285 32 = true := by decide +kernel
theorem kF_217_285_33 : vFree s_217.2.2.2.2 285 33 = true := by decide +kernel
theorem kF_217_285_64 : vFree s_217.2.2.2.2 285 64 = true := by decide +kernel
theorem q_230_30 {q0 : Nat} {n0 n1 n2 n3 n4 n5 n6 n7 n8 n9 n10 n11 n12 n13 n14 n15 n16 n17 n18 n19 n20 n21 n22 n23 : Int} {H0 H1 H2 H3 H4 H5 H6 : gH} (f0 : n0 ≤ 1) (f1 : 0 ≤ n0) (f2 : n1 ≤ 5) (f3 : 0 ≤ n1) (f4 : n2 ≤ 1007) (f5 : 0 ≤ n2) (f6 : n3 = 285) (f7 : n4 ≤ 1007) (f8 : 0 ≤ n4) (f9 : n5 = 285) (f10 : (hLe T0 H0 H1 ∧ hFr s_230.2.2.2.2 H0 H1 ∧ hWt T0 H1) ∧ (Ab_230_22 n5 n4 n3 n2 n1 n0 H0 H1 ∧ preb_230 n5 n4 H0) ∧ some q0 = some (mub_230_22 n5 n4 n3 n2 n1 n0 H0 H1)) (f11 : n0 ≠ 0) (f12 : n6 ≤ 2) (f13 : 0 ≤ n6) (f14 : n6 = hV H1 (n3).toNat 13) (f15 : n6 = 0) (f16 : n7 = 2) (f17 : n8 ≤ 1) (f18 : 0 ≤ n8) (f19 : (hLe T0 H1 H2 ∧ hFr s_216.2.2.2.2 H1 H2 ∧ ((0 : Int) = 0 → H2.length = H1.length) ∧ hWt T0 H2) ∧ postb_216 n8 n3 n7 H1 H2) (f20 : n8 ≠ 0) (f21 : n9 = 4) (f22 : n1 = n9) (f23 : n10 = 2) (f24 : (hLe T0 H2 H3 ∧ hFr s_217.2.2.2.2 H2 H3 ∧ ((0 : Int) = 0 → H3.length = H2.length) ∧ hWt T0 H3) ∧ postb_217 n3 n10 H2 H3) (f25 : n11 = 0) (f26 : n12 = 400) (f27 : n13 ≤ 9999) (f28 : 0 ≤ n13) (f29 : (hLe T0 H3 H4 ∧ hFr s_223.2.2.2.2 H3 H4 ∧ ((0 : Int) = 0 → H4.length = H3.length) ∧ hWt T0 H4) ∧ postb_223 n13 n3 n11 n12 H3 H4) (f30 : n14 ≤ 2) (f31 : 0 ≤ n14) (f32 : n14 = hV H4 (n3).toNat 13) (f33 : n14 = 0) (f34 : n15 = 305) (f35 : n15 = hV H4 (n3).toNat 31) (f36 : n16 = 6) (f37 : n17 = w32 (n16 * n2)) (f38 : n18 = 1) (f39 : n19 = w32 (n17 + n18)) (f40 : n20 = w32 (n19 + n1)) (f41 : hUpd H5 H4 n15 n20 n13) (f42 : n21 = w32 (n1 + 1)) (f43 : n22 = 5) (f44 : n23 ≤ 1) (f45 : 0 ≤ n23) (f46 : (hLe T0 H5 H6 ∧ hFr s_216.2.2.2.2 H5 H6 ∧ ((0 : Int) = 0 → H6.length = H5.length) ∧ hWt T0 H6) ∧ postb_216 n23 n3 n22 H5 H6) (f47 : n23 = 0) : Ab_230_22 n5 n4 n3 n2 n21 n23 H0 H6 ∧ ∀ q, some q0 = some q → mub_230_22 n5 n4 n3 n2 n21 n23 H0 H6 < q := by
  have g4 := f10.2.1.1
  unfold Ab_230_22 at g4
  have g3 := f10.2.1.2
  unfold preb_230 at g3
  have g5 := Option.some.inj f10.2.2
  unfold mub_230_22 at g5
  unfold postb_216 at f19
  unfold postb_217 at f24
  unfold postb_223 at f29
  unfold postb_216 at f46
  unfold Ab_230_22
  unfold mub_230_22
  have e0 : n6 = hV H1 285 13 := (by rw [f6] at f14; exact f14 : n6 = hV H1 285 13)
  have e1 : n14 = hV H4 285 13 := (by rw [f6] at f32; exact f32 : n14 = hV H4 285 13)
  have e3 : hV H1 285 18 = hV H0 285 18 := (f10.1.2.1.1 285 18 kF_230_285_18)
  have e5 : hV H1 285 32 = hV H0 285 32 := (f10.1.2.1.1 285 32 kF_230_285_32)
  have e7 : hV H1 285 33 = hV H0 285 33 := (f10.1.2.1.1 285 33 kF_230_285_33)
  have e9 : hV H1 285 64 = hV H0 285 64 := (f10.1.2.1.1 285 64 kF_230_285_64)
  have e10 : hV H1 294 = hV H0 294 := fRow f10.1.2.1 294 kR_230_294
  have e11 : hV H1 296 = hV H0 296 := fRow f10.1.2.1 296 kR_230_296
  have e12 : hV H1 297 = hV H0 297 := fRow f10.1.2.1 297 kR_230_297
  have e13 : hV H1 298 = hV H0 298 := fRow f10.1.2.1 298 kR_230_298
  have e14 : hV H1 301 = hV H0 301 := fRow f10.1.2.1 301 kR_230_301
  have e15 : hV H1 302 = hV H0 302 := fRow f10.1.2.1 302 kR_230_302
  have e16 : hV H1 303 = hV H0 303 := fRow f10.1.2.1 303 kR_230_303
  have e17 : hV H1 328 = hV H0 328 := fRow f10.1.2.1 328 kR_230_328
  have e18 : hV H1 332 = hV H0 332 := fRow f10.1.2.1 332 kR_230_332
  have e19 : hV H1 335 = hV H0 335 := fRow f10.1.2.1 335 kR_230_335
  have e21 : hV H2 285 11 = hV H1 285 11 := (f19.1.2.1.1 285 11 kF_216_285_11)
  have e23 : hV H2 285 13 = hV H1 285 13 := (f19.1.2.1.1 285 13 kF_216_285_13)
  have e26 : hV H2 288 = hV H0 288 := (fRow f19.1.2.1 288 kR_216_288).trans (fRow f10.1.2.1 288 kR_230_288)
  have e28 : hV H3 285 11 = hV H1 285 11 := ((f24.1.2.1.1 285 11 kF_217_285_11)).trans (f19.1.2.1.1 285 11 kF_216_285_11)
  have e31 : hV H3 285 15 = hV H1 285 15 := ((f24.1.2.1.1 285 15 kF_217_285_15)).trans (f19.1.2.1.1 285 15 kF_216_285_15)
  have e35 : hV H4 288 = hV H0 288 := (fRow f29.1.2.1 288 kR_223_288).trans ((fRow f24.1.2.1 288 kR_217_288).trans e26)
  have e38 : hV H6 285 11 = hV H4 285 11 := ((f46.1.2.1.1 285 11 kF_216_285_11)).trans (uPlace f41 285 11 (iS (show n15 = ((305 : Nat) : Int) from f34) rfl))
  have e41 : hV H6 285 13 = hV H4 285 13 := ((f46.1.2.1.1 285 13 kF_216_285_13)).trans (uPlace f41 285 13 (iS (show n15 = ((305 : Nat) : Int) from f34) rfl))
  have e44 : hV H6 285 15 = hV H4 285 15 := ((f46.1.2.1.1 285 15 kF_216_285_15)).trans (uPlace f41 285 15 (iS (show n15 = ((305 : Nat) : Int) from f34) rfl))
  have e50 : hV H6 285 18 = hV H0 285 18 := ((f46.1.2.1.1 285 18 kF_216_285_18)).trans (((uPlace f41 285 18 (iS (show n15 = ((305 : Nat) : Int) from f34) rfl))).trans (((f29.1.2.1.1 285 18 kF_223_285_18)).trans (((f24.1.2.1.1 285 18 kF_217_285_18)).trans (((f19.1.2.1.1 285 18 kF_216_285_18)).trans (f10.1.2.1.1 285 18 kF_230_285_18)))))
  have e56 : hV H6 285 32 = hV H0 285 32 := ((f46.1.2.1.1 285 32 kF_216_285_32)).trans (((uPlace f41 285 32 (iS (show n15 = ((305 : Nat) : Int) from f34) rfl))).trans (((f29.1.2.1.1 285 32 kF_223_285_32)).trans (((f24.1.2.1.1 285 32 kF_217_285_32)).trans (((f19.1.2.1.1 285 32 kF_216_285_32)).trans (f10.1.2.1.1 285 32 kF_230_285_32)))))
  have e62 : hV H6 285 33 = hV H0 285 33 := ((f46.1.2.1.1 285 33 kF_216_285_33)).trans (((uPlace f41 285 33 (iS (show n15 = ((305 : Nat) : Int) from f34) rfl))).trans (((f29.1.2.1.1 285 33 kF_223_285_33)).trans (((f24.1.2.1.1 285 33 kF_217_285_33)).trans (((f19.1.2.1.1 285 33 kF_216_285_33)).trans (f10.1.2.1.1 285 33 kF_230_285_33)))))
  have e68 : hV H6 285 64 = hV H0 285 64 := ((f46.1.2.1.1 285 64 kF_216_285_64)).trans (((uPlace f41 285 64 (iS (show n15 = ((305 : Nat) : Int) from f34) rfl))).trans (((f29.1.2.1.1 285 64 kF_223_285_64)).trans (((f24.1.2.1.1 285 64 kF_217_285_64)).trans (((f19.1.2.1.1 285 64 kF_216_285_64)).trans (f10.1.2.1.1 285 64 kF_230_285_64)))))
  have e72 : hV H6 288 = hV H0 288 := (fRow f46.1.2.1 288 kR_216_288).trans ((uRowNe f41 288 (iS (show n15 = ((305 : Nat) : Int) from f34) rfl)).trans e35)
  have e82 : hV H6 294 = hV H0 294 := (fRow f46.1.2.1 294 kR_216_294).trans ((uRowNe f41 294 (iS (show n15 = ((305 : Nat) : Int) from f34) rfl)).trans ((fRow f29.1.2.1 294 kR_223_294).trans ((fRow f24.1.2.1 294 kR_217_294).trans ((fRow f19.1.2.1 294 kR_216_294).trans e10))))
  have e92 : hV H6 296 = hV H0 296 := (fRow f46.1.2.1 296 kR_216_296).trans ((uRowNe f41 296 (iS (show n15 = ((305 : Nat) : Int) from f34) rfl)).trans ((fRow f29.1.2.1 296 kR_223_296).trans ((fRow f24.1.2.1 296 kR_217_296).trans ((fRow f19.1.2.1 296 kR_216_296).trans e11))))
  have e102 : hV H6 297 = hV H0 297 := (fRow f46.1.2.1 297 kR_216_297).trans ((uRowNe f41 297 (iS (show n15 = ((305 : Nat) : Int) from f34) rfl)).trans ((fRow f29.1.2.1 297 kR_223_297).trans ((fRow f24.1.2.1 297 kR_217_297).trans ((fRow f19.1.2.1 297 kR_216_297).trans e12))))
  have e112 : hV H6 298 = hV H0 298 := (fRow f46.1.2.1 298 kR_216_298).trans ((uRowNe f41 298 (iS (show n15 = ((305 : Nat) : Int) from f34) rfl)).trans ((fRow f29.1.2.1 298 kR_223_298).trans ((fRow f24.1.2.1 298 kR_217_298).trans ((fRow f19.1.2.1 298 kR_216_298).trans e13))))
  have e121 : hV H6 300 = hV H1 300 := (fRow f46.1.2.1 300 kR_216_300).trans ((uRowNe f41 300 (iS (show n15 = ((305 : Nat) : Int) from f34) rfl)).trans ((fRow f29.1.2.1 300 kR_223_300).trans ((fRow f24.1.2.1 300 kR_217_300).trans (fRow f19.1.2.1 300 kR_216_300))))
  have e131 : hV H6 301 = hV H0 301 := (fRow f46.1.2.1 301 kR_216_301).trans ((uRowNe f41 301 (iS (show n15 = ((305 : Nat) : Int) from f34) rfl)).trans ((fRow f29.1.2.1 301 kR_223_301).trans ((fRow f24.1.2.1 301 kR_217_301).trans ((fRow f19.1.2.1 301 kR_216_301).trans e14))))
  have e141 : hV H6 302 = hV H0 302 := (fRow f46.1.2.1 302 kR_216_302).trans ((uRowNe f41 302 (iS (show n15 = ((305 : Nat) : Int) from f34) rfl)).trans ((fRow f29.1.2.1 302 kR_223_302).trans ((fRow f24.1.2.1 302 kR_217_302).trans ((fRow f19.1.2.1 302 kR_216_302).trans e15))))
  have e151 : hV H6 303 = hV H0 303 := (fRow f46.1.2.1 303 kR_216_303).trans ((uRowNe f41 303 (iS (show n15 = ((305 : Nat) : Int) from f34) rfl)).trans ((fRow f29.1.2.1 303 kR_223_303).trans ((fRow f24.1.2.1 303 kR_217_303).trans ((fRow f19.1.2.1 303 kR_216_303).trans e16))))
  have e160 : hV H6 305 = (uF (hV H1 305) n20 n13) := (fRow f46.1.2.1 305 kR_216_305).trans ((uRow f41 305 f34.symm).trans (congrArg (fun z => uF z n20 n13) ((fRow f29.1.2.1 305 kR_223_305).trans ((fRow f24.1.2.1 305 kR_217_305).trans (fRow f19.1.2.1 305 kR_216_305)))))
  have e170 : hV H6 328 = hV H0 328 := (fRow f46.1.2.1 328 kR_216_328).trans ((uRowNe f41 328 (iS (show n15 = ((305 : Nat) : Int) from f34) rfl)).trans ((fRow f29.1.2.1 328 kR_223_328).trans ((fRow f24.1.2.1 328 kR_217_328).trans ((fRow f19.1.2.1 328 kR_216_328).trans e17))))
  have e180 : hV H6 332 = hV H0 332 := (fRow f46.1.2.1 332 kR_216_332).trans ((uRowNe f41 332 (iS (show n15 = ((305 : Nat) : Int) from f34) rfl)).trans ((fRow f29.1.2.1 332 kR_223_332).trans ((fRow f24.1.2.1 332 kR_217_332).trans ((fRow f19.1.2.1 332 kR_216_332).trans e18))))
  have e190 : hV H6 335 = hV H0 335 := (fRow f46.1.2.1 335 kR_216_335).trans ((uRowNe f41 335 (iS (show n15 = ((305 : Nat) : Int) from f34) rfl)).trans ((fRow f29.1.2.1 335 kR_223_335).trans ((fRow f24.1.2.1 335 kR_217_335).trans ((fRow f19.1.2.1 335 kR_216_335).trans e19))))
  have e191 : (0 : Int) ≤ hV H1 285 11 ∧ hV H1 285 11 ≤ 500 := f10.1.2.2 285 11 _ _ kW_285_11
  have e192 : (0 : Int) ≤ hV H1 285 13 ∧ hV H1 285 13 ≤ 2 := f10.1.2.2 285 13 _ _ kW_285_13
  have e193 : (0 : Int) ≤ hV H1 285 15 ∧ hV H1 285 15 ≤ 6 := f10.1.2.2 285 15 _ _ kW_285_15
  have e194 : (0 : Int) ≤ hV H0 285 18 ∧ hV H0 285 18 ≤ 8 := bTo e3 (f10.1.2.2 285 18 _ _ kW_285_18)
  have e195 : (0 : Int) ≤ hV H0 285 32 ∧ hV H0 285 32 ≤ 7 := bTo e5 (f10.1.2.2 285 32 _ _ kW_285_32)
  have e196 : (0 : Int) ≤ hV H0 285 33 ∧ hV H0 285 33 ≤ 62 := bTo e7 (f10.1.2.2 285 33 _ _ kW_285_33)
  have e197 : (0 : Int) ≤ hV H0 285 64 ∧ hV H0 285 64 ≤ 20 := bTo e9 (f10.1.2.2 285 64 _ _ kW_285_64)
  have e201 : (0 : Int) ≤ hV H3 285 13 ∧ hV H3 285 13 ≤ 2 := f24.1.2.2.2 285 13 _ _ kW_285_13
  have e203 : (0 : Int) ≤ hV H4 285 11 ∧ hV H4 285 11 ≤ 500 := f29.1.2.2.2 285 11 _ _ kW_285_11
  have e204 : (0 : Int) ≤ hV H4 285 13 ∧ hV H4 285 13 ≤ 2 := f29.1.2.2.2 285 13 _ _ kW_285_13
  have e205 : (0 : Int) ≤ hV H4 285 15 ∧ hV H4 285 15 ≤ 6 := f29.1.2.2.2 285 15 _ _ kW_285_15
  try simp only [PA, PW]
  try simp only [e38, e41, e44, e50, e56, e62, e68, e82, e92, e102, e112, e121, e131, e141, e151, e160, e170, e180, e190]
  have k0 := g4.1
  have y0 := g4.2.1
  have y1 := g4.2.2.1
  have y2 := g4.2.2.2.1
  have y3 := g4.2.2.2.2.1
  have y4 := g4.2.2.2.2.2.1
  have y5 := g4.2.2.2.2.2.2.1
  have y6 := g4.2.2.2.2.2.2.2.1
  have y7 := g4.2.2.2.2.2.2.2.2.1
  have y8 := g4.2.2.2.2.2.2.2.2.2.1
  have y9 := g4.2.2.2.2.2.2.2.2.2.2.1
  have y10 := g4.2.2.2.2.2.2.2.2.2.2.2
  have p0 := g3.1
  have p1 := g3.2.1
  have p2 := g3.2.2.1
  have p3 := g3.2.2.2.1
  have p4 := g3.2.2.2.2.1
  have p5 := g3.2.2.2.2.2.1
  have p6 := g3.2.2.2.2.2.2.1
  have p7 := g3.2.2.2.2.2.2.2
  have r0_0 := f19.2.1
  have r0_1 := f19.2.2.resolve_right (fun z => f20 z.1)
  have r1_0 := f24.2.1
  have r1_1 := f24.2.2
  have r2_0 := f29.2.1
  have r2_1 := f29.2.2.1
  have r2_2 := f29.2.2.2.1
  have r2_3 := f29.2.2.2.2.1
  have r2_4 := f29.2.2.2.2.2.1
  have r2_5 := f29.2.2.2.2.2.2.1
  have r2_6 := f29.2.2.2.2.2.2.2.1
  have r2_7 := f29.2.2.2.2.2.2.2.2
  have r3_0 := f46.2.1
  have r3_1 := f46.2.2
  try simp only [PA] at y0
  try simp only [PW] at y1
  try simp only [PA] at p0
  try simp only [PW] at p5
  try simp only [e3, e9, e10, e11, e13, e14, e15, e16, e17, e18, e19] at y0
  try simp only [e5, e7, e10, e11, e12, e13, e14, e15, e16] at y1
  try simp only [e23] at r0_0
  try simp only [e3, e5, e7, e9, e10, e11, e12, e13, e14, e15, e16, e17, e18, e19, e21, e23, e26] at r0_1
  try simp only [e23] at r1_0
  try simp only [e28] at r2_0
  try simp only [e28] at r2_1
  try simp only [e28] at r2_3
  try simp only [e31] at r2_4
  try simp only [e28, e35] at r2_7
  try simp only [e41] at r3_0
  try simp only [e38, e41, e72] at r3_1
  clear g3
  clear g4
  have wb0 := (p7 (hV H0 285 32).toNat).1
  have wp0 := (p7 (hV H0 285 33).toNat).2
  try simp only [e3, e5, e7, e9, e10, e11, e12, e13, e14, e15, e16, e17, e18, e19] at wb0
  try simp only [e3, e5, e7, e9, e10, e11, e12, e13, e14, e15, e16, e17, e18, e19] at wp0
  clear f14 f32 f35 e3 e5 e7 e9 e10 e11 e12 e13 e14 e15 e16 e17 e18 e19 e21 e23 e26 e28 e31 e35 e38 e41 e44 e50 e56 e62 e68 e72 e82 e92 e102 e112 e121 e131 e141 e151 e160 e170 e180 e190
  clear f10 f19 f24 f29 f46
  subst e0
  subst e1
  rw [f36] at f37
  first
  | (have ix0 : n17 = 6 * n2 := Eq.trans f37 (w32_iv (Iml 6 rfl (Iat f5 f4)) (by decide)); subst ix0; clear f37)
  | (have ix0 : n17 = 6 * n2 := Eq.trans f37 (w32_id (by omega) (by omega)); subst ix0; clear f37)
  | (unfold w32 at f37; have ix0 : n17 = 6 * n2 := (by omega); subst ix0)
  | skip
  first
  | (have ix1 : n19 = (6 * n2) + 1 := Eq.trans f39 (w32_iv (Iad (Iml 6 rfl (Iat f5 f4)) (IC 1)) (by decide)); subst ix1; clear f39)
  | (have ix1 : n19 = (6 * n2) + 1 := Eq.trans f39 (w32_id (by omega) (by omega)); subst ix1; clear f39)
  | (unfold w32 at f39; have ix1 : n19 = (6 * n2) + 1 := (by omega); subst ix1)
  | skip
  first
  | (have ix2 : n20 = ((6 * n2) + 1) + n1 := Eq.trans f40 (w32_iv (Iad (Iad (Iml 6 rfl (Iat f5 f4)) (IC 1)) (Iat f3 f2)) (by decide)); subst ix2; clear f40)
  | (have ix2 : n20 = ((6 * n2) + 1) + n1 := Eq.trans f40 (w32_id (by omega) (by omega)); subst ix2; clear f40)
  | (unfold w32 at f40; have ix2 : n20 = ((6 * n2) + 1) + n1 := (by omega); subst ix2)
  | skip
  first
  | (have ix3 : n21 = n1 + 1 := Eq.trans f42 (w32_iv (Iad (Iat f3 f2) (IC 1)) (by decide)); subst ix3; clear f42)
  | (have ix3 : n21 = n1 + 1 := Eq.trans f42 (w32_id (by omega) (by omega)); subst ix3; clear f42)
  | (unfold w32 at f42; have ix3 : n21 = n1 + 1 := (by omega); subst ix3)
  | skip
  try unfold w32 at f37
  try unfold w32 at f39
  try unfold w32 at f40
  try unfold w32 at f42

  refine ⟨⟨?_, ?_, ?_, ?_⟩, fun q hq => ?_⟩
  · first | exact True.intro | rfl | omega
  · refine PA_cn ?_ (by omega)
    exact y0
  · intro z1 z2
    refine PW_cn ?_ (by omega) (by omega) (by omega) (by omega)
    exact y1 (by omega) (by omega)
  · (try clear y0 y1 p0 p5 p7)
    first
    | omega
    | (refine ⟨?_, ?_, ?_, ?_, ?_, ?_, ?_, ?_, ?_⟩ <;> first | exact True.intro | omega)
  · (try clear y0 y1 p0 p5 p7)
    have g6 := Option.some.inj hq
    subst g6
    omega
def g_230_22_39 : vG := ([(30, [23], [], 0), (1216, [23, 2, 22], [5, 6], 0), (90, [23], [], 0), (91, [23], [], 1), (0, [22], [], 5), (10, [21, 4], [], 1), (80, [15, 20, 13], [5, 4], 0), (1, [20, 19, 4], [], 0), (1, [19, 17, 18], [], 0), (0, [18], [], 1), (3, [17, 16, 3], [], 0), (0, [16], [], 6), (20, [15, 2], [4], 31), (0, [15], [], 305), (30, [14], [], 0), (20, [14, 2], [4], 13), (90, [14], [], 0), (91, [14], [], 2), (1223, [13, 2, 11, 12], [3, 4], 0), (90, [13], [], 0), (91, [13], [], 9999), (0, [12], [], 400), (0, [11], [], 0), (1217, [2, 10], [2, 3], 0), (0, [10], [], 2), (40, [4, 9], [], 0), (0, [9], [], 4), (31, [8], [], 0), (1216, [8, 2, 7], [1, 2], 0), (90, [8], [], 0), (91, [8], [], 1), (0, [7], [], 2), (30, [6], [], 0), (20, [6, 2], [1], 13), (90, [6], [], 0), (91, [6], [], 2), (31, [5], [], 0), (5000, [0, 1, 2, 3, 4, 5], [0, 1], 22), (0, [0], [], 285), (90, [1], [], 0), (91, [1], [], 1007), (0, [2], [], 285), (90, [3], [], 0), (91, [3], [], 1007), (90, [4], [], 0), (91, [4], [], 5), (90, [5], [], 0), (91, [5], [], 1)], (4000, [2, 3, 21, 23], [6], 22))
theorem c_230_22_39 {q0 : Nat} : vOkm T0 (eP e_230 L_230 A_230 mu_230 (some q0)) 2 g_230_22_39 := vOk_inI fun ρ η f0 f1 f2 f3 f4 f5 f6 f7 f8 f9 f10 f11 f12 f13 f14 f15 f16 f17 f18 f19 f20 f21 f22 f23 f24 f25 f26 f27 f28 f29 f30 f31 f32 f33 f34 f35 f36 f37 f38 f39 f40 f41 f42 f43 f44 f45 f46 f47 => q_230_30 (q0 := q0) (n0 := ρ 5) (n1 := ρ 4) (n2 := ρ 3) (n3 := ρ 2) (n4 := ρ 1) (n5 := ρ 0) (n6 := ρ 6) (n7 := ρ 7) (n8 := ρ 8) (n9 := ρ 9) (n10 := ρ 10) (n11 := ρ 11) (n12 := ρ 12) (n13 := ρ 13) (n14 := ρ 14) (n15 := ρ 15) (n16 := ρ 16) (n17 := ρ 17) (n18 := ρ 18) (n19 := ρ 19) (n20 := ρ 20) (n21 := ρ 21) (n22 := ρ 22) (n23 := ρ 23) (H0 := η 0) (H1 := η 1) (H2 := η 2) (H3 := η 3) (H4 := η 4) (H5 := η 5) (H6 := η 6) f47 f46 f45 f44 f43 f42 f41 f40 f39 f38 f37 f36 f35 f34 f33 f32 f31 f30 f29 f28 f27 f26 f25 f24 f23 f22 f21 f20 f19 f18 f17 f16 f15 f14 f13 f12 f11 f10 f9 f8 f7 f6 f5 f4 f3 f2 f1 f0
def g_230_22_40 : vG := ([(10, [21, 4], [], 1), (1, [20, 19, 4], [], 0), (1, [19, 17, 18], [], 0), (0, [18], [], 1), (3, [17, 16, 3], [], 0), (0, [16], [], 6), (30, [14], [], 0), (20, [14, 2], [4], 13), (90, [14], [], 0), (91, [14], [], 2), (1223, [13, 2, 11, 12], [3, 4], 0), (90, [13], [], 0), (91, [13], [], 9999), (0, [12], [], 400), (0, [11], [], 0), (1217, [2, 10], [2, 3], 0), (0, [10], [], 2), (40, [4, 9], [], 0), (0, [9], [], 4), (31, [8], [], 0), (1216, [8, 2, 7], [1, 2], 0), (90, [8], [], 0), (91, [8], [], 1), (0, [7], [], 2), (30, [6], [], 0), (20, [6, 2], [1], 13), (90, [6], [], 0), (91, [6], [], 2), (31, [5], [], 0), (5000, [0, 1, 2, 3, 4, 5], [0, 1], 22), (0, [0], [], 285), (90, [1], [], 0), (91, [1], [], 1007), (0, [2], [], 285), (90, [3], [], 0), (91, [3], [], 1007), (90, [4], [], 0), (91, [4], [], 5), (90, [5], [], 0), (91, [5], [], 1)], (90, [21], [], 0))
theorem c_230_22_40 {q0 : Nat} : vOkm T0 (eP e_230 L_230 A_230 mu_230 (some q0)) 2 g_230_22_40 := vOk_inI fun ρ η f0 f1 f2 f3 f4 f5 f6 f7 f8 f9 f10 f11 f12 f13 f14 f15 f16 f17 f18 f19 f20 f21 f22 f23 f24 f25 f26 f27 f28 f29 f30 f31 f32 f33 f34 f35 f36 f37 f38 f39 => q_230_28 (q0 := q0) (n0 := ρ 5) (n1 := ρ 4) (n2 := ρ 3) (n3 := ρ 2) (n4 := ρ 1) (n5 := ρ 0) (n6 := ρ 6) (n7 := ρ 7) (n8 := ρ 8) (n9 := ρ 9) (n10 := ρ 10) (n11 := ρ 11) (n12 := ρ 12) (n13 := ρ 13) (n14 := ρ 14) (n15 := ρ 16) (n16 := ρ 17) (n17 := ρ 18) (n18 := ρ 19) (n19 := ρ 20) (n20 := ρ 21) (H0 := η 0) (H1 := η 1) (H2 := η 2) (H3 := η 3) (H4 := η 4) f39 f38 f37 f36 f35 f34 f33 f32 f31 f30 f29 f28 f27 f26 f25 f24 f23 f22 f21 f20 f19 f18 f17 f16 f15 f14 f13 f12 f11 f10 f9 f8 f7 f6 f5 f4 f3 f2 f1 f0
def g_230_22_41 : vG := ([(10, [21, 4], [], 1), (1, [20, 19, 4], [], 0), (1, [19, 17, 18], [], 0), (0, [18], [], 1), (3, [17, 16, 3], [], 0), (0, [16], [], 6), (30, [14], [], 0), (20, [14, 2], [4], 13), (90, [14], [], 0), (91, [14], [], 2), (1223, [13, 2, 11, 12], [3, 4], 0), (90, [13], [], 0), (91, [13], [], 9999), (0, [12], [], 400), (0, [11], [], 0), (1217, [2, 10], [2, 3], 0), (0, [10], [], 2), (40, [4, 9], [], 0), (0, [9], [], 4), (31, [8], [], 0), (1216, [8, 2, 7], [1, 2], 0), (90, [8], [], 0), (91, [8], [], 1), (0, [7], [], 2), (30, [6], [], 0), (20, [6, 2], [1], 13), (90, [6], [], 0), (91, [6], [], 2), (31, [5], [], 0), (5000, [0, 1, 2, 3, 4, 5], [0, 1], 22), (0, [0], [], 285), (90, [1], [], 0), (91, [1], [], 1007), (0, [2], [], 285), (90, [3], [], 0), (91, [3], [], 1007), (90, [4], [], 0), (91, [4], [], 5), (90, [5], [], 0), (91, [5], [], 1)], (91, [21], [], 5))
theorem c_230_22_41 {q0 : Nat} : vOkm T0 (eP e_230 L_230 A_230 mu_230 (some q0)) 2 g_230_22_41 := vOk_inI fun ρ η f0 f1 f2 f3 f4 f5 f6 f7 f8 f9 f10 f11 f12 f13 f14 f15 f16 f17 f18 f19 f20 f21 f22 f23 f24 f25 f26 f27 f28 f29 f30 f31 f32 f33 f34 f35 f36 f37 f38 f39 => q_230_29 (q0 := q0) (n0 := ρ 5) (n1 := ρ 4) (n2 := ρ 3) (n3 := ρ 2) (n4 := ρ 1) (n5 := ρ 0) (n6 := ρ 6) (n7 := ρ 7) (n8 := ρ 8) (n9 := ρ 9) (n10 := ρ 10) (n11 := ρ 11) (n12 := ρ 12) (n13 := ρ 13) (n14 := ρ 14) (n15 := ρ 16) (n16 := ρ 17) (n17 := ρ 18) (n18 := ρ 19) (n19 := ρ 20) (n20 := ρ 21) (H0 := η 0) (H1 := η 1) (H2 := η 2) (H3 := η 3) (H4 := η 4) f39 f38 f37 f36 f35 f34 f33 f32 f31 f30 f29 f28 f27 f26 f25 f24 f23 f22 f21 f20 f19 f18 f17 f16 f15 f14 f13 f12 f11 f10 f9 f8 f7 f6 f5 f4 f3 f2 f1 f0
set_option maxHeartbeats 20000000 in
theorem q_230_31 {q0 : Nat} {n0 n1 n2 n3 n4 n5 n6 n7 n8 n9 n10 n11 n12 n13 n14 n15 n16 n17 n18 n19 n20 n21 n22 n23 : Int} {H0 H1 H2 H3 H4 H5 H6 H7 : gH} (f0 : n0 ≤ 1) (f1 : 0 ≤ n0) (f2 : n1 ≤ 5) (f3 : 0 ≤ n1) (f4 : n2 ≤ 1007) (f5 : 0 ≤ n2) (f6 : n3 = 285) (f7 : n4 ≤ 1007) (f8 : 0 ≤ n4) (f9 : n5 = 285) (f10 : (hLe T0 H0 H1 ∧ hFr s_230.2.2.2.2 H0 H1 ∧ hWt T0 H1) ∧ (Ab_230_22 n5 n4 n3 n2 n1 n0 H0 H1 ∧ preb_230 n5 n4 H0) ∧ some q0 = some (mub_230_22 n5 n4 n3 n2 n1 n0 H0 H1)) (f11 : n0 ≠ 0) (f12 : n6 ≤ 2) (f13 : 0 ≤ n6) (f14 : n6 = hV H1 (n3).toNat 13) (f15 : n6 = 0) (f16 : n7 = 2) (f17 : n8 ≤ 1) (f18 : 0 ≤ n8) (f19 : (hLe T0 H1 H2 ∧ hFr s_216.2.2.2.2 H1 H2 ∧ ((0 : Int) = 0 → H2.length = H1.length) ∧ hWt T0 H2) ∧ postb_216 n8 n3 n7 H1 H2) (f20 : n8 ≠ 0) (f21 : n9 = 4) (f22 : n1 = n9) (f23 : n10 = 2) (f24 : (hLe T0 H2 H3 ∧ hFr s_217.2.2.2.2 H2 H3 ∧ ((0 : Int) = 0 → H3.length = H2.length) ∧ hWt T0 H3) ∧ postb_217 n3 n10 H2 H3) (f25 : n11 = 0) (f26 : n12 = 400) (f27 : n13 ≤ 9999) (f28 : 0 ≤ n13) (f29 : (hLe T0 H3 H4 ∧ hFr s_223.2.2.2.2 H3 H4 ∧ ((0 : Int) = 0 → H4.length = H3.length) ∧ hWt T0 H4) ∧ postb_223 n13 n3 n11 n12 H3 H4) (f30 : n14 ≤ 2) (f31 : 0 ≤ n14) (f32 : n14 = hV H4 (n3).toNat 13) (f33 : n14 = 0) (f34 : n15 = 305) (f35 : n15 = hV H4 (n3).toNat 31) (f36 : n16 = 6) (f37 : n17 = w32 (n16 * n2)) (f38 : n18 = 1) (f39 : n19 = w32 (n17 + n18)) (f40 : n20 = w32 (n19 + n1)) (f41 : hUpd H5 H4 n15 n20 n13) (f42 : n21 = w32 (n1 + 1)) (f43 : n22 = 5) (f44 : n23 ≤ 1) (f45 : 0 ≤ n23) (f46 : (hLe T0 H5 H6 ∧ hFr s_216.2.2.2.2 H5 H6 ∧ ((0 : Int) = 0 → H6.length = H5.length) ∧ hWt T0 H6) ∧ postb_216 n23 n3 n22 H5 H6) (f47 : n23 ≠ 0) (f48 : (hLe T0 H6 H7 ∧ hFr s_219.2.2.2.2 H6 H7 ∧ ((0 : Int) = 0 → H7.length = H6.length) ∧ hWt T0 H7) ∧ postb_219 n3 H6 H7) : Ab_230_22 n5 n4 n3 n2 n21 n23 H0 H7 ∧ ∀ q, some q0 = some q → mub_230_22 n5 n4 n3 n2 n21 n23 H0 H7 < q := by
  have g4 := f10.2.1.1
  unfold Ab_230_22 at g4
  have g3 := f10.2.1.2
  unfold preb_230 at g3
  have g5 := Option.some.inj f10.2.2
  unfold mub_230_22 at g5
  unfold postb_216 at f19
  unfold postb_217 at f24
  unfold postb_223 at f29
  unfold postb_216 at f46
  unfold postb_219 at f48
  unfold Ab_230_22
  unfold mub_230_22
  have e0 : n6 = hV H1 285 13 := (by rw [f6] at f14; exact f14 : n6 = hV H1 285 13)
  have e1 : n14 = hV H4 285 13 := (by rw [f6] at f32; exact f32 : n14 = hV H4 285 13)
  have e3 : hV H1 285 18 = hV H0 285 18 := (f10.1.2.1.1 285 18 kF_230_285_18)
  have e5 : hV H1 285 32 = hV H0 285 32 := (f10.1.2.1.1 285 32 kF_230_285_32)
  have e7 : hV H1 285 33 = hV H0 285 33 := (f10.1.2.1.1 285 33 kF_230_285_33)
  have e9 : hV H1 285 64 = hV H0 285 64 := (f10.1.2.1.1 285 64 kF_230_285_64)
  have e10 : hV H1 294 = hV H0 294 := fRow f10.1.2.1 294 kR_230_294
  have e11 : hV H1 296 = hV H0 296 := fRow f10.1.2.1 296 kR_230_296
  have e12 : hV H1 297 = hV H0 297 := fRow f10.1.2.1 297 kR_230_297
  have e13 : hV H1 298 = hV H0 298 := fRow f10.1.2.1 298 kR_230_298
  have e14 : hV H1 301 = hV H0 301 := fRow f10.1.2.1 301 kR_230_301
  have e15 : hV H1 302 = hV H0 302 := fRow f10.1.2.1 302 kR_230_302
  have e16 : hV H1 303 = hV H0 303 := fRow f10.1.2.1 303 kR_230_303
  have e17 : hV H1 328 = hV H0 328 := fRow f10.1.2.1 328 kR_230_328
  have e18 : hV H1 332 = hV H0 332 := fRow f10.1.2.1 332 kR_230_332
  have e19 : hV H1 335 = hV H0 335 := fRow f10.1.2.1 335 kR_230_335
  have e21 : hV H2 285 11 = hV H1 285 11 := (f19.1.2.1.1 285 11 kF_216_285_11)
  have e23 : hV H2 285 13 = hV H1 285 13 := (f19.1.2.1.1 285 13 kF_216_285_13)
  have e26 : hV H2 288 = hV H0 288 := (fRow f19.1.2.1 288 kR_216_288).trans (fRow f10.1.2.1 288 kR_230_288)
  have e28 : hV H3 285 11 = hV H1 285 11 := ((f24.1.2.1.1 285 11 kF_217_285_11)).trans (f19.1.2.1.1 285 11 kF_216_285_11)
  have e31 : hV H3 285 15 = hV H1 285 15 := ((f24.1.2.1.1 285 15 kF_217_285_15)).trans (f19.1.2.1.1 285 15 kF_216_285_15)
  have e35 : hV H4 288 = hV H0 288 := (fRow f29.1.2.1 288 kR_223_288).trans ((fRow f24.1.2.1 288 kR_217_288).trans e26)
  have e38 : hV H6 285 11 = hV H4 285 11 := ((f46.1.2.1.1 285 11 kF_216_285_11)).trans (uPlace f41 285 11 (iS (show n15 = ((305 : Nat) : Int) from f34) rfl))
  have e41 : hV H6 285 13 = hV H4 285 13 := ((f46.1.2.1.1 285 13 kF_216_285_13)).trans (uPlace f41 285 13 (iS (show n15 = ((305 : Nat) : Int) from f34) rfl))
  have e45 : hV H6 288 = hV H0 288 := (fRow f46.1.2.1 288 kR_216_288).trans ((uRowNe f41 288 (iS (show n15 = ((305 : Nat) : Int) from f34) rfl)).trans e35)
  have e49 : hV H7 285 15 = hV H4 285 15 := ((f48.1.2.1.1 285 15 kF_219_285_15)).trans (((f46.1.2.1.1 285 15 kF_216_285_15)).trans (uPlace f41 285 15 (iS (show n15 = ((305 : Nat) : Int) from f34) rfl)))
  have e56 : hV H7 285 18 = hV H0 285 18 := ((f48.1.2.1.1 285 18 kF_219_285_18)).trans (((f46.1.2.1.1 285 18 kF_216_285_18)).trans (((uPlace f41 285 18 (iS (show n15 = ((305 : Nat) : Int) from f34) rfl))).trans (((f29.1.2.1.1 285 18 kF_223_285_18)).trans (((f24.1.2.1.1 285 18 kF_217_285_18)).trans (((f19.1.2.1.1 285 18 kF_216_285_18)).trans (f10.1.2.1.1 285 18 kF_230_285_18))))))
  have e63 : hV H7 285 32 = hV H0 285 32 := ((f48.1.2.1.1 285 32 kF_219_285_32)).trans (((f46.1.2.1.1 285 32 kF_216_285_32)).trans (((uPlace f41 285 32 (iS (show n15 = ((305 : Nat) : Int) from f34) rfl))).trans (((f29.1.2.1.1 285 32 kF_223_285_32)).trans (((f24.1.2.1.1 285 32 kF_217_285_32)).trans (((f19.1.2.1.1 285 32 kF_216_285_32)).trans (f10.1.2.1.1 285 32 kF_230_285_32))))))
  have e70 : hV H7 285 33 = hV H0 285 33 := ((f48.1.2.1.1 285 33 kF_219_285_33)).trans (((f46.1.2.1.1 285 33 kF_216_285_33)).trans (((uPlace f41 285 33 (iS (show n15 = ((305 : Nat) : Int) from f34) rfl))).trans (((f29.1.2.1.1 285 33 kF_223_285_33)).trans (((f24.1.2.1.1 285 33 kF_217_285_33)).trans (((f19.1.2.1.1 285 33 kF_216_285_33)).trans (f10.1.2.1.1 285 33 kF_230_285_33))))))
  have e77 : hV H7 285 64 = hV H0 285 64 := ((f48.1.2.1.1 285 64 kF_219_285_64)).trans (((f46.1.2.1.1 285 64 kF_216_285_64)).trans (((uPlace f41 285 64 (iS (show n15 = ((305 : Nat) : Int) from f34) rfl))).trans (((f29.1.2.1.1 285 64 kF_223_285_64)).trans (((f24.1.2.1.1 285 64 kF_217_285_64)).trans (((f19.1.2.1.1 285 64 kF_216_285_64)).trans (f10.1.2.1.1 285 64 kF_230_285_64))))))
  have e89 : hV H7 294 = hV H0 294 := (fRow f48.1.2.1 294 kR_219_294).trans ((fRow f46.1.2.1 294 kR_216_294).trans ((uRowNe f41 294 (iS (show n15 = ((305 : Nat) : Int) from f34) rfl)).trans ((fRow f29.1.2.1 294 kR_223_294).trans ((fRow f24.1.2.1 294 kR_217_294).trans ((fRow f19.1.2.1 294 kR_216_294).trans e10)))))
  have e101 : hV H7 296 = hV H0 296 := (fRow f48.1.2.1 296 kR_219_296).trans ((fRow f46.1.2.1 296 kR_216_296).trans ((uRowNe f41 296 (iS (show n15 = ((305 : Nat) : Int) from f34) rfl)).trans ((fRow f29.1.2.1 296 kR_223_296).trans ((fRow f24.1.2.1 296 kR_217_296).trans ((fRow f19.1.2.1 296 kR_216_296).trans e11)))))
  have e113 : hV H7 297 = hV H0 297 := (fRow f48.1.2.1 297 kR_219_297).trans ((fRow f46.1.2.1 297 kR_216_297).trans ((uRowNe f41 297 (iS (show n15 = ((305 : Nat) : Int) from f34) rfl)).trans ((fRow f29.1.2.1 297 kR_223_297).trans ((fRow f24.1.2.1 297 kR_217_297).trans ((fRow f19.1.2.1 297 kR_216_297).trans e12)))))
  have e125 : hV H7 298 = hV H0 298 := (fRow f48.1.2.1 298 kR_219_298).trans ((fRow f46.1.2.1 298 kR_216_298).trans ((uRowNe f41 298 (iS (show n15 = ((305 : Nat) : Int) from f34) rfl)).trans ((fRow f29.1.2.1 298 kR_223_298).trans ((fRow f24.1.2.1 298 kR_217_298).trans ((fRow f19.1.2.1 298 kR_216_298).trans e13)))))
  have e136 : hV H7 300 = hV H1 300 := (fRow f48.1.2.1 300 kR_219_300).trans ((fRow f46.1.2.1 300 kR_216_300).trans ((uRowNe f41 300 (iS (show n15 = ((305 : Nat) : Int) from f34) rfl)).trans ((fRow f29.1.2.1 300 kR_223_300).trans ((fRow f24.1.2.1 300 kR_217_300).trans (fRow f19.1.2.1 300 kR_216_300)))))
  have e148 : hV H7 301 = hV H0 301 := (fRow f48.1.2.1 301 kR_219_301).trans ((fRow f46.1.2.1 301 kR_216_301).trans ((uRowNe f41 301 (iS (show n15 = ((305 : Nat) : Int) from f34) rfl)).trans ((fRow f29.1.2.1 301 kR_223_301).trans ((fRow f24.1.2.1 301 kR_217_301).trans ((fRow f19.1.2.1 301 kR_216_301).trans e14)))))
  have e160 : hV H7 302 = hV H0 302 := (fRow f48.1.2.1 302 kR_219_302).trans ((fRow f46.1.2.1 302 kR_216_302).trans ((uRowNe f41 302 (iS (show n15 = ((305 : Nat) : Int) from f34) rfl)).trans ((fRow f29.1.2.1 302 kR_223_302).trans ((fRow f24.1.2.1 302 kR_217_302).trans ((fRow f19.1.2.1 302 kR_216_302).trans e15)))))
  have e172 : hV H7 303 = hV H0 303 := (fRow f48.1.2.1 303 kR_219_303).trans ((fRow f46.1.2.1 303 kR_216_303).trans ((uRowNe f41 303 (iS (show n15 = ((305 : Nat) : Int) from f34) rfl)).trans ((fRow f29.1.2.1 303 kR_223_303).trans ((fRow f24.1.2.1 303 kR_217_303).trans ((fRow f19.1.2.1 303 kR_216_303).trans e16)))))
  have e183 : hV H7 305 = (uF (hV H1 305) n20 n13) := (fRow f48.1.2.1 305 kR_219_305).trans ((fRow f46.1.2.1 305 kR_216_305).trans ((uRow f41 305 f34.symm).trans (congrArg (fun z => uF z n20 n13) ((fRow f29.1.2.1 305 kR_223_305).trans ((fRow f24.1.2.1 305 kR_217_305).trans (fRow f19.1.2.1 305 kR_216_305))))))
  have e195 : hV H7 328 = hV H0 328 := (fRow f48.1.2.1 328 kR_219_328).trans ((fRow f46.1.2.1 328 kR_216_328).trans ((uRowNe f41 328 (iS (show n15 = ((305 : Nat) : Int) from f34) rfl)).trans ((fRow f29.1.2.1 328 kR_223_328).trans ((fRow f24.1.2.1 328 kR_217_328).trans ((fRow f19.1.2.1 328 kR_216_328).trans e17)))))
  have e207 : hV H7 332 = hV H0 332 := (fRow f48.1.2.1 332 kR_219_332).trans ((fRow f46.1.2.1 332 kR_216_332).trans ((uRowNe f41 332 (iS (show n15 = ((305 : Nat) : Int) from f34) rfl)).trans ((fRow f29.1.2.1 332 kR_223_332).trans ((fRow f24.1.2.1 332 kR_217_332).trans ((fRow f19.1.2.1 332 kR_216_332).trans e18)))))
  have e219 : hV H7 335 = hV H0 335 := (fRow f48.1.2.1 335 kR_219_335).trans ((fRow f46.1.2.1 335 kR_216_335).trans ((uRowNe f41 335 (iS (show n15 = ((305 : Nat) : Int) from f34) rfl)).trans ((fRow f29.1.2.1 335 kR_223_335).trans ((fRow f24.1.2.1 335 kR_217_335).trans ((fRow f19.1.2.1 335 kR_216_335).trans e19)))))
  have e220 : (0 : Int) ≤ hV H1 285 11 ∧ hV H1 285 11 ≤ 500 := f10.1.2.2 285 11 _ _ kW_285_11
  have e221 : (0 : Int) ≤ hV H1 285 13 ∧ hV H1 285 13 ≤ 2 := f10.1.2.2 285 13 _ _ kW_285_13
  have e222 : (0 : Int) ≤ hV H1 285 15 ∧ hV H1 285 15 ≤ 6 := f10.1.2.2 285 15 _ _ kW_285_15
  have e223 : (0 : Int) ≤ hV H0 285 18 ∧ hV H0 285 18 ≤ 8 := bTo e3 (f10.1.2.2 285 18 _ _ kW_285_18)
  have e224 : (0 : Int) ≤ hV H0 285 32 ∧ hV H0 285 32 ≤ 7 := bTo e5 (f10.1.2.2 285 32 _ _ kW_285_32)
  have e225 : (0 : Int) ≤ hV H0 285 33 ∧ hV H0 285 33 ≤ 62 := bTo e7 (f10.1.2.2 285 33 _ _ kW_285_33)
  have e226 : (0 : Int) ≤ hV H0 285 64 ∧ hV H0 285 64 ≤ 20 := bTo e9 (f10.1.2.2 285 64 _ _ kW_285_64)
  have e230 : (0 : Int) ≤ hV H3 285 13 ∧ hV H3 285 13 ≤ 2 := f24.1.2.2.2 285 13 _ _ kW_285_13
  have e232 : (0 : Int) ≤ hV H4 285 11 ∧ hV H4 285 11 ≤ 500 := f29.1.2.2.2 285 11 _ _ kW_285_11
  have e233 : (0 : Int) ≤ hV H4 285 13 ∧ hV H4 285 13 ≤ 2 := f29.1.2.2.2 285 13 _ _ kW_285_13
  have e234 : (0 : Int) ≤ hV H4 285 15 ∧ hV H4 285 15 ≤ 6 := f29.1.2.2.2 285 15 _ _ kW_285_15
  have e237 : (0 : Int) ≤ hV H7 285 11 ∧ hV H7 285 11 ≤ 500 := f48.1.2.2.2 285 11 _ _ kW_285_11
  have e238 : (0 : Int) ≤ hV H7 285 13 ∧ hV H7 285 13 ≤ 2 := f48.1.2.2.2 285 13 _ _ kW_285_13
  try simp only [PA, PW]
  try simp only [e49, e56, e63, e70, e77, e89, e101, e113, e125, e136, e148, e160, e172, e183, e195, e207, e219]
  have k0 := g4.1
  have y0 := g4.2.1
  have y1 := g4.2.2.1
  have y2 := g4.2.2.2.1
  have y3 := g4.2.2.2.2.1
  have y4 := g4.2.2.2.2.2.1
  have y5 := g4.2.2.2.2.2.2.1
  have y6 := g4.2.2.2.2.2.2.2.1
  have y7 := g4.2.2.2.2.2.2.2.2.1
  have y8 := g4.2.2.2.2.2.2.2.2.2.1
  have y9 := g4.2.2.2.2.2.2.2.2.2.2.1
  have y10 := g4.2.2.2.2.2.2.2.2.2.2.2
  have p0 := g3.1
  have p1 := g3.2.1
  have p2 := g3.2.2.1
  have p3 := g3.2.2.2.1
  have p4 := g3.2.2.2.2.1
  have p5 := g3.2.2.2.2.2.1
  have p6 := g3.2.2.2.2.2.2.1
  have p7 := g3.2.2.2.2.2.2.2
  have r0_0 := f19.2.1
  have r0_1 := f19.2.2.resolve_right (fun z => f20 z.1)
  have r1_0 := f24.2.1
  have r1_1 := f24.2.2
  have r2_0 := f29.2.1
  have r2_1 := f29.2.2.1
  have r2_2 := f29.2.2.2.1
  have r2_3 := f29.2.2.2.2.1
  have r2_4 := f29.2.2.2.2.2.1
  have r2_5 := f29.2.2.2.2.2.2.1
  have r2_6 := f29.2.2.2.2.2.2.2.1
  have r2_7 := f29.2.2.2.2.2.2.2.2
  have r3_0 := f46.2.1
  have r3_1 := f46.2.2.resolve_right (fun z => f47 z.1)
  have r4_0 := f48.2.1
  have r4_1 := f48.2.2.1
  have r4_2 := f48.2.2.2.1
  have r4_3 := f48.2.2.2.2
  try simp only [PA] at y0
  try simp only [PW] at y1
  try simp only [PA] at p0
  try simp only [PW] at p5
  try simp only [e3, e9, e10, e11, e13, e14, e15, e16, e17, e18, e19] at y0
  try simp only [e5, e7, e10, e11, e12, e13, e14, e15, e16] at y1
  try simp only [e23] at r0_0
  try simp only [e3, e5, e7, e9, e10, e11, e12, e13, e14, e15, e16, e17, e18, e19, e21, e23, e26] at r0_1
  try simp only [e23] at r1_0
  try simp only [e28] at r2_0
  try simp only [e28] at r2_1
  try simp only [e28] at r2_3
  try simp only [e31] at r2_4
  try simp only [e28, e35] at r2_7
  try simp only [e41] at r3_0
  try simp only [e38, e41, e45] at r3_1
  try simp only [e38] at r4_0
  try simp only [e38] at r4_1
  try simp only [e41] at r4_2
  try simp only [e38] at r4_3
  clear g3
  clear g4
  have wb0 := (p7 (hV H0 285 32).toNat).1
  have wp0 := (p7 (hV H0 285 33).toNat).2
  try simp only [e3, e5, e7, e9, e10, e11, e12, e13, e14, e15, e16, e17, e18, e19] at wb0
  try simp only [e3, e5, e7, e9, e10, e11, e12, e13, e14, e15, e16, e17, e18, e19] at wp0
  clear f14 f32 f35 e3 e5 e7 e9 e10 e11 e12 e13 e14 e15 e16 e17 e18 e19 e21 e23 e26 e28 e31 e35 e38 e41 e45 e49 e56 e63 e70 e77 e89 e101 e113 e125 e136 e148 e160 e172 e183 e195 e207 e219
  clear f10 f19 f24 f29 f46 f48
  subst e0
  subst e1
  rw [f36] at f37
  first
  | (have ix0 : n17 = 6 * n2 := Eq.trans f37 (w32_iv (Iml 6 rfl (Iat f5 f4)) (by decide)); subst ix0; clear f37)
  | (have ix0 : n17 = 6 * n2 := Eq.trans f37 (w32_id (by omega) (by omega)); subst ix0; clear f37)
  | (unfold w32 at f37; have ix0 : n17 = 6 * n2 := (by omega); subst ix0)
  | skip
  first
  | (have ix1 : n19 = (6 * n2) + 1 := Eq.trans f39 (w32_iv (Iad (Iml 6 rfl (Iat f5 f4)) (IC 1)) (by decide)); subst ix1; clear f39)
  | (have ix1 : n19 = (6 * n2) + 1 := Eq.trans f39 (w32_id (by omega) (by omega)); subst ix1; clear f39)
  | (unfold w32 at f39; have ix1 : n19 = (6 * n2) + 1 := (by omega); subst ix1)
  | skip
  first
  | (have ix2 : n20 = ((6 * n2) + 1) + n1 := Eq.trans f40 (w32_iv (Iad (Iad (Iml 6 rfl (Iat f5 f4)) (IC 1)) (Iat f3 f2)) (by decide)); subst ix2; clear f40)
  | (have ix2 : n20 = ((6 * n2) + 1) + n1 := Eq.trans f40 (w32_id (by omega) (by omega)); subst ix2; clear f40)
  | (unfold w32 at f40; have ix2 : n20 = ((6 * n2) + 1) + n1 := (by omega); subst ix2)
  | skip
  first
  | (have ix3 : n21 = n1 + 1 := Eq.trans f42 (w32_iv (Iad (Iat f3 f2) (IC 1)) (by decide)); subst ix3; clear f42)
  | (have ix3 : n21 = n1 + 1 := Eq.trans f42 (w32_id (by omega) (by omega)); subst ix3; clear f42)
  | (unfold w32 at f42; have ix3 : n21 = n1 + 1 := (by omega); subst ix3)
  | skip
  try unfold w32 at f37
  try unfold w32 at f39
  try unfold w32 at f40
  try unfold w32 at f42

  refine ⟨⟨?_, ?_, ?_, ?_⟩, fun q hq => ?_⟩
  · first | exact True.intro | rfl | omega
  · refine PA_cn ?_ (by omega)
    exact y0
  · intro z1 z2
    refine PW_cn ?_ (by omega) (by omega) (by omega) (by omega)
    exact y1 (by omega) (by omega)
  · (try clear y0 y1 p0 p5 p7)
    first
    | omega
    | (refine ⟨?_, ?_, ?_, ?_, ?_, ?_, ?_, ?_, ?_⟩ <;> first | exact True.intro | omega)
  · (try clear y0 y1 p0 p5 p7)
    have g6 := Option.some.inj hq
    subst g6
    omega
def g_230_22_42 : vG := ([(1219, [2], [6, 7], 0), (31, [23], [], 0), (1216, [23, 2, 22], [5, 6], 0), (90, [23], [], 0), (91, [23], [], 1), (0, [22], [], 5), (10, [21, 4], [], 1), (80, [15, 20, 13], [5, 4], 0), (1, [20, 19, 4], [], 0), (1, [19, 17, 18], [], 0), (0, [18], [], 1), (3, [17, 16, 3], [], 0), (0, [16], [], 6), (20, [15, 2], [4], 31), (0, [15], [], 305), (30, [14], [], 0), (20, [14, 2], [4], 13), (90, [14], [], 0), (91, [14], [], 2), (1223, [13, 2, 11, 12], [3, 4], 0), (90, [13], [], 0), (91, [13], [], 9999), (0, [12], [], 400), (0, [11], [], 0), (1217, [2, 10], [2, 3], 0), (0, [10], [], 2), (40, [4, 9], [], 0), (0, [9], [], 4), (31, [8], [], 0), (1216, [8, 2, 7], [1, 2], 0), (90, [8], [], 0), (91, [8], [], 1), (0, [7], [], 2), (30, [6], [], 0), (20, [6, 2], [1], 13), (90, [6], [], 0), (91, [6], [], 2), (31, [5], [], 0), (5000, [0, 1, 2, 3, 4, 5], [0, 1], 22), (0, [0], [], 285), (90, [1], [], 0), (91, [1], [], 1007), (0, [2], [], 285), (90, [3], [], 0), (91, [3], [], 1007), (90, [4], [], 0), (91, [4], [], 5), (90, [5], [], 0), (91, [5], [], 1)], (4000, [2, 3, 21, 23], [7], 22))
theorem c_230_22_42 {q0 : Nat} : vOkm T0 (eP e_230 L_230 A_230 mu_230 (some q0)) 2 g_230_22_42 := vOk_inI fun ρ η f0 f1 f2 f3 f4 f5 f6 f7 f8 f9 f10 f11 f12 f13 f14 f15 f16 f17 f18 f19 f20 f21 f22 f23 f24 f25 f26 f27 f28 f29 f30 f31 f32 f33 f34 f35 f36 f37 f38 f39 f40 f41 f42 f43 f44 f45 f46 f47 f48 => q_230_31 (q0 := q0) (n0 := ρ 5) (n1 := ρ 4) (n2 := ρ 3) (n3 := ρ 2) (n4 := ρ 1) (n5 := ρ 0) (n6 := ρ 6) (n7 := ρ 7) (n8 := ρ 8) (n9 := ρ 9) (n10 := ρ 10) (n11 := ρ 11) (n12 := ρ 12) (n13 := ρ 13) (n14 := ρ 14) (n15 := ρ 15) (n16 := ρ 16) (n17 := ρ 17) (n18 := ρ 18) (n19 := ρ 19) (n20 := ρ 20) (n21 := ρ 21) (n22 := ρ 22) (n23 := ρ 23) (H0 := η 0) (H1 := η 1) (H2 := η 2) (H3 := η 3) (H4 := η 4) (H5 := η 5) (H6 := η 6) (H7 := η 7) f48 f47 f46 f45 f44 f43 f42 f41 f40 f39 f38 f37 f36 f35 f34 f33 f32 f31 f30 f29 f28 f27 f26 f25 f24 f23 f22 f21 f20 f19 f18 f17 f16 f15 f14 f13 f12 f11 f10 f9 f8 f7 f6 f5 f4 f3 f2 f1 f0
def p_230_22 : List vG := [g_230_22_0,
  g_230_22_1,
  g_230_22_2,
  g_230_22_3,
  g_230_22_4,
  g_230_22_5,
  g_230_22_6,
  g_230_22_7,
  g_230_22_8,
  g_230_22_9,
  g_230_22_10,
  g_230_22_11,
  g_230_22_12,
  g_230_22_13,
  g_230_22_14,
  g_230_22_15,
  g_230_22_16,
  g_230_22_17,
  g_230_22_18,
  g_230_22_19,
  g_230_22_20,
  g_230_22_21,
  g_230_22_22,
  g_230_22_23,
  g_230_22_24,
  g_230_22_25,
  g_230_22_26,
  g_230_22_27,
  g_230_22_28,
  g_230_22_29,
  g_230_22_30,
  g_230_22_31,
  g_230_22_32,
  g_230_22_33,
  g_230_22_34,
  g_230_22_35,
  g_230_22_36,
  g_230_22_37,
  g_230_22_38,
  g_230_22_39,
  g_230_22_40,
  g_230_22_41,
  g_230_22_42]
theorem r_230_22 : vCovO false (eRc e_230 L_230 cs_230 2000 (22, [(0, (3, 12, 285, 0)), (1, (0, 0, 1007, 0)), (2, (0, 0, 5, 0)), (3, (0, 0, 1, 0))])) p_230_22 = true := by decide +kernel
theorem m_230 (d : Nat) : eC e_230 (d + 5) := eC_ok (e := e_230) (L := L_230) (cs := cs_230) (n := 2000) (d := d + 4) (A := A_230) (μ := mu_230) (tp := false) (p0 := p_230_s) rfl ⟨m_216 (d + 3), ⟨m_217 (d + 3), ⟨m_219 (d + 2), ⟨m_220 (d + 1), ⟨m_223 d, trivial⟩⟩⟩⟩⟩ rfl (.inl rfl) (by decide +kernel) (fun z => nomatch z) r_230_s (allC c_230_s_0 allN) (allC (.inl ⟨p_230_22, r_230_22, fun q0 => (allC c_230_22_0 (allC c_230_22_1 (allC c_230_22_2 (allC c_230_22_3 (allC c_230_22_4 (allC c_230_22_5 (allC c_230_22_6 (allC c_230_22_7 (allC c_230_22_8 (allC c_230_22_9 (allC c_230_22_10 (allC c_230_22_11 (allC c_230_22_12 (allC c_230_22_13 (allC c_230_22_14 (allC c_230_22_15 (allC c_230_22_16 (allC c_230_22_17 (allC c_230_22_18 (allC c_230_22_19 (allC c_230_22_20 (allC c_230_22_21 (allC c_230_22_22 (allC c_230_22_23 (allC c_230_22_24 (allC c_230_22_25 (allC c_230_22_26 (allC c_230_22_27 (allC c_230_22_28 (allC c_230_22_29 (allC c_230_22_30 (allC c_230_22_31 (allC c_230_22_32 (allC c_230_22_33 (allC c_230_22_34 (allC c_230_22_35 (allC c_230_22_36 (allC c_230_22_37 (allC c_230_22_38 (allC c_230_22_39 (allC c_230_22_40 (allC c_230_22_41 (allC c_230_22_42 allN)))))))))))))))))))))))))))))))))))))))))))⟩) allN)
